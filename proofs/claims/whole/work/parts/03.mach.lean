/-! ===== THE SMALL MACHINE: cells by address, locals by place, one step a row; 'wp' over it ===== -/
/-- a cell: ints (kind 0) or booleans (kind 1); longs; references (kind 0: Bin, 1: Stage); an object (class number, fields) -/
abbrev az_C : Type := (Nat × Nat × (Int → Int32)) ⊕ ((Nat × (Int → Int64)) ⊕ ((Nat × Nat × (Int → Option Nat)) ⊕ (Nat × List Value)))
abbrev az_ia (t n : Nat) (g : Int → Int32) : az_C := .inl (t, n, g)
abbrev az_la (n : Nat) (g : Int → Int64) : az_C := .inr (.inl (n, g))
abbrev az_ra (t n : Nat) (g : Int → Option Nat) : az_C := .inr (.inr (.inl (t, n, g)))
abbrev az_ob (ci : Nat) (fs : List Value) : az_C := .inr (.inr (.inr (ci, fs)))
/-- the heap: cells by address; the next address; the slots in use -/
abbrev az_H : Type := (Nat → az_C) × Nat × Nat
abbrev az_L : Type := Nat → Option Value
abbrev az_S : Type := Nat × az_L × List Value × az_H
abbrev az_I : Type := Instr × Nat × Nat × Nat × Int
abbrev az_R : Type := Option (az_S ⊕ ((Option Value × az_H) ⊕ (Nat × List Value × az_S)))
abbrev az_row : Type := MethodName × ByteArray × Nat × Option FieldType × (Nat → Option az_I)
abbrev az_Cl : Type := Nat → List Value → az_H → Option Value → az_H → Prop
def az_ui {α : Type} (g : Int → α) (i : Int) (x : α) : Int → α := fun j => if j = i then x else g j
def az_uh (h : az_H) (a : Nat) (c : az_C) : az_H := (va_up h.1 a c, h.2)
def az_nw (h : az_H) (c : az_C) (n : Nat) : az_H := (va_up h.1 h.2.1 c, h.2.1 + 1, h.2.2 + n)
def az_nl (v : Option Value) : Option Value := match v with
  | some (.long _) => none
  | some (.double _) => none
  | w => w
/-- a local of one word; of two words -/
def az_s1 (lv : az_L) (i : Nat) (v : Value) : az_L := fun j => if j = i then some v else if j + 1 = i then az_nl (lv j) else lv j
def az_s2 (lv : az_L) (i : Nat) (v : Value) : az_L := fun j => if j = i then some v else if j = i + 1 then none else if j + 1 = i then az_nl (lv j) else lv j
def az_arg : Nat → List Value → az_L
  | _, [] => fun _ => none
  | k, v :: vs => fun j => if j = k then some v else az_arg (if v.category = 2 then k + 2 else k + 1) vs j
def az_nx (pc : Nat) (lv : az_L) (st : List Value) (h : az_H) : az_R := some (.inl (pc, lv, st, h))
def az_ldi (v : Option Value) (pc : Nat) (lv : az_L) (st : List Value) (h : az_H) : az_R := match v with
  | some (.int x) => az_nx pc lv (.int x :: st) h
  | _ => none
def az_ldl (v : Option Value) (pc : Nat) (lv : az_L) (st : List Value) (h : az_H) : az_R := match v with
  | some (.long x) => az_nx pc lv (.long x :: st) h
  | _ => none
def az_lda (v : Option Value) (pc : Nat) (lv : az_L) (st : List Value) (h : az_H) : az_R := match v with
  | some (.ref x) => az_nx pc lv (.ref x :: st) h
  | some .null => az_nx pc lv (.null :: st) h
  | _ => none
def az_sti (i pc : Nat) (lv : az_L) (st : List Value) (h : az_H) : az_R := match st with
  | .int x :: st => az_nx pc (az_s1 lv i (.int x)) st h
  | _ => none
def az_stl (i pc : Nat) (lv : az_L) (st : List Value) (h : az_H) : az_R := match st with
  | .long x :: st => az_nx pc (az_s2 lv i (.long x)) st h
  | _ => none
def az_sta (i pc : Nat) (lv : az_L) (st : List Value) (h : az_H) : az_R := match st with
  | .ref x :: st => az_nx pc (az_s1 lv i (.ref x)) st h
  | .null :: st => az_nx pc (az_s1 lv i .null) st h
  | _ => none
def az_inc (v : Option Value) (i : Nat) (n : Int) (pc : Nat) (lv : az_L) (st : List Value) (h : az_H) : az_R := match v with
  | some (.int x) => az_nx pc (az_s1 lv i (.int (x + Int32.ofInt n))) st h
  | _ => none
def az_ii (f : Int32 → Int32 → Int32) (pc : Nat) (lv : az_L) (st : List Value) (h : az_H) : az_R := match st with
  | .int y :: .int x :: st => az_nx pc lv (.int (f x y) :: st) h
  | _ => none
def az_ll (f : Int64 → Int64 → Int64) (pc : Nat) (lv : az_L) (st : List Value) (h : az_H) : az_R := match st with
  | .long y :: .long x :: st => az_nx pc lv (.long (f x y) :: st) h
  | _ => none
def az_ldv (f : Int64 → Int64 → Int64) (pc : Nat) (lv : az_L) (st : List Value) (h : az_H) : az_R := match st with
  | .long y :: .long x :: st => if y = 0 then none else az_nx pc lv (.long (f x y) :: st) h
  | _ => none
def az_cmp (pc : Nat) (lv : az_L) (st : List Value) (h : az_H) : az_R := match st with
  | .long y :: .long x :: st => az_nx pc lv (.int (lg_cmp x y) :: st) h
  | _ => none
def az_il (pc : Nat) (lv : az_L) (st : List Value) (h : az_H) : az_R := match st with
  | .int x :: st => az_nx pc lv (.long x.toInt64 :: st) h
  | _ => none
def az_li (pc : Nat) (lv : az_L) (st : List Value) (h : az_H) : az_R := match st with
  | .long x :: st => az_nx pc lv (.int x.toInt32 :: st) h
  | _ => none
def az_dup (pc : Nat) (lv : az_L) (st : List Value) (h : az_H) : az_R := match st with
  | .int x :: st => az_nx pc lv (.int x :: .int x :: st) h
  | .ref x :: st => az_nx pc lv (.ref x :: .ref x :: st) h
  | _ => none
def az_dup2 (pc : Nat) (lv : az_L) (st : List Value) (h : az_H) : az_R := match st with
  | .int x :: .ref y :: st => az_nx pc lv (.int x :: .ref y :: .int x :: .ref y :: st) h
  | .long x :: st => az_nx pc lv (.long x :: .long x :: st) h
  | _ => none
def az_if1 (p : Int32 → Bool) (t pc : Nat) (lv : az_L) (st : List Value) (h : az_H) : az_R := match st with
  | .int x :: st => az_nx (if p x then t else pc) lv st h
  | _ => none
def az_if2 (p : Int32 → Int32 → Bool) (t pc : Nat) (lv : az_L) (st : List Value) (h : az_H) : az_R := match st with
  | .int y :: .int x :: st => az_nx (if p x y then t else pc) lv st h
  | _ => none
def az_c1 (c : Jvm.ClassFile.Cond) (x : Int32) : Bool := match c with
  | .eq => decide (x = 0)
  | .ne => decide (¬ x = 0)
  | .lt => decide (x < 0)
  | .ge => decide (0 ≤ x)
  | .gt => decide (0 < x)
  | .le => decide (x ≤ 0)
def az_c2 (c : Jvm.ClassFile.Cond) (x y : Int32) : Bool := match c with
  | .eq => decide (x = y)
  | .ne => decide (¬ x = y)
  | .lt => decide (x < y)
  | .ge => decide (y ≤ x)
  | .gt => decide (y < x)
  | .le => decide (x ≤ y)
def az_nul (t pc : Nat) (lv : az_L) (st : List Value) (h : az_H) : az_R := match st with
  | .null :: st => az_nx t lv st h
  | .ref _ :: st => az_nx pc lv st h
  | _ => none
def az_sel (pc : Nat) (d : Int) : List Int → Int → Int → Nat
  | [], _, _ => ((pc : Int) + d).toNat
  | o :: os, i, x => if x = i then ((pc : Int) + o).toNat else az_sel pc d os (i + 1) x
def az_swi (d lo : Int) (offs : List Int) (pc : Nat) (lv : az_L) (st : List Value) (h : az_H) : az_R := match st with
  | .int x :: st => az_nx (az_sel pc d offs lo x.toInt) lv st h
  | _ => none
def az_obf (c : az_C) (ci k : Nat) : Option Value := match c with
  | .inr (.inr (.inr (c0, fs))) => if c0 = ci then fs[k]? else none
  | _ => none
def az_gf (ci k pc : Nat) (lv : az_L) (st : List Value) (h : az_H) : az_R := match st with
  | .ref a :: st => (match az_obf (h.1 a) ci k with
    | some v => az_nx pc lv (v :: st) h
    | none => none)
  | _ => none
/-- a value fits a field: 0 int, 1 long, 2 boolean, 3 a reference -/
def az_fit (t : Int) (v : Value) : Bool := match v with
  | .int x => decide (t = 0) || (decide (t = 2) && (decide (x = 0) || decide (x = 1)))
  | .long _ => decide (t = 1)
  | .ref _ => decide (t = 3)
  | .null => decide (t = 3)
  | _ => false
def az_obs (c : az_C) (ci k : Nat) (v : Value) : Option az_C := match c with
  | .inr (.inr (.inr (c0, fs))) => if c0 = ci ∧ k < fs.length then some (az_ob ci (fs.set k v)) else none
  | _ => none
def az_pf (ci k : Nat) (t : Int) (pc : Nat) (lv : az_L) (st : List Value) (h : az_H) : az_R := match st with
  | v :: .ref a :: st => (match az_obs (h.1 a) ci k v with
    | some c => if az_fit t v then az_nx pc lv st (az_uh h a c) else none
    | none => none)
  | _ => none
def az_ial (t pc : Nat) (lv : az_L) (st : List Value) (h : az_H) (X : Nat → Option az_C) : az_R := match st with
  | .int i :: .ref a :: st => (match (X a).getD (h.1 a) with
    | .inl (t0, n, g) => if t0 = t ∧ 0 ≤ i.toInt ∧ i.toInt < n then az_nx pc lv (.int (g i.toInt) :: st) h else none
    | _ => none)
  | _ => none
def az_ias (pc : Nat) (lv : az_L) (st : List Value) (h : az_H) : az_R := match st with
  | .int x :: .int i :: .ref a :: st => (match h.1 a with
    | .inl (t0, n, g) => if t0 = 0 ∧ 0 ≤ i.toInt ∧ i.toInt < n then az_nx pc lv st (az_uh h a (az_ia 0 n (az_ui g i.toInt x))) else none
    | _ => none)
  | _ => none
def az_zas (pc : Nat) (lv : az_L) (st : List Value) (h : az_H) : az_R := match st with
  | .int x :: .int i :: .ref a :: st => (match h.1 a with
    | .inl (t0, n, g) => if (t0 = 1 ∧ (x = 0 ∨ x = 1)) ∧ 0 ≤ i.toInt ∧ i.toInt < n then az_nx pc lv st (az_uh h a (az_ia 1 n (az_ui g i.toInt x))) else none
    | _ => none)
  | _ => none
def az_lal (pc : Nat) (lv : az_L) (st : List Value) (h : az_H) : az_R := match st with
  | .int i :: .ref a :: st => (match h.1 a with
    | .inr (.inl (n, g)) => if 0 ≤ i.toInt ∧ i.toInt < n then az_nx pc lv (.long (g i.toInt) :: st) h else none
    | _ => none)
  | _ => none
def az_las (pc : Nat) (lv : az_L) (st : List Value) (h : az_H) : az_R := match st with
  | .long x :: .int i :: .ref a :: st => (match h.1 a with
    | .inr (.inl (n, g)) => if 0 ≤ i.toInt ∧ i.toInt < n then az_nx pc lv st (az_uh h a (az_la n (az_ui g i.toInt x))) else none
    | _ => none)
  | _ => none
def az_aal (pc : Nat) (lv : az_L) (st : List Value) (h : az_H) : az_R := match st with
  | .int i :: .ref a :: st => (match h.1 a with
    | .inr (.inr (.inl (t, n, g))) => if t < 2 ∧ 0 ≤ i.toInt ∧ i.toInt < n then az_nx pc lv (va_rf (g i.toInt) :: st) h else none
    | _ => none)
  | _ => none
/-- which class's objects an array of references holds -/
def az_rc (t : Nat) : Nat := if t = 0 then 0 else 8
def az_isob (c : az_C) (ci : Nat) : Bool := match c with
  | .inr (.inr (.inr (c0, _))) => decide (c0 = ci)
  | _ => false
def az_aas (pc : Nat) (lv : az_L) (st : List Value) (h : az_H) : az_R := match st with
  | .ref v :: .int i :: .ref a :: st => (match h.1 a with
    | .inr (.inr (.inl (t, n, g))) => if (t < 2 ∧ az_isob (h.1 v) (az_rc t) = true) ∧ 0 ≤ i.toInt ∧ i.toInt < n then az_nx pc lv st (az_uh h a (az_ra t n (az_ui g i.toInt (some v)))) else none
    | _ => none)
  | _ => none
def az_len (c : az_C) : Option Nat := match c with
  | .inl (t, n, _) => if t < 2 then some n else none
  | .inr (.inl (n, _)) => some n
  | .inr (.inr (.inl (t, n, _))) => if t < 2 then some n else none
  | _ => none
def az_aln (pc : Nat) (lv : az_L) (st : List Value) (h : az_H) (X : Nat → Option az_C) : az_R := match st with
  | .ref a :: st => (match az_len ((X a).getD (h.1 a)) with
    | some n => az_nx pc lv (.int (Int32.ofNat n) :: st) h
    | none => none)
  | _ => none
/-- a new object's fields, by class number -/
def az_z (ci : Nat) : List Value := match ci with
  | 0 => [.int 0, .null, .int 0, .int 0]
  | 1 => [.null, .null, .null, .int 0, .int 0]
  | 2 => [.null, .null, .int 0]
  | 3 => [.long 0, .long 0, .long 0, .long 0, .long 0, .null, .int 0, .null]
  | 4 => [.int 0, .int 0, .int 0, .null]
  | 5 => [.int 0, .null, .null, .null, .null]
  | 6 => [.null, .null, .null, .int 0]
  | 7 => [.null, .null, .null, .null, .null, .int 0]
  | 8 => [.int 0, .int 0, .int 0, .int 0, .null, .int 0, .null, .null, .int 0, .null, .int 0, .int 0, .int 0, .int 0, .int 0, .int 0, .int 0, .int 0, .null, .null]
  | 9 => [.null, .null]
  | 10 => [.null, .null, .null, .null, .null, .null, .int 0, .int 0]
  | _ => [.int 0, .int 0, .int 0, .null, .null, .null, .null, .null, .null, .null, .null, .null, .null, .null, .null, .null, .null, .null, .null, .null, .null, .null, .null, .null, .null, .null, .null, .null, .null, .null, .null, .null, .null, .int 0, .null, .null, .null, .null, .int 0, .null, .null, .null, .null, .int 0, .null, .null, .null, .null, .long 0, .long 0, .long 0, .long 0, .long 0, .null, .null]
def az_newo (ci pc : Nat) (lv : az_L) (st : List Value) (h : az_H) : az_R := az_nx pc lv (.ref h.2.1 :: st) (az_nw h (az_ob ci (az_z ci)) (az_z ci).length)
def az_newa (t : ArrayType) (pc : Nat) (lv : az_L) (st : List Value) (h : az_H) : az_R := match st with
  | .int n :: st => if 0 ≤ n.toInt ∧ n.toInt ≤ 65536 then (match t with
      | .int => az_nx pc lv (.ref h.2.1 :: st) (az_nw h (az_ia 0 n.toInt.toNat (fun _ => 0)) n.toInt.toNat)
      | .boolean => az_nx pc lv (.ref h.2.1 :: st) (az_nw h (az_ia 1 n.toInt.toNat (fun _ => 0)) n.toInt.toNat)
      | .long => az_nx pc lv (.ref h.2.1 :: st) (az_nw h (az_la n.toInt.toNat (fun _ => 0)) n.toInt.toNat)
      | _ => none) else none
  | _ => none
def az_newr (t pc : Nat) (lv : az_L) (st : List Value) (h : az_H) : az_R := match st with
  | .int n :: st => if 0 ≤ n.toInt ∧ n.toInt ≤ 65536 then az_nx pc lv (.ref h.2.1 :: st) (az_nw h (az_ra t n.toInt.toNat (fun _ => none)) n.toInt.toNat) else none
  | _ => none
def az_sp : Nat → List Value → List Value → Option (List Value × List Value)
  | 0, acc, st => some (acc, st)
  | n + 1, acc, v :: st => az_sp n (v :: acc) st
  | _ + 1, _, [] => none
def az_cat : List Value → Nat
  | [] => 0
  | v :: vs => v.category + az_cat vs
def az_call (j : Nat) (as : List Value) (pc : Nat) (lv : az_L) (st : List Value) (h : az_H) : az_R := if az_cat st ≤ 8 then some (.inr (.inr (j, as, pc, lv, st, h))) else none
def az_inv (j n : Nat) (ci : Int) (pc : Nat) (lv : az_L) (st : List Value) (h : az_H) : az_R := match az_sp n [] st with
  | some (as, .ref a :: st) => if az_isob (h.1 a) ci.toNat then az_call j (.ref a :: as) pc lv st h else none
  | _ => none
def az_ins1 (j n : Nat) (pc : Nat) (lv : az_L) (st : List Value) (h : az_H) : az_R := match az_sp n [] st with
  | some (as, .ref a :: st) => if j = 1000 then (if az_cat st ≤ 8 then az_nx pc lv st h else none) else az_call j (.ref a :: as) pc lv st h
  | _ => none
def az_cpy (sp dp n : Int) (f g : Int → Int32) : Int → Int32 := fun k => if dp ≤ k ∧ k < dp + n then f (sp + (k - dp)) else g k
def az_ac (pc : Nat) (lv : az_L) (st : List Value) (h : az_H) : az_R := match st with
  | .int n :: .int dp :: .ref a :: .int sp :: .ref b :: st => (match h.1 b, h.1 a with
    | .inl (t0, n0, f), .inl (t1, n1, g) => if (t0 = 0 ∧ t1 = 0 ∧ az_cat st ≤ 8) ∧ (0 ≤ sp.toInt ∧ 0 ≤ dp.toInt ∧ 0 ≤ n.toInt ∧ sp.toInt + n.toInt ≤ n0 ∧ dp.toInt + n.toInt ≤ n1) then az_nx pc lv st (az_uh h a (az_ia 0 n1 (az_cpy sp.toInt dp.toInt n.toInt f g))) else none
    | _, _ => none)
  | _ => none
def az_mx (p : Int32 → Int32 → Bool) (pc : Nat) (lv : az_L) (st : List Value) (h : az_H) : az_R := match st with
  | .int y :: .int x :: st => if az_cat st ≤ 8 then az_nx pc lv (.int (if p x y then y else x) :: st) h else none
  | _ => none
def az_sta1 (j n : Nat) (pc : Nat) (lv : az_L) (st : List Value) (h : az_H) : az_R :=
  if j = 1001 then az_mx (fun x y => decide (x < y)) pc lv st h else
  if j = 1002 then az_mx (fun x y => decide (y < x)) pc lv st h else
  if j = 1003 then az_ac pc lv st h else
  match az_sp n [] st with
  | some (as, st) => az_call j as pc lv st h
  | none => none
def az_reti (rt : Option FieldType) (st : List Value) (h : az_H) : az_R := match rt, st with
  | some .int, [.int v] => some (.inr (.inl (some (.int v), h)))
  | some .boolean, [.int v] => if v = 0 ∨ v = 1 then some (.inr (.inl (some (.int v), h))) else none
  | _, _ => none
def az_retl (rt : Option FieldType) (st : List Value) (h : az_H) : az_R := match rt, st with
  | some .long, [.long v] => some (.inr (.inl (some (.long v), h)))
  | _, _ => none
def az_isrt (rt : Option FieldType) : Bool := match rt with
  | some (.object _) => true
  | some (.array _) => true
  | _ => false
def az_reta (rt : Option FieldType) (st : List Value) (h : az_H) : az_R := match st with
  | [.ref v] => if az_isrt rt then some (.inr (.inl (some (.ref v), h))) else none
  | [.null] => if az_isrt rt then some (.inr (.inl (some .null, h))) else none
  | _ => none
def az_retv (rt : Option FieldType) (st : List Value) (h : az_H) : az_R := match rt, st with
  | none, [] => some (.inr (.inl (none, h)))
  | _, _ => none
/-- one instruction: 'n' its length, 'a b c' what was found out about it ahead of time -/
def az_ins (X : Nat → Option az_C) (rt : Option FieldType) (n a b : Nat) (c : Int) (pc : Nat) (lv : az_L) (st : List Value) (h : az_H) : Instr → az_R
  | .iload_n k => az_ldi (lv k) (pc + n) lv st h
  | .iload k => az_ldi (lv k) (pc + n) lv st h
  | .lload_n k => az_ldl (lv k) (pc + n) lv st h
  | .lload k => az_ldl (lv k) (pc + n) lv st h
  | .aload_n k => az_lda (lv k) (pc + n) lv st h
  | .aload k => az_lda (lv k) (pc + n) lv st h
  | .istore_n k => az_sti k (pc + n) lv st h
  | .istore k => az_sti k (pc + n) lv st h
  | .lstore_n k => az_stl k (pc + n) lv st h
  | .lstore k => az_stl k (pc + n) lv st h
  | .astore_n k => az_sta k (pc + n) lv st h
  | .astore k => az_sta k (pc + n) lv st h
  | .iinc k d => az_inc (lv k) k d (pc + n) lv st h
  | .iconst _ => az_nx (pc + n) lv (.int (Int32.ofInt c) :: st) h
  | .bipush _ => az_nx (pc + n) lv (.int (Int32.ofInt c) :: st) h
  | .sipush _ => az_nx (pc + n) lv (.int (Int32.ofInt c) :: st) h
  | .ldc _ => az_nx (pc + n) lv (.int (Int32.ofInt c) :: st) h
  | .lconst _ => az_nx (pc + n) lv (.long (Int64.ofInt c) :: st) h
  | .ldc2_w _ => az_nx (pc + n) lv (.long (Int64.ofInt c) :: st) h
  | .aconst_null => az_nx (pc + n) lv (.null :: st) h
  | .iadd => az_ii (fun x y => x + y) (pc + n) lv st h
  | .isub => az_ii (fun x y => x - y) (pc + n) lv st h
  | .imul => az_ii (fun x y => x * y) (pc + n) lv st h
  | .iand => az_ii (fun x y => x &&& y) (pc + n) lv st h
  | .ior => az_ii (fun x y => x ||| y) (pc + n) lv st h
  | .ishl => az_ii (fun x y => x <<< (y &&& 31)) (pc + n) lv st h
  | .ladd => az_ll (fun x y => x + y) (pc + n) lv st h
  | .lsub => az_ll (fun x y => x - y) (pc + n) lv st h
  | .lmul => az_ll (fun x y => x * y) (pc + n) lv st h
  | .ldiv => az_ldv (fun x y => x / y) (pc + n) lv st h
  | .lrem => az_ldv (fun x y => x - x / y * y) (pc + n) lv st h
  | .lcmp => az_cmp (pc + n) lv st h
  | .i2l => az_il (pc + n) lv st h
  | .l2i => az_li (pc + n) lv st h
  | .dup => az_dup (pc + n) lv st h
  | .dup2 => az_dup2 (pc + n) lv st h
  | .goto _ => az_nx a lv st h
  | .ifCond p _ => az_if1 (az_c1 p) a (pc + n) lv st h
  | .if_icmp p _ => az_if2 (az_c2 p) a (pc + n) lv st h
  | .ifnull _ => az_nul a (pc + n) lv st h
  | .ifnonnull _ => az_nul (pc + n) a lv st h
  | .tableswitch d lo _ offs => az_swi d lo offs.toList pc lv st h
  | .getfield _ => az_gf a b (pc + n) lv st h
  | .putfield _ => az_pf a b c (pc + n) lv st h
  | .iaload => az_ial 0 (pc + n) lv st h X
  | .baload => az_ial 1 (pc + n) lv st h X
  | .iastore => az_ias (pc + n) lv st h
  | .bastore => az_zas (pc + n) lv st h
  | .laload => az_lal (pc + n) lv st h
  | .lastore => az_las (pc + n) lv st h
  | .aaload => az_aal (pc + n) lv st h
  | .aastore => az_aas (pc + n) lv st h
  | .arraylength => az_aln (pc + n) lv st h X
  | .new _ => az_newo a (pc + n) lv st h
  | .newarray t => az_newa t (pc + n) lv st h
  | .anewarray _ => az_newr a (pc + n) lv st h
  | .invokevirtual _ => az_inv a b c (pc + n) lv st h
  | .invokespecial _ => az_ins1 a b (pc + n) lv st h
  | .invokestatic _ => az_sta1 a b (pc + n) lv st h
  | .ireturn => az_reti rt st h
  | .lreturn => az_retl rt st h
  | .areturn => az_reta rt st h
  | .return_ => az_retv rt st h
  | _ => none
def az_step (X : Nat → Option az_C) (rt : Option FieldType) (e : Option az_I) (s : az_S) : az_R := match e with
  | some (i, n, a, b, c) => az_ins X rt n a b c s.1 s.2.1 s.2.2.1 s.2.2.2 i
  | none => none
def az_go (C : az_Cl) (Q : Option Value → az_H → Prop) (K : az_S → Prop) (r : az_R) : Prop := match r with
  | some (.inl s) => K s
  | some (.inr (.inl (v, h))) => Q v h
  | some (.inr (.inr (j, as, pc, lv, st, h))) => ∃ (v : Option Value) (h' : az_H), C j as h v h' ∧ K (pc, lv, v.toList ++ st, h')
  | none => False
/-- at most k steps from s to a return with Q -/
def az_wk (C : az_Cl) (X : Nat → Option az_C) (rt : Option FieldType) (M : Nat → Option az_I) (Q : Option Value → az_H → Prop) : Nat → az_S → Prop
  | 0, _ => False
  | k + 1, s => az_go C Q (az_wk C X rt M Q k) (az_step X rt (M s.1) s)
def az_wp (C : az_Cl) (X : Nat → Option az_C) (rt : Option FieldType) (M : Nat → Option az_I) (Q : Option Value → az_H → Prop) (s : az_S) : Prop := ∃ k, az_wk C X rt M Q k s
/-- a method of the table, called at depth n: its answer, and the heap behind it -/
def az_ex (T : List az_row) : Nat → az_Cl
  | 0, _, _, _, _, _ => False
  | n + 1, j, as, h, r, h' => ∃ R : az_row, T[j]? = some R ∧ (lg_sl as).length ≤ R.2.2.1 ∧ az_wp (az_ex T n) (fun _ => none) R.2.2.2.1 R.2.2.2.2 (fun r0 h0 => r0 = r ∧ h0 = h') (0, az_arg 0 as, [], h)
theorem az_go_mono {C : az_Cl} {Q Q' : Option Value → az_H → Prop} {K K' : az_S → Prop} {r : az_R} (hq : ∀ v h, Q v h → Q' v h) (hk : ∀ s, K s → K' s) (h : az_go C Q K r) : az_go C Q' K' r := by
  rcases r with _ | s | ⟨v, h0⟩ | ⟨j, as, pc, lv, st, h0⟩
  · exact h
  · exact hk _ h
  · exact hq _ _ h
  · obtain ⟨v, h', a, b⟩ := h
    exact ⟨v, h', a, hk _ b⟩
theorem az_wk_mono {C : az_Cl} {X : Nat → Option az_C} {rt : Option FieldType} {M : Nat → Option az_I} {Q Q' : Option Value → az_H → Prop} (hq : ∀ v h, Q v h → Q' v h) : ∀ (k : Nat) (s : az_S), az_wk C X rt M Q k s → az_wk C X rt M Q' k s
  | 0, _, h => h
  | k + 1, _, h => az_go_mono hq (az_wk_mono hq k) h
theorem az_wk_succ {C : az_Cl} {X : Nat → Option az_C} {rt : Option FieldType} {M : Nat → Option az_I} {Q : Option Value → az_H → Prop} : ∀ (k : Nat) (s : az_S), az_wk C X rt M Q k s → az_wk C X rt M Q (k + 1) s
  | 0, _, h => h.elim
  | k + 1, s, h => by
    show az_go C Q (az_wk C X rt M Q (k + 1)) (az_step X rt (M s.1) s)
    exact az_go_mono (fun _ _ q => q) (az_wk_succ k) h
theorem az_wp_mono {C : az_Cl} {X : Nat → Option az_C} {rt : Option FieldType} {M : Nat → Option az_I} {Q Q' : Option Value → az_H → Prop} {s : az_S} (hq : ∀ v h, Q v h → Q' v h) (h : az_wp C X rt M Q s) : az_wp C X rt M Q' s := by
  obtain ⟨k, h⟩ := h
  exact ⟨k, az_wk_mono hq k s h⟩
/-- the step rule -/
theorem az_wp_iff {C : az_Cl} {X : Nat → Option az_C} {rt : Option FieldType} {M : Nat → Option az_I} {Q : Option Value → az_H → Prop} {s : az_S} : az_wp C X rt M Q s ↔ az_go C Q (az_wp C X rt M Q) (az_step X rt (M s.1) s) := by
  constructor
  · intro ⟨k, h⟩
    cases k with
    | zero => exact h.elim
    | succ k => exact az_go_mono (fun _ _ q => q) (fun s h => ⟨k, h⟩) h
  · intro h
    generalize hr : az_step X rt (M s.1) s = r at h
    rcases r with _ | s' | ⟨v, h0⟩ | ⟨j, as, pc, lv, st, h0⟩
    · exact h.elim
    · obtain ⟨k, h⟩ := h
      exact ⟨k + 1, by show az_go _ _ _ _; rw [hr]; exact h⟩
    · exact ⟨1, by show az_go _ _ _ _; rw [hr]; exact h⟩
    · obtain ⟨v, h', a, k, b⟩ := h
      exact ⟨k + 1, by show az_go _ _ _ _; rw [hr]; exact ⟨v, h', a, b⟩⟩
/-- a run has one end -/
theorem az_wk_det {C : az_Cl} {X : Nat → Option az_C} {rt : Option FieldType} {M : Nat → Option az_I} {Q : Option Value → az_H → Prop} : ∀ (k : Nat) (s : az_S), az_wk C X rt M Q k s → ∃ r h', Q r h' ∧ az_wk C X rt M (fun r0 h0 => r0 = r ∧ h0 = h') k s
  | 0, _, h => h.elim
  | k + 1, s, h => by
    have h : az_go C Q (az_wk C X rt M Q k) (az_step X rt (M s.1) s) := h
    generalize hr : az_step X rt (M s.1) s = r at h
    rcases r with _ | s' | ⟨v, h0⟩ | ⟨j, as, pc, lv, st, h0⟩
    · exact h.elim
    · obtain ⟨r, h', a, b⟩ := az_wk_det k s' h
      exact ⟨r, h', a, by show az_go _ _ _ _; rw [hr]; exact b⟩
    · exact ⟨v, h0, h, by show az_go _ _ _ _; rw [hr]; exact ⟨rfl, rfl⟩⟩
    · obtain ⟨v, h1, a, b⟩ := h
      obtain ⟨r, h', a2, b2⟩ := az_wk_det k _ b
      exact ⟨r, h', a2, by show az_go _ _ _ _; rw [hr]; exact ⟨v, h1, a, b2⟩⟩
/-- a call of the table, out of the walk of its body -/
theorem az_ex_of {T : List az_row} {n j : Nat} {as : List Value} {h : az_H} {R : az_row} {Q : Option Value → az_H → Prop} (hT : T[j]? = some R) (hl : (lg_sl as).length ≤ R.2.2.1) (hw : az_wp (az_ex T n) (fun _ => none) R.2.2.2.1 R.2.2.2.2 Q (0, az_arg 0 as, [], h)) :
    ∃ r h', az_ex T (n + 1) j as h r h' ∧ Q r h' := by
  obtain ⟨k, hw⟩ := hw
  obtain ⟨r, h', a, b⟩ := az_wk_det k _ hw
  exact ⟨r, h', ⟨R, hT, hl, k, b⟩, a⟩
