/-! ===== what was found out ahead of time about each instruction is so ===== -/
def az_okF (oc k ci f : Nat) : Bool := match vwCl[ci]? with
  | some (_, T, N) => decide (f < N) && (decide (Cond.fieldLink (az_own oc) k (T f).1 (T f).2.1 (T f).2.2.1 ∈ az_wl oc) || decide (Cond.fieldLinkNest (az_own oc) k (T f).1 (T f).2.1 (T f).2.2.1 "MillLine" ∈ az_nest))
  | none => false
def az_okP (oc k : Nat) (ini : Bool) (ci f : Nat) (c : Int) : Bool := match vwCl[ci]? with
  | some (_, T, _) => (!(T f).2.2.2 || (ini && decide ((T f).1 = az_own oc) && decide (Cond.fieldLink (az_own oc) k (T f).1 (T f).2.1 (T f).2.2.1 ∈ az_wl oc))) && (match parseFieldDescriptor (T f).2.2.1 with
    | some .int => decide (c = 0)
    | some .long => decide (c = 1)
    | some .boolean => decide (c = 2)
    | some (.object _) => decide (c = 3)
    | some (.array _) => decide (c = 3)
    | _ => false)
  | none => false
abbrev az_ZT : Type := Nat × az_row × List (Nat × az_I) × List Cond
def az_okL (oc k : Nat) (y : MethodName) (n : Nat) : Bool := (decide (Cond.methodLink (az_own oc) k y ∈ az_wl oc) || decide (Cond.methodLinkNest (az_own oc) k y "MillLine" ∈ az_nest)) && decide ((parseMethodDescriptor y.desc).map (fun d => d.parameters.length) = some n)
def az_okV (Z : List az_ZT) (oc k j n : Nat) (ci : Int) : Bool := match Z[j]?, vwCl[ci.toNat]? with
  | some q, some r => decide (q.2.1.1.cls = r.1) && decide (Cond.methodLink (az_own oc) k q.2.1.1 ∈ az_wl oc) && decide ((parseMethodDescriptor q.2.1.1.desc).map (fun d => d.parameters.length) = some n) && decide (Cond.instanceMethod q.2.1.1 ∈ q.2.2.2) && decide (Cond.selects r.1 q.2.1.1 q.2.1.1 ∈ q.2.2.2)
  | _, _ => false
def az_okS (Z : List az_ZT) (oc k j n : Nat) : Bool := if j = 1000 then decide (Cond.methodLink (az_own oc) k objectInit ∈ az_wl oc) && decide (n = 0) else (match Z[j]? with
  | some q => az_okL oc k q.2.1.1 n && decide (Cond.instanceMethod q.2.1.1 ∈ q.2.2.2) && decide (q.2.1.1.name = "<init>") && decide (q.2.1.2.2.2.1 = none)
  | _ => false)
def az_okT (Z : List az_ZT) (oc k j n : Nat) : Bool := if j = 1001 then decide (Cond.methodLink (az_own oc) k Lib.Math.max.name ∈ az_wl oc) else if j = 1002 then decide (Cond.methodLink (az_own oc) k Lib.Math.min.name ∈ az_wl oc) else if j = 1003 then decide (Cond.methodLink (az_own oc) k arraycopyName ∈ az_wl oc) else (match Z[j]? with
  | some q => az_okL oc k q.2.1.1 n && decide (Cond.static q.2.1.1 ∈ q.2.2.2)
  | _ => false)
def az_okI (Z : List az_ZT) (oc mx : Nat) (ini : Bool) (n a b : Nat) (c : Int) (pc : Nat) : Instr → Bool
  | .iload_n _ => decide (n = 1)
  | .lload_n _ => decide (n = 1)
  | .aload_n _ => decide (n = 1)
  | .istore_n k => decide (n = 1) && decide ((k : Nat) < mx)
  | .lstore_n k => decide (n = 1) && decide ((k : Nat) + 1 < mx)
  | .astore_n k => decide (n = 1) && decide ((k : Nat) < mx)
  | .iload _ => decide (n = 2)
  | .lload _ => decide (n = 2)
  | .aload _ => decide (n = 2)
  | .istore k => decide (n = 2) && decide (k < mx)
  | .lstore k => decide (n = 2) && decide (k + 1 < mx)
  | .astore k => decide (n = 2) && decide (k < mx)
  | .iinc _ _ => decide (n = 3)
  | .iconst v => decide (n = 1) && decide (Int32.ofInt v = Int32.ofInt c)
  | .bipush v => decide (n = 2) && decide ((Int8.ofInt v).toInt32 = Int32.ofInt c)
  | .sipush v => decide (n = 3) && decide ((Int16.ofInt v).toInt32 = Int32.ofInt c)
  | .ldc k => decide (n = 2) && decide (Cond.constant (az_own oc) k (Int32.ofInt c) ∈ az_wl oc)
  | .lconst v => decide (n = 1) && decide (Int64.ofNat v = Int64.ofInt c)
  | .ldc2_w k => decide (n = 3) && decide (Cond.constantLong (az_own oc) k (Int64.ofInt c) ∈ az_wl oc)
  | .aconst_null => decide (n = 1)
  | .iadd => decide (n = 1)
  | .isub => decide (n = 1)
  | .imul => decide (n = 1)
  | .iand => decide (n = 1)
  | .ior => decide (n = 1)
  | .ishl => decide (n = 1)
  | .ladd => decide (n = 1)
  | .lsub => decide (n = 1)
  | .lmul => decide (n = 1)
  | .ldiv => decide (n = 1)
  | .lrem => decide (n = 1)
  | .lcmp => decide (n = 1)
  | .i2l => decide (n = 1)
  | .l2i => decide (n = 1)
  | .dup => decide (n = 1)
  | .dup2 => decide (n = 1)
  | .goto o => decide (n = 3) && decide ((pc : Int) + o = (a : Int))
  | .ifCond _ o => decide (n = 3) && decide ((pc : Int) + o = (a : Int))
  | .if_icmp _ o => decide (n = 3) && decide ((pc : Int) + o = (a : Int))
  | .ifnull o => decide (n = 3) && decide ((pc : Int) + o = (a : Int))
  | .ifnonnull o => decide (n = 3) && decide ((pc : Int) + o = (a : Int))
  | .tableswitch d lo hi offs => decide (lo + offs.toList.length = hi + 1) && decide (0 ≤ (pc : Int) + d) && offs.toList.all (fun o => decide (0 ≤ (pc : Int) + o))
  | .getfield k => decide (n = 3) && az_okF oc k a b
  | .putfield k => decide (n = 3) && az_okF oc k a b && az_okP oc k ini a b c
  | .iaload => decide (n = 1)
  | .baload => decide (n = 1)
  | .iastore => decide (n = 1)
  | .bastore => decide (n = 1)
  | .laload => decide (n = 1)
  | .lastore => decide (n = 1)
  | .aaload => decide (n = 1)
  | .aastore => decide (n = 1)
  | .arraylength => decide (n = 1)
  | .new k => decide (n = 3) && (match vwCl[a]? with
    | some r => decide (Cond.classLink (az_own oc) k r.1 ∈ az_wl oc)
    | none => false)
  | .newarray _ => decide (n = 2)
  | .anewarray k => decide (n = 3) && decide (a < 2) && (match vwCl[az_rc a]? with
    | some r => decide (Cond.classLink (az_own oc) k r.1 ∈ az_wl oc)
    | none => false)
  | .invokevirtual k => decide (n = 3) && az_okV Z oc k a b c
  | .invokespecial k => decide (n = 3) && az_okS Z oc k a b
  | .invokestatic k => decide (n = 3) && az_okT Z oc k a b
  | .ireturn => decide (n = 1)
  | .lreturn => decide (n = 1)
  | .areturn => decide (n = 1)
  | .return_ => decide (n = 1)
  | _ => true
def az_okE (Z : List az_ZT) (oc mx : Nat) (ini : Bool) (bytes : ByteArray) (e : Nat × az_I) : Bool := decide (decode bytes e.1 = .ok (e.2.1, e.2.2.1)) && az_okI Z oc mx ini e.2.2.1 e.2.2.2.1 e.2.2.2.2.1 e.2.2.2.2.2 e.1 e.2.1
/-- a method's row is good -/
def az_okR (Z : List az_ZT) (q : az_ZT) : Prop := (∀ e ∈ q.2.2.1, az_okE Z q.1 q.2.1.2.2.1 (decide (q.2.1.1.name = "<init>")) q.2.1.2.1 e = true) ∧ q.2.1.2.2.2.2 = az_fn q.2.2.1 ∧ q.2.1.1.cls = az_own q.1 ∧ (∀ w ∈ q.2.2.2, w ∈ lw_tbl) ∧ Cond.code q.2.1.1 q.2.1.2.1 q.2.1.2.2.1 q.2.1.2.2.2.1 ∈ q.2.2.2 ∧ Cond.initialized q.2.1.1.cls ∈ q.2.2.2 ∧ plainName q.2.1.1.cls = true ∧ q.2.1.2.2.1 ≤ 17 ∧ (q.2.1.1.cls ≠ "java/lang/invoke/MethodHandle" ∧ q.2.1.1.cls ≠ "java/lang/invoke/VarHandle")
theorem az_fn_mem : ∀ (l : List (Nat × az_I)) (pc : Nat) (e : az_I), az_fn l pc = some e → (pc, e) ∈ l
  | [], _, _, h => by cases h
  | x :: l, pc, e, h => by
    unfold az_fn at h
    split at h
    · rename_i hp
      cases h
      rw [hp]
      exact List.mem_cons_self
    · exact List.mem_cons_of_mem _ (az_fn_mem l pc e h)
