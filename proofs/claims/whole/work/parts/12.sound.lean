/-! ===== what a step does to the heap's ends ===== -/
def az_mo (base : Nat) (h h1 : az_H) : Prop := h.2.1 ≤ h1.2.1 ∧ h.2.2 ≤ h1.2.2 ∧ (az_reg base h → az_reg base h1)
theorem az_mo.rf {base : Nat} {h : az_H} : az_mo base h h := ⟨Nat.le_refl _, Nat.le_refl _, id⟩
theorem az_mo.tr {base : Nat} {h h1 h2 : az_H} (a : az_mo base h h1) (b : az_mo base h1 h2) : az_mo base h h2 := ⟨Nat.le_trans a.1 b.1, Nat.le_trans a.2.1 b.2.1, fun r => b.2.2 (a.2.2 r)⟩
theorem az_mo.uh {base : Nat} {h : az_H} {a : Nat} {c c' : az_C} (hc : h.1 a = c) (hd : c ≠ az_dd) : az_mo base h (az_uh h a c') := ⟨Nat.le_refl _, Nat.le_refl _, fun r => az_reg_uh r hc hd⟩
theorem az_mo.nw {base : Nat} {h : az_H} {c : az_C} {n : Nat} : az_mo base h (az_nw h c n) := ⟨Nat.le_succ _, Nat.le_add_right _ _, fun r => az_reg_nw r⟩
def az_hp (base : Nat) (h : az_H) (r : az_R) : Prop := match r with
  | none => True
  | some (.inl σ) => az_mo base h σ.2.2.2
  | some (.inr (.inl q)) => q.2 = h
  | some (.inr (.inr q)) => q.2.2.2.2.2 = h
theorem az_ne_ob {ci : Nat} {fs : List Value} (h : ci < 12) : az_ob ci fs ≠ az_dd := fun e => by
  have : ci = 99 := by injection e with e; injection e with e; injection e with e; injection e
  omega
theorem az_ne_ia {t n : Nat} {g : Int → Int32} : az_ia t n g ≠ az_dd := fun e => by cases e
theorem az_ne_la {n : Nat} {g : Int → Int64} : az_la n g ≠ az_dd := fun e => by cases e
theorem az_ne_ra {t n : Nat} {g : Int → Option Nat} : az_ra t n g ≠ az_dd := fun e => by cases e
section AzHp
variable {base : Nat} {pc : Nat} {lv : az_L} {st : List Value} {h : az_H}
theorem az_hp_call {j : Nat} {as : List Value} : az_hp base h (az_call j as pc lv st h) := by
  unfold az_call; split
  · exact rfl
  · trivial
theorem az_hp_pf {ci k : Nat} {t : Int} (hci : ci < 12) : az_hp base h (az_pf ci k t pc lv st h) := by
  unfold az_pf; split
  · split
    · rename_i hv
      obtain ⟨fs, h1, h2, h3⟩ := az_obs_inv hv
      split
      · exact az_mo.uh h1 (az_ne_ob hci)
      · trivial
    · trivial
  · trivial
theorem az_hp_ias : az_hp base h (az_ias pc lv st h) := by
  unfold az_ias; split
  · split
    · rename_i hc
      split
      · exact az_mo.uh hc (fun e => by cases e)
      · trivial
    · trivial
  · trivial
theorem az_hp_zas : az_hp base h (az_zas pc lv st h) := by
  unfold az_zas; split
  · split
    · rename_i hc
      split
      · exact az_mo.uh hc (fun e => by cases e)
      · trivial
    · trivial
  · trivial
theorem az_hp_las : az_hp base h (az_las pc lv st h) := by
  unfold az_las; split
  · split
    · rename_i hc
      split
      · exact az_mo.uh hc (fun e => by cases e)
      · trivial
    · trivial
  · trivial
theorem az_hp_aas : az_hp base h (az_aas pc lv st h) := by
  unfold az_aas; split
  · split
    · rename_i hc
      split
      · exact az_mo.uh hc (fun e => by cases e)
      · trivial
    · trivial
  · trivial
theorem az_hp_ac : az_hp base h (az_ac pc lv st h) := by
  unfold az_ac; split
  · split
    · rename_i hb ha
      split
      · exact az_mo.uh ha (fun e => by cases e)
      · trivial
    · trivial
  · trivial
theorem az_hp_mx {p : Int32 → Int32 → Bool} : az_hp base h (az_mx p pc lv st h) := by
  unfold az_mx; split
  · split
    · exact az_mo.rf
    · trivial
  · trivial
theorem az_hp_newa {t : ArrayType} : az_hp base h (az_newa t pc lv st h) := by
  unfold az_newa; split
  · split
    · split
      · exact az_mo.nw
      · exact az_mo.nw
      · exact az_mo.nw
      · trivial
    · trivial
  · trivial
theorem az_hp_newr {t : Nat} : az_hp base h (az_newr t pc lv st h) := by
  unfold az_newr; split
  · split
    · exact az_mo.nw
    · trivial
  · trivial
theorem az_hp_ins {X : Nat → Option az_C} {rt : Option FieldType} {n a b : Nat} {c : Int} {ins : Instr} (ha : ∀ k, ins = .putfield k → a < 12) : az_hp base h (az_ins X rt n a b c pc lv st h ins) := by
  cases ins with
  | putfield k => exact az_hp_pf (ha k rfl)
  | iastore => exact az_hp_ias
  | bastore => exact az_hp_zas
  | lastore => exact az_hp_las
  | aastore => exact az_hp_aas
  | newarray t => exact az_hp_newa
  | anewarray k => exact az_hp_newr
  | new k => exact az_mo.nw
  | invokevirtual k =>
    show az_hp base h (az_inv _ _ _ _ _ _ _)
    unfold az_inv; split
    · split
      · exact az_hp_call
      · trivial
    · trivial
  | invokespecial k =>
    show az_hp base h (az_ins1 _ _ _ _ _ _)
    unfold az_ins1; split
    · split
      · split
        · exact az_mo.rf
        · trivial
      · exact az_hp_call
    · trivial
  | invokestatic k =>
    show az_hp base h (az_sta1 _ _ _ _ _ _)
    unfold az_sta1; split
    · exact az_hp_mx
    · split
      · exact az_hp_mx
      · split
        · exact az_hp_ac
        · split
          · exact az_hp_call
          · trivial
  | getfield k =>
    show az_hp base h (az_gf _ _ _ _ _ _)
    unfold az_gf; split
    · split
      · exact az_mo.rf
      · trivial
    · trivial
  | iaload =>
    show az_hp base h (az_ial _ _ _ _ _ _)
    unfold az_ial; split
    · split
      · split
        · exact az_mo.rf
        · trivial
      · trivial
    · trivial
  | baload =>
    show az_hp base h (az_ial _ _ _ _ _ _)
    unfold az_ial; split
    · split
      · split
        · exact az_mo.rf
        · trivial
      · trivial
    · trivial
  | laload =>
    show az_hp base h (az_lal _ _ _ _)
    unfold az_lal; split
    · split
      · split
        · exact az_mo.rf
        · trivial
      · trivial
    · trivial
  | aaload =>
    show az_hp base h (az_aal _ _ _ _)
    unfold az_aal; split
    · split
      · split
        · exact az_mo.rf
        · trivial
      · trivial
    · trivial
  | arraylength =>
    show az_hp base h (az_aln _ _ _ _ _)
    unfold az_aln; split
    · split
      · exact az_mo.rf
      · trivial
    · trivial
  | ldiv =>
    show az_hp base h (az_ldv _ _ _ _ _)
    unfold az_ldv; split
    · split
      · trivial
      · exact az_mo.rf
    · trivial
  | lrem =>
    show az_hp base h (az_ldv _ _ _ _ _)
    unfold az_ldv; split
    · split
      · trivial
      · exact az_mo.rf
    · trivial
  | ireturn =>
    show az_hp base h (az_reti _ _ _)
    unfold az_reti; split
    · exact rfl
    · split
      · exact rfl
      · trivial
    · trivial
  | lreturn =>
    show az_hp base h (az_retl _ _ _)
    unfold az_retl; split
    · exact rfl
    · trivial
  | areturn =>
    show az_hp base h (az_reta _ _ _)
    unfold az_reta; split
    · split
      · exact rfl
      · trivial
    · split
      · exact rfl
      · trivial
    · trivial
  | return_ =>
    show az_hp base h (az_retv _ _ _)
    unfold az_retv; split
    · exact rfl
    · trivial
  | iload_n k =>
    show az_hp base h (az_ldi _ _ _ _ _)
    unfold az_ldi; split
    · exact az_mo.rf
    · trivial
  | iload k =>
    show az_hp base h (az_ldi _ _ _ _ _)
    unfold az_ldi; split
    · exact az_mo.rf
    · trivial
  | lload_n k =>
    show az_hp base h (az_ldl _ _ _ _ _)
    unfold az_ldl; split
    · exact az_mo.rf
    · trivial
  | lload k =>
    show az_hp base h (az_ldl _ _ _ _ _)
    unfold az_ldl; split
    · exact az_mo.rf
    · trivial
  | aload_n k =>
    show az_hp base h (az_lda _ _ _ _ _)
    unfold az_lda; split
    · exact az_mo.rf
    · exact az_mo.rf
    · trivial
  | aload k =>
    show az_hp base h (az_lda _ _ _ _ _)
    unfold az_lda; split
    · exact az_mo.rf
    · exact az_mo.rf
    · trivial
  | istore_n k =>
    show az_hp base h (az_sti _ _ _ _ _)
    unfold az_sti; split
    · exact az_mo.rf
    · trivial
  | istore k =>
    show az_hp base h (az_sti _ _ _ _ _)
    unfold az_sti; split
    · exact az_mo.rf
    · trivial
  | lstore_n k =>
    show az_hp base h (az_stl _ _ _ _ _)
    unfold az_stl; split
    · exact az_mo.rf
    · trivial
  | lstore k =>
    show az_hp base h (az_stl _ _ _ _ _)
    unfold az_stl; split
    · exact az_mo.rf
    · trivial
  | astore_n k =>
    show az_hp base h (az_sta _ _ _ _ _)
    unfold az_sta; split
    · exact az_mo.rf
    · exact az_mo.rf
    · trivial
  | astore k =>
    show az_hp base h (az_sta _ _ _ _ _)
    unfold az_sta; split
    · exact az_mo.rf
    · exact az_mo.rf
    · trivial
  | iinc k d =>
    show az_hp base h (az_inc _ _ _ _ _ _ _)
    unfold az_inc; split
    · exact az_mo.rf
    · trivial
  | iadd =>
    show az_hp base h (az_ii _ _ _ _ _)
    unfold az_ii; split
    · exact az_mo.rf
    · trivial
  | isub =>
    show az_hp base h (az_ii _ _ _ _ _)
    unfold az_ii; split
    · exact az_mo.rf
    · trivial
  | imul =>
    show az_hp base h (az_ii _ _ _ _ _)
    unfold az_ii; split
    · exact az_mo.rf
    · trivial
  | iand =>
    show az_hp base h (az_ii _ _ _ _ _)
    unfold az_ii; split
    · exact az_mo.rf
    · trivial
  | ior =>
    show az_hp base h (az_ii _ _ _ _ _)
    unfold az_ii; split
    · exact az_mo.rf
    · trivial
  | ishl =>
    show az_hp base h (az_ii _ _ _ _ _)
    unfold az_ii; split
    · exact az_mo.rf
    · trivial
  | ladd =>
    show az_hp base h (az_ll _ _ _ _ _)
    unfold az_ll; split
    · exact az_mo.rf
    · trivial
  | lsub =>
    show az_hp base h (az_ll _ _ _ _ _)
    unfold az_ll; split
    · exact az_mo.rf
    · trivial
  | lmul =>
    show az_hp base h (az_ll _ _ _ _ _)
    unfold az_ll; split
    · exact az_mo.rf
    · trivial
  | lcmp =>
    show az_hp base h (az_cmp _ _ _ _)
    unfold az_cmp; split
    · exact az_mo.rf
    · trivial
  | i2l =>
    show az_hp base h (az_il _ _ _ _)
    unfold az_il; split
    · exact az_mo.rf
    · trivial
  | l2i =>
    show az_hp base h (az_li _ _ _ _)
    unfold az_li; split
    · exact az_mo.rf
    · trivial
  | dup =>
    show az_hp base h (az_dup _ _ _ _)
    unfold az_dup; split
    · exact az_mo.rf
    · exact az_mo.rf
    · trivial
  | dup2 =>
    show az_hp base h (az_dup2 _ _ _ _)
    unfold az_dup2; split
    · exact az_mo.rf
    · exact az_mo.rf
    · trivial
  | ifCond p o =>
    show az_hp base h (az_if1 _ _ _ _ _ _)
    unfold az_if1; split
    · exact az_mo.rf
    · trivial
  | if_icmp p o =>
    show az_hp base h (az_if2 _ _ _ _ _ _)
    unfold az_if2; split
    · exact az_mo.rf
    · trivial
  | ifnull o =>
    show az_hp base h (az_nul _ _ _ _ _)
    unfold az_nul; split
    · exact az_mo.rf
    · exact az_mo.rf
    · trivial
  | ifnonnull o =>
    show az_hp base h (az_nul _ _ _ _ _)
    unfold az_nul; split
    · exact az_mo.rf
    · exact az_mo.rf
    · trivial
  | tableswitch d lo hi offs =>
    show az_hp base h (az_swi _ _ _ _ _ _ _)
    unfold az_swi; split
    · exact az_mo.rf
    · trivial
  | goto o => exact az_mo.rf
  | iconst v => exact az_mo.rf
  | bipush v => exact az_mo.rf
  | sipush v => exact az_mo.rf
  | ldc v => exact az_mo.rf
  | lconst v => exact az_mo.rf
  | ldc2_w v => exact az_mo.rf
  | aconst_null => exact az_mo.rf
  | _ => trivial
end AzHp
