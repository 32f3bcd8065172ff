-- deps: 99.uyR 99.wA
/-! ===== the machine at the law's entry ===== -/
section WB
theorem wo_0 : Cond.arrayOver (.object RX0) ∈ lw_tbl := List.mem_append_right _ (List.mem_append_left _ (List.mem_of_getElem? (i := 31) (show tables_1_1[31]? = some (Cond.arrayOver (.object RX0)) by decide +kernel)))
theorem wo_8 : Cond.arrayOver (.object RX8) ∈ lw_tbl := List.mem_append_right _ (List.mem_append_left _ (List.mem_of_getElem? (i := 33) (show tables_1_1[33]? = some (Cond.arrayOver (.object RX8)) by decide +kernel)))
theorem wi_0 : Cond.instantiable RX0 4 ∈ lw_tbl := az_we_in _ (by decide +kernel)
theorem wi_1 : Cond.instantiable RX1 5 ∈ lw_tbl := az_we_in _ (by decide +kernel)
theorem wi_2 : Cond.instantiable RX2 3 ∈ lw_tbl := az_we_in _ (by decide +kernel)
theorem wi_3 : Cond.instantiable RX3 8 ∈ lw_tbl := az_we_in _ (by decide +kernel)
theorem wi_4 : Cond.instantiable RX4 4 ∈ lw_tbl := az_we_in _ (by decide +kernel)
theorem wi_5 : Cond.instantiable RX5 5 ∈ lw_tbl := az_we_in _ (by decide +kernel)
theorem wi_6 : Cond.instantiable RX6 4 ∈ lw_tbl := az_we_in _ (by decide +kernel)
theorem wi_7 : Cond.instantiable RX7 6 ∈ lw_tbl := az_we_in _ (by decide +kernel)
theorem wi_8 : Cond.instantiable RX8 20 ∈ lw_tbl := az_we_in _ (by decide +kernel)
theorem wi_9 : Cond.instantiable RX9 2 ∈ lw_tbl := az_we_in _ (by decide +kernel)
theorem wi_10 : Cond.instantiable RX10 8 ∈ lw_tbl := az_we_in _ (by decide +kernel)
theorem wi_11 : Cond.instantiable RX11 55 ∈ lw_tbl := az_we_in _ (by decide +kernel)
theorem wa_int : Cond.arrayClass .int ∈ lw_tbl := az_we_in _ (by decide +kernel)
theorem wa_boolean : Cond.arrayClass .boolean ∈ lw_tbl := az_we_in _ (by decide +kernel)
theorem wa_long : Cond.arrayClass .long ∈ lw_tbl := az_we_in _ (by decide +kernel)
theorem wn_t : ∀ w ∈ az_nest, w.onTables = true := fun w h => List.all_eq_true.mp (show az_nest.all (fun w => w.onTables) = true by decide +kernel) w h
theorem ar_p {s : State} {args : Array Value} {ty : FieldType} (h : (Cond.arrayClass ty).before args s = true) : ∃ cA, ArrOfT s cA ty ∧ s.vm.findClass ("[" ++ ty.toString) = some cA := by
  obtain ⟨cA, kA, comp, h1, h2, h3⟩ := Cond.arrayClass_spec h
  exact ⟨cA, fun n z => ⟨fun k h => (by cases h), kA, h2, comp, h3⟩, h1⟩
theorem ar_o {s : State} {args : Array Value} {C : String} (h : (Cond.arrayOver (.object C)).before args s = true) : ∃ cA, ArrOfT s cA (.object C) ∧ va_RA s cA (.object C) := by
  obtain ⟨comp, cA, kA, h1, -, h3, h4, h5⟩ := Cond.arrayOver_spec h
  exact ⟨cA, fun n z => ⟨fun k h => (by cases h), kA, h3, comp, h4⟩, kA, comp, h3, h4, h1, h5⟩
theorem lw_K {s : State} {args : Array Value} (hts : ∀ w ∈ lw_tbl, w.before args s = true) : ∃ (D : va_G) (cy : Nat → ClassId), az_K D cy s := by
  obtain ⟨c0, i0, k0⟩ := u_known (C := RX0) (T := TX0) (N := 4) (n := 4) hts az_u0 (hts _ wi_0)
  obtain ⟨c1, i1, k1⟩ := u_known (C := RX1) (T := TX1) (N := 5) (n := 5) hts az_u1 (hts _ wi_1)
  obtain ⟨c2, i2, k2⟩ := u_known (C := RX2) (T := TX2) (N := 3) (n := 3) hts az_u2 (hts _ wi_2)
  obtain ⟨c3, i3, k3⟩ := u_known (C := RX3) (T := TX3) (N := 8) (n := 8) hts az_u3 (hts _ wi_3)
  obtain ⟨c4, i4, k4⟩ := u_known (C := RX4) (T := TX4) (N := 4) (n := 4) hts az_u4 (hts _ wi_4)
  obtain ⟨c5, i5, k5⟩ := u_known (C := RX5) (T := TX5) (N := 5) (n := 5) hts az_u5 (hts _ wi_5)
  obtain ⟨c6, i6, k6⟩ := u_known (C := RX6) (T := TX6) (N := 4) (n := 4) hts az_u6 (hts _ wi_6)
  obtain ⟨c7, i7, k7⟩ := u_known (C := RX7) (T := TX7) (N := 6) (n := 6) hts az_u7 (hts _ wi_7)
  obtain ⟨c8, i8, k8⟩ := u_known (C := RX8) (T := TX8) (N := 20) (n := 20) hts az_u8 (hts _ wi_8)
  obtain ⟨c9, i9, k9⟩ := u_known (C := RX9) (T := TX9) (N := 2) (n := 2) hts az_u9 (hts _ wi_9)
  obtain ⟨c10, i10, k10⟩ := u_known (C := RX10) (T := TX10) (N := 8) (n := 8) hts az_u10 (hts _ wi_10)
  obtain ⟨c11, i11, k11⟩ := u_known (C := RX11) (T := TX11) (N := 55) (n := 55) hts az_u11 (hts _ wi_11)
  obtain ⟨a0, p0, q0⟩ := ar_p (hts _ wa_int)
  obtain ⟨a1, p1, q1⟩ := ar_p (hts _ wa_boolean)
  obtain ⟨a2, p2, q2⟩ := ar_p (hts _ wa_long)
  obtain ⟨a3, p3, q3⟩ := ar_o (hts _ wo_0)
  obtain ⟨a4, p4, q4⟩ := ar_o (hts _ wo_8)
  refine ⟨(fun k => match k with | 0 => c0 | 1 => c1 | 2 => c2 | 3 => c3 | 4 => c4 | 5 => c5 | 6 => c6 | 7 => c7 | 8 => c8 | 9 => c9 | 10 => c10 | _ => c11, fun k => match k with | 0 => i0 | 1 => i1 | 2 => i2 | 3 => i3 | 4 => i4 | 5 => i5 | 6 => i6 | 7 => i7 | 8 => i8 | 9 => i9 | 10 => i10 | _ => i11), fun k => match k with | 0 => a0 | 1 => a1 | 2 => a2 | 3 => a3 | _ => a4, ⟨fun k q hq => ?_, fun k q hq => ?_⟩, va_AO.of (hts _ wo_0), va_AO.of (hts _ wo_8), fun w hw => va_Nw.of (wn_t w hw) (hts w (az_nest_in w hw))⟩
  · match k, hq with
    | 0, hq => cases hq; exact k0
    | 1, hq => cases hq; exact k1
    | 2, hq => cases hq; exact k2
    | 3, hq => cases hq; exact k3
    | 4, hq => cases hq; exact k4
    | 5, hq => cases hq; exact k5
    | 6, hq => cases hq; exact k6
    | 7, hq => cases hq; exact k7
    | 8, hq => cases hq; exact k8
    | 9, hq => cases hq; exact k9
    | 10, hq => cases hq; exact k10
    | 11, hq => cases hq; exact k11
    | k + 12, hq => exact absurd hq (by rw [List.getElem?_eq_none (Nat.le_add_left 12 k)]; exact fun z => by cases z)
  · match k, hq with
    | 0, hq => cases hq; exact ⟨p0, q0⟩
    | 1, hq => cases hq; exact ⟨p1, q1⟩
    | 2, hq => cases hq; exact ⟨p2, q2⟩
    | 3, hq => cases hq; exact ⟨p3, q3⟩
    | 4, hq => cases hq; exact ⟨p4, q4⟩
    | k + 5, hq => exact absurd hq (by rw [List.getElem?_eq_none (Nat.le_add_left 5 k)]; exact fun z => by cases z)
end WB
