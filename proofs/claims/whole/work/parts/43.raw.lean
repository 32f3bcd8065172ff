-- deps:
theorem rz_r0_0 {v0 v1 v2 v3 : Value} {K : Value → Prop} : az_mf (az_ob 0 [v0, v1, v2, v3]) 0 0 K = K v0 := rfl
theorem rz_w0_0 {v0 v1 v2 v3 : Value} {x : Int32} {K : az_C → Prop} : az_mp (az_ob 0 [v0, v1, v2, v3]) 0 0 0 (.int x) K = K (az_ob 0 [(.int x), v1, v2, v3]) := propext ⟨fun z => z.2, fun z => ⟨rfl, z⟩⟩
theorem rz_r0_1 {v0 v1 v2 v3 : Value} {K : Value → Prop} : az_mf (az_ob 0 [v0, v1, v2, v3]) 0 1 K = K v1 := rfl
theorem rz_w0_1 {v0 v1 v2 v3 : Value} {x : Nat} {K : az_C → Prop} : az_mp (az_ob 0 [v0, v1, v2, v3]) 0 1 3 (.ref x) K = K (az_ob 0 [v0, (.ref x), v2, v3]) := propext ⟨fun z => z.2, fun z => ⟨rfl, z⟩⟩
theorem rz_r0_2 {v0 v1 v2 v3 : Value} {K : Value → Prop} : az_mf (az_ob 0 [v0, v1, v2, v3]) 0 2 K = K v2 := rfl
theorem rz_w0_2 {v0 v1 v2 v3 : Value} {x : Int32} {K : az_C → Prop} : az_mp (az_ob 0 [v0, v1, v2, v3]) 0 2 0 (.int x) K = K (az_ob 0 [v0, v1, (.int x), v3]) := propext ⟨fun z => z.2, fun z => ⟨rfl, z⟩⟩
theorem rz_r0_3 {v0 v1 v2 v3 : Value} {K : Value → Prop} : az_mf (az_ob 0 [v0, v1, v2, v3]) 0 3 K = K v3 := rfl
theorem rz_w0_3 {v0 v1 v2 v3 : Value} {x : Int32} {K : az_C → Prop} : az_mp (az_ob 0 [v0, v1, v2, v3]) 0 3 0 (.int x) K = K (az_ob 0 [v0, v1, v2, (.int x)]) := propext ⟨fun z => z.2, fun z => ⟨rfl, z⟩⟩
theorem rz_i0 {fs : List Value} : az_isob (az_ob 0 fs) 0 = true := rfl
theorem rz_z0 : az_z 0 = [.int 0, .null, .int 0, .int 0] := rfl
theorem rz_r1_0 {v0 v1 v2 v3 v4 : Value} {K : Value → Prop} : az_mf (az_ob 1 [v0, v1, v2, v3, v4]) 1 0 K = K v0 := rfl
theorem rz_w1_0 {v0 v1 v2 v3 v4 : Value} {x : Nat} {K : az_C → Prop} : az_mp (az_ob 1 [v0, v1, v2, v3, v4]) 1 0 3 (.ref x) K = K (az_ob 1 [(.ref x), v1, v2, v3, v4]) := propext ⟨fun z => z.2, fun z => ⟨rfl, z⟩⟩
theorem rz_r1_1 {v0 v1 v2 v3 v4 : Value} {K : Value → Prop} : az_mf (az_ob 1 [v0, v1, v2, v3, v4]) 1 1 K = K v1 := rfl
theorem rz_w1_1 {v0 v1 v2 v3 v4 : Value} {x : Nat} {K : az_C → Prop} : az_mp (az_ob 1 [v0, v1, v2, v3, v4]) 1 1 3 (.ref x) K = K (az_ob 1 [v0, (.ref x), v2, v3, v4]) := propext ⟨fun z => z.2, fun z => ⟨rfl, z⟩⟩
theorem rz_r1_2 {v0 v1 v2 v3 v4 : Value} {K : Value → Prop} : az_mf (az_ob 1 [v0, v1, v2, v3, v4]) 1 2 K = K v2 := rfl
theorem rz_w1_2 {v0 v1 v2 v3 v4 : Value} {x : Nat} {K : az_C → Prop} : az_mp (az_ob 1 [v0, v1, v2, v3, v4]) 1 2 3 (.ref x) K = K (az_ob 1 [v0, v1, (.ref x), v3, v4]) := propext ⟨fun z => z.2, fun z => ⟨rfl, z⟩⟩
theorem rz_r1_3 {v0 v1 v2 v3 v4 : Value} {K : Value → Prop} : az_mf (az_ob 1 [v0, v1, v2, v3, v4]) 1 3 K = K v3 := rfl
theorem rz_w1_3 {v0 v1 v2 v3 v4 : Value} {x : Int32} {K : az_C → Prop} : az_mp (az_ob 1 [v0, v1, v2, v3, v4]) 1 3 0 (.int x) K = K (az_ob 1 [v0, v1, v2, (.int x), v4]) := propext ⟨fun z => z.2, fun z => ⟨rfl, z⟩⟩
theorem rz_r1_4 {v0 v1 v2 v3 v4 : Value} {K : Value → Prop} : az_mf (az_ob 1 [v0, v1, v2, v3, v4]) 1 4 K = K v4 := rfl
theorem rz_w1_4 {v0 v1 v2 v3 v4 : Value} {x : Int32} {K : az_C → Prop} : az_mp (az_ob 1 [v0, v1, v2, v3, v4]) 1 4 0 (.int x) K = K (az_ob 1 [v0, v1, v2, v3, (.int x)]) := propext ⟨fun z => z.2, fun z => ⟨rfl, z⟩⟩
theorem rz_i1 {fs : List Value} : az_isob (az_ob 1 fs) 1 = true := rfl
theorem rz_z1 : az_z 1 = [.null, .null, .null, .int 0, .int 0] := rfl
theorem rz_r2_0 {v0 v1 v2 : Value} {K : Value → Prop} : az_mf (az_ob 2 [v0, v1, v2]) 2 0 K = K v0 := rfl
theorem rz_w2_0 {v0 v1 v2 : Value} {x : Nat} {K : az_C → Prop} : az_mp (az_ob 2 [v0, v1, v2]) 2 0 3 (.ref x) K = K (az_ob 2 [(.ref x), v1, v2]) := propext ⟨fun z => z.2, fun z => ⟨rfl, z⟩⟩
theorem rz_r2_1 {v0 v1 v2 : Value} {K : Value → Prop} : az_mf (az_ob 2 [v0, v1, v2]) 2 1 K = K v1 := rfl
theorem rz_w2_1 {v0 v1 v2 : Value} {x : Nat} {K : az_C → Prop} : az_mp (az_ob 2 [v0, v1, v2]) 2 1 3 (.ref x) K = K (az_ob 2 [v0, (.ref x), v2]) := propext ⟨fun z => z.2, fun z => ⟨rfl, z⟩⟩
theorem rz_r2_2 {v0 v1 v2 : Value} {K : Value → Prop} : az_mf (az_ob 2 [v0, v1, v2]) 2 2 K = K v2 := rfl
theorem rz_w2_2 {v0 v1 v2 : Value} {x : Int32} {K : az_C → Prop} : az_mp (az_ob 2 [v0, v1, v2]) 2 2 0 (.int x) K = K (az_ob 2 [v0, v1, (.int x)]) := propext ⟨fun z => z.2, fun z => ⟨rfl, z⟩⟩
theorem rz_i2 {fs : List Value} : az_isob (az_ob 2 fs) 2 = true := rfl
theorem rz_z2 : az_z 2 = [.null, .null, .int 0] := rfl
theorem rz_r3_0 {v0 v1 v2 v3 v4 v5 v6 v7 : Value} {K : Value → Prop} : az_mf (az_ob 3 [v0, v1, v2, v3, v4, v5, v6, v7]) 3 0 K = K v0 := rfl
theorem rz_w3_0 {v0 v1 v2 v3 v4 v5 v6 v7 : Value} {x : Int64} {K : az_C → Prop} : az_mp (az_ob 3 [v0, v1, v2, v3, v4, v5, v6, v7]) 3 0 1 (.long x) K = K (az_ob 3 [(.long x), v1, v2, v3, v4, v5, v6, v7]) := propext ⟨fun z => z.2, fun z => ⟨rfl, z⟩⟩
theorem rz_r3_1 {v0 v1 v2 v3 v4 v5 v6 v7 : Value} {K : Value → Prop} : az_mf (az_ob 3 [v0, v1, v2, v3, v4, v5, v6, v7]) 3 1 K = K v1 := rfl
theorem rz_w3_1 {v0 v1 v2 v3 v4 v5 v6 v7 : Value} {x : Int64} {K : az_C → Prop} : az_mp (az_ob 3 [v0, v1, v2, v3, v4, v5, v6, v7]) 3 1 1 (.long x) K = K (az_ob 3 [v0, (.long x), v2, v3, v4, v5, v6, v7]) := propext ⟨fun z => z.2, fun z => ⟨rfl, z⟩⟩
theorem rz_r3_2 {v0 v1 v2 v3 v4 v5 v6 v7 : Value} {K : Value → Prop} : az_mf (az_ob 3 [v0, v1, v2, v3, v4, v5, v6, v7]) 3 2 K = K v2 := rfl
theorem rz_w3_2 {v0 v1 v2 v3 v4 v5 v6 v7 : Value} {x : Int64} {K : az_C → Prop} : az_mp (az_ob 3 [v0, v1, v2, v3, v4, v5, v6, v7]) 3 2 1 (.long x) K = K (az_ob 3 [v0, v1, (.long x), v3, v4, v5, v6, v7]) := propext ⟨fun z => z.2, fun z => ⟨rfl, z⟩⟩
theorem rz_r3_3 {v0 v1 v2 v3 v4 v5 v6 v7 : Value} {K : Value → Prop} : az_mf (az_ob 3 [v0, v1, v2, v3, v4, v5, v6, v7]) 3 3 K = K v3 := rfl
theorem rz_w3_3 {v0 v1 v2 v3 v4 v5 v6 v7 : Value} {x : Int64} {K : az_C → Prop} : az_mp (az_ob 3 [v0, v1, v2, v3, v4, v5, v6, v7]) 3 3 1 (.long x) K = K (az_ob 3 [v0, v1, v2, (.long x), v4, v5, v6, v7]) := propext ⟨fun z => z.2, fun z => ⟨rfl, z⟩⟩
theorem rz_r3_4 {v0 v1 v2 v3 v4 v5 v6 v7 : Value} {K : Value → Prop} : az_mf (az_ob 3 [v0, v1, v2, v3, v4, v5, v6, v7]) 3 4 K = K v4 := rfl
theorem rz_w3_4 {v0 v1 v2 v3 v4 v5 v6 v7 : Value} {x : Int64} {K : az_C → Prop} : az_mp (az_ob 3 [v0, v1, v2, v3, v4, v5, v6, v7]) 3 4 1 (.long x) K = K (az_ob 3 [v0, v1, v2, v3, (.long x), v5, v6, v7]) := propext ⟨fun z => z.2, fun z => ⟨rfl, z⟩⟩
theorem rz_r3_5 {v0 v1 v2 v3 v4 v5 v6 v7 : Value} {K : Value → Prop} : az_mf (az_ob 3 [v0, v1, v2, v3, v4, v5, v6, v7]) 3 5 K = K v5 := rfl
theorem rz_w3_5 {v0 v1 v2 v3 v4 v5 v6 v7 : Value} {x : Nat} {K : az_C → Prop} : az_mp (az_ob 3 [v0, v1, v2, v3, v4, v5, v6, v7]) 3 5 3 (.ref x) K = K (az_ob 3 [v0, v1, v2, v3, v4, (.ref x), v6, v7]) := propext ⟨fun z => z.2, fun z => ⟨rfl, z⟩⟩
theorem rz_r3_6 {v0 v1 v2 v3 v4 v5 v6 v7 : Value} {K : Value → Prop} : az_mf (az_ob 3 [v0, v1, v2, v3, v4, v5, v6, v7]) 3 6 K = K v6 := rfl
theorem rz_w3_6 {v0 v1 v2 v3 v4 v5 v6 v7 : Value} {x : Int32} {K : az_C → Prop} : az_mp (az_ob 3 [v0, v1, v2, v3, v4, v5, v6, v7]) 3 6 0 (.int x) K = K (az_ob 3 [v0, v1, v2, v3, v4, v5, (.int x), v7]) := propext ⟨fun z => z.2, fun z => ⟨rfl, z⟩⟩
theorem rz_r3_7 {v0 v1 v2 v3 v4 v5 v6 v7 : Value} {K : Value → Prop} : az_mf (az_ob 3 [v0, v1, v2, v3, v4, v5, v6, v7]) 3 7 K = K v7 := rfl
theorem rz_w3_7 {v0 v1 v2 v3 v4 v5 v6 v7 : Value} {x : Nat} {K : az_C → Prop} : az_mp (az_ob 3 [v0, v1, v2, v3, v4, v5, v6, v7]) 3 7 3 (.ref x) K = K (az_ob 3 [v0, v1, v2, v3, v4, v5, v6, (.ref x)]) := propext ⟨fun z => z.2, fun z => ⟨rfl, z⟩⟩
theorem rz_i3 {fs : List Value} : az_isob (az_ob 3 fs) 3 = true := rfl
theorem rz_z3 : az_z 3 = [.long 0, .long 0, .long 0, .long 0, .long 0, .null, .int 0, .null] := rfl
theorem rz_r4_0 {v0 v1 v2 v3 : Value} {K : Value → Prop} : az_mf (az_ob 4 [v0, v1, v2, v3]) 4 0 K = K v0 := rfl
theorem rz_w4_0 {v0 v1 v2 v3 : Value} {x : Int32} {K : az_C → Prop} : az_mp (az_ob 4 [v0, v1, v2, v3]) 4 0 0 (.int x) K = K (az_ob 4 [(.int x), v1, v2, v3]) := propext ⟨fun z => z.2, fun z => ⟨rfl, z⟩⟩
theorem rz_r4_1 {v0 v1 v2 v3 : Value} {K : Value → Prop} : az_mf (az_ob 4 [v0, v1, v2, v3]) 4 1 K = K v1 := rfl
theorem rz_w4_1 {v0 v1 v2 v3 : Value} {x : Int32} {K : az_C → Prop} : az_mp (az_ob 4 [v0, v1, v2, v3]) 4 1 0 (.int x) K = K (az_ob 4 [v0, (.int x), v2, v3]) := propext ⟨fun z => z.2, fun z => ⟨rfl, z⟩⟩
theorem rz_r4_2 {v0 v1 v2 v3 : Value} {K : Value → Prop} : az_mf (az_ob 4 [v0, v1, v2, v3]) 4 2 K = K v2 := rfl
theorem rz_w4_2 {v0 v1 v2 v3 : Value} {x : Int32} {K : az_C → Prop} : az_mp (az_ob 4 [v0, v1, v2, v3]) 4 2 0 (.int x) K = K (az_ob 4 [v0, v1, (.int x), v3]) := propext ⟨fun z => z.2, fun z => ⟨rfl, z⟩⟩
theorem rz_r4_3 {v0 v1 v2 v3 : Value} {K : Value → Prop} : az_mf (az_ob 4 [v0, v1, v2, v3]) 4 3 K = K v3 := rfl
theorem rz_w4_3 {v0 v1 v2 v3 : Value} {x : Nat} {K : az_C → Prop} : az_mp (az_ob 4 [v0, v1, v2, v3]) 4 3 3 (.ref x) K = K (az_ob 4 [v0, v1, v2, (.ref x)]) := propext ⟨fun z => z.2, fun z => ⟨rfl, z⟩⟩
theorem rz_i4 {fs : List Value} : az_isob (az_ob 4 fs) 4 = true := rfl
theorem rz_z4 : az_z 4 = [.int 0, .int 0, .int 0, .null] := rfl
theorem rz_r5_0 {v0 v1 v2 v3 v4 : Value} {K : Value → Prop} : az_mf (az_ob 5 [v0, v1, v2, v3, v4]) 5 0 K = K v0 := rfl
theorem rz_w5_0 {v0 v1 v2 v3 v4 : Value} {x : Int32} {K : az_C → Prop} : az_mp (az_ob 5 [v0, v1, v2, v3, v4]) 5 0 0 (.int x) K = K (az_ob 5 [(.int x), v1, v2, v3, v4]) := propext ⟨fun z => z.2, fun z => ⟨rfl, z⟩⟩
theorem rz_r5_1 {v0 v1 v2 v3 v4 : Value} {K : Value → Prop} : az_mf (az_ob 5 [v0, v1, v2, v3, v4]) 5 1 K = K v1 := rfl
theorem rz_w5_1 {v0 v1 v2 v3 v4 : Value} {x : Nat} {K : az_C → Prop} : az_mp (az_ob 5 [v0, v1, v2, v3, v4]) 5 1 3 (.ref x) K = K (az_ob 5 [v0, (.ref x), v2, v3, v4]) := propext ⟨fun z => z.2, fun z => ⟨rfl, z⟩⟩
theorem rz_r5_2 {v0 v1 v2 v3 v4 : Value} {K : Value → Prop} : az_mf (az_ob 5 [v0, v1, v2, v3, v4]) 5 2 K = K v2 := rfl
theorem rz_w5_2 {v0 v1 v2 v3 v4 : Value} {x : Nat} {K : az_C → Prop} : az_mp (az_ob 5 [v0, v1, v2, v3, v4]) 5 2 3 (.ref x) K = K (az_ob 5 [v0, v1, (.ref x), v3, v4]) := propext ⟨fun z => z.2, fun z => ⟨rfl, z⟩⟩
theorem rz_r5_3 {v0 v1 v2 v3 v4 : Value} {K : Value → Prop} : az_mf (az_ob 5 [v0, v1, v2, v3, v4]) 5 3 K = K v3 := rfl
theorem rz_w5_3 {v0 v1 v2 v3 v4 : Value} {x : Nat} {K : az_C → Prop} : az_mp (az_ob 5 [v0, v1, v2, v3, v4]) 5 3 3 (.ref x) K = K (az_ob 5 [v0, v1, v2, (.ref x), v4]) := propext ⟨fun z => z.2, fun z => ⟨rfl, z⟩⟩
theorem rz_r5_4 {v0 v1 v2 v3 v4 : Value} {K : Value → Prop} : az_mf (az_ob 5 [v0, v1, v2, v3, v4]) 5 4 K = K v4 := rfl
theorem rz_w5_4 {v0 v1 v2 v3 v4 : Value} {x : Nat} {K : az_C → Prop} : az_mp (az_ob 5 [v0, v1, v2, v3, v4]) 5 4 3 (.ref x) K = K (az_ob 5 [v0, v1, v2, v3, (.ref x)]) := propext ⟨fun z => z.2, fun z => ⟨rfl, z⟩⟩
theorem rz_i5 {fs : List Value} : az_isob (az_ob 5 fs) 5 = true := rfl
theorem rz_z5 : az_z 5 = [.int 0, .null, .null, .null, .null] := rfl
theorem rz_r6_0 {v0 v1 v2 v3 : Value} {K : Value → Prop} : az_mf (az_ob 6 [v0, v1, v2, v3]) 6 0 K = K v0 := rfl
theorem rz_w6_0 {v0 v1 v2 v3 : Value} {x : Nat} {K : az_C → Prop} : az_mp (az_ob 6 [v0, v1, v2, v3]) 6 0 3 (.ref x) K = K (az_ob 6 [(.ref x), v1, v2, v3]) := propext ⟨fun z => z.2, fun z => ⟨rfl, z⟩⟩
theorem rz_r6_1 {v0 v1 v2 v3 : Value} {K : Value → Prop} : az_mf (az_ob 6 [v0, v1, v2, v3]) 6 1 K = K v1 := rfl
theorem rz_w6_1 {v0 v1 v2 v3 : Value} {x : Nat} {K : az_C → Prop} : az_mp (az_ob 6 [v0, v1, v2, v3]) 6 1 3 (.ref x) K = K (az_ob 6 [v0, (.ref x), v2, v3]) := propext ⟨fun z => z.2, fun z => ⟨rfl, z⟩⟩
theorem rz_r6_2 {v0 v1 v2 v3 : Value} {K : Value → Prop} : az_mf (az_ob 6 [v0, v1, v2, v3]) 6 2 K = K v2 := rfl
theorem rz_w6_2 {v0 v1 v2 v3 : Value} {x : Nat} {K : az_C → Prop} : az_mp (az_ob 6 [v0, v1, v2, v3]) 6 2 3 (.ref x) K = K (az_ob 6 [v0, v1, (.ref x), v3]) := propext ⟨fun z => z.2, fun z => ⟨rfl, z⟩⟩
theorem rz_r6_3 {v0 v1 v2 v3 : Value} {K : Value → Prop} : az_mf (az_ob 6 [v0, v1, v2, v3]) 6 3 K = K v3 := rfl
theorem rz_w6_3 {v0 v1 v2 v3 : Value} {x : Int32} {K : az_C → Prop} : az_mp (az_ob 6 [v0, v1, v2, v3]) 6 3 0 (.int x) K = K (az_ob 6 [v0, v1, v2, (.int x)]) := propext ⟨fun z => z.2, fun z => ⟨rfl, z⟩⟩
theorem rz_i6 {fs : List Value} : az_isob (az_ob 6 fs) 6 = true := rfl
theorem rz_z6 : az_z 6 = [.null, .null, .null, .int 0] := rfl
theorem rz_r7_0 {v0 v1 v2 v3 v4 v5 : Value} {K : Value → Prop} : az_mf (az_ob 7 [v0, v1, v2, v3, v4, v5]) 7 0 K = K v0 := rfl
theorem rz_w7_0 {v0 v1 v2 v3 v4 v5 : Value} {x : Nat} {K : az_C → Prop} : az_mp (az_ob 7 [v0, v1, v2, v3, v4, v5]) 7 0 3 (.ref x) K = K (az_ob 7 [(.ref x), v1, v2, v3, v4, v5]) := propext ⟨fun z => z.2, fun z => ⟨rfl, z⟩⟩
theorem rz_r7_1 {v0 v1 v2 v3 v4 v5 : Value} {K : Value → Prop} : az_mf (az_ob 7 [v0, v1, v2, v3, v4, v5]) 7 1 K = K v1 := rfl
theorem rz_w7_1 {v0 v1 v2 v3 v4 v5 : Value} {x : Nat} {K : az_C → Prop} : az_mp (az_ob 7 [v0, v1, v2, v3, v4, v5]) 7 1 3 (.ref x) K = K (az_ob 7 [v0, (.ref x), v2, v3, v4, v5]) := propext ⟨fun z => z.2, fun z => ⟨rfl, z⟩⟩
theorem rz_r7_2 {v0 v1 v2 v3 v4 v5 : Value} {K : Value → Prop} : az_mf (az_ob 7 [v0, v1, v2, v3, v4, v5]) 7 2 K = K v2 := rfl
theorem rz_w7_2 {v0 v1 v2 v3 v4 v5 : Value} {x : Nat} {K : az_C → Prop} : az_mp (az_ob 7 [v0, v1, v2, v3, v4, v5]) 7 2 3 (.ref x) K = K (az_ob 7 [v0, v1, (.ref x), v3, v4, v5]) := propext ⟨fun z => z.2, fun z => ⟨rfl, z⟩⟩
theorem rz_r7_3 {v0 v1 v2 v3 v4 v5 : Value} {K : Value → Prop} : az_mf (az_ob 7 [v0, v1, v2, v3, v4, v5]) 7 3 K = K v3 := rfl
theorem rz_w7_3 {v0 v1 v2 v3 v4 v5 : Value} {x : Nat} {K : az_C → Prop} : az_mp (az_ob 7 [v0, v1, v2, v3, v4, v5]) 7 3 3 (.ref x) K = K (az_ob 7 [v0, v1, v2, (.ref x), v4, v5]) := propext ⟨fun z => z.2, fun z => ⟨rfl, z⟩⟩
theorem rz_r7_4 {v0 v1 v2 v3 v4 v5 : Value} {K : Value → Prop} : az_mf (az_ob 7 [v0, v1, v2, v3, v4, v5]) 7 4 K = K v4 := rfl
theorem rz_w7_4 {v0 v1 v2 v3 v4 v5 : Value} {x : Nat} {K : az_C → Prop} : az_mp (az_ob 7 [v0, v1, v2, v3, v4, v5]) 7 4 3 (.ref x) K = K (az_ob 7 [v0, v1, v2, v3, (.ref x), v5]) := propext ⟨fun z => z.2, fun z => ⟨rfl, z⟩⟩
theorem rz_r7_5 {v0 v1 v2 v3 v4 v5 : Value} {K : Value → Prop} : az_mf (az_ob 7 [v0, v1, v2, v3, v4, v5]) 7 5 K = K v5 := rfl
theorem rz_w7_5 {v0 v1 v2 v3 v4 v5 : Value} {x : Int32} {K : az_C → Prop} : az_mp (az_ob 7 [v0, v1, v2, v3, v4, v5]) 7 5 0 (.int x) K = K (az_ob 7 [v0, v1, v2, v3, v4, (.int x)]) := propext ⟨fun z => z.2, fun z => ⟨rfl, z⟩⟩
theorem rz_i7 {fs : List Value} : az_isob (az_ob 7 fs) 7 = true := rfl
theorem rz_z7 : az_z 7 = [.null, .null, .null, .null, .null, .int 0] := rfl
theorem rz_r8_0 {v0 v1 v2 v3 v4 v5 v6 v7 v8 v9 v10 v11 v12 v13 v14 v15 v16 v17 v18 v19 : Value} {K : Value → Prop} : az_mf (az_ob 8 [v0, v1, v2, v3, v4, v5, v6, v7, v8, v9, v10, v11, v12, v13, v14, v15, v16, v17, v18, v19]) 8 0 K = K v0 := rfl
theorem rz_w8_0 {v0 v1 v2 v3 v4 v5 v6 v7 v8 v9 v10 v11 v12 v13 v14 v15 v16 v17 v18 v19 : Value} {x : Int32} {K : az_C → Prop} : az_mp (az_ob 8 [v0, v1, v2, v3, v4, v5, v6, v7, v8, v9, v10, v11, v12, v13, v14, v15, v16, v17, v18, v19]) 8 0 0 (.int x) K = K (az_ob 8 [(.int x), v1, v2, v3, v4, v5, v6, v7, v8, v9, v10, v11, v12, v13, v14, v15, v16, v17, v18, v19]) := propext ⟨fun z => z.2, fun z => ⟨rfl, z⟩⟩
theorem rz_r8_1 {v0 v1 v2 v3 v4 v5 v6 v7 v8 v9 v10 v11 v12 v13 v14 v15 v16 v17 v18 v19 : Value} {K : Value → Prop} : az_mf (az_ob 8 [v0, v1, v2, v3, v4, v5, v6, v7, v8, v9, v10, v11, v12, v13, v14, v15, v16, v17, v18, v19]) 8 1 K = K v1 := rfl
theorem rz_w8_1 {v0 v1 v2 v3 v4 v5 v6 v7 v8 v9 v10 v11 v12 v13 v14 v15 v16 v17 v18 v19 : Value} {x : Int32} {K : az_C → Prop} : az_mp (az_ob 8 [v0, v1, v2, v3, v4, v5, v6, v7, v8, v9, v10, v11, v12, v13, v14, v15, v16, v17, v18, v19]) 8 1 0 (.int x) K = K (az_ob 8 [v0, (.int x), v2, v3, v4, v5, v6, v7, v8, v9, v10, v11, v12, v13, v14, v15, v16, v17, v18, v19]) := propext ⟨fun z => z.2, fun z => ⟨rfl, z⟩⟩
theorem rz_r8_2 {v0 v1 v2 v3 v4 v5 v6 v7 v8 v9 v10 v11 v12 v13 v14 v15 v16 v17 v18 v19 : Value} {K : Value → Prop} : az_mf (az_ob 8 [v0, v1, v2, v3, v4, v5, v6, v7, v8, v9, v10, v11, v12, v13, v14, v15, v16, v17, v18, v19]) 8 2 K = K v2 := rfl
theorem rz_w8_2 {v0 v1 v2 v3 v4 v5 v6 v7 v8 v9 v10 v11 v12 v13 v14 v15 v16 v17 v18 v19 : Value} {x : Int32} {K : az_C → Prop} : az_mp (az_ob 8 [v0, v1, v2, v3, v4, v5, v6, v7, v8, v9, v10, v11, v12, v13, v14, v15, v16, v17, v18, v19]) 8 2 0 (.int x) K = K (az_ob 8 [v0, v1, (.int x), v3, v4, v5, v6, v7, v8, v9, v10, v11, v12, v13, v14, v15, v16, v17, v18, v19]) := propext ⟨fun z => z.2, fun z => ⟨rfl, z⟩⟩
theorem rz_r8_3 {v0 v1 v2 v3 v4 v5 v6 v7 v8 v9 v10 v11 v12 v13 v14 v15 v16 v17 v18 v19 : Value} {K : Value → Prop} : az_mf (az_ob 8 [v0, v1, v2, v3, v4, v5, v6, v7, v8, v9, v10, v11, v12, v13, v14, v15, v16, v17, v18, v19]) 8 3 K = K v3 := rfl
theorem rz_w8_3 {v0 v1 v2 v3 v4 v5 v6 v7 v8 v9 v10 v11 v12 v13 v14 v15 v16 v17 v18 v19 : Value} {x : Int32} {K : az_C → Prop} : az_mp (az_ob 8 [v0, v1, v2, v3, v4, v5, v6, v7, v8, v9, v10, v11, v12, v13, v14, v15, v16, v17, v18, v19]) 8 3 0 (.int x) K = K (az_ob 8 [v0, v1, v2, (.int x), v4, v5, v6, v7, v8, v9, v10, v11, v12, v13, v14, v15, v16, v17, v18, v19]) := propext ⟨fun z => z.2, fun z => ⟨rfl, z⟩⟩
theorem rz_r8_4 {v0 v1 v2 v3 v4 v5 v6 v7 v8 v9 v10 v11 v12 v13 v14 v15 v16 v17 v18 v19 : Value} {K : Value → Prop} : az_mf (az_ob 8 [v0, v1, v2, v3, v4, v5, v6, v7, v8, v9, v10, v11, v12, v13, v14, v15, v16, v17, v18, v19]) 8 4 K = K v4 := rfl
theorem rz_w8_4 {v0 v1 v2 v3 v4 v5 v6 v7 v8 v9 v10 v11 v12 v13 v14 v15 v16 v17 v18 v19 : Value} {x : Nat} {K : az_C → Prop} : az_mp (az_ob 8 [v0, v1, v2, v3, v4, v5, v6, v7, v8, v9, v10, v11, v12, v13, v14, v15, v16, v17, v18, v19]) 8 4 3 (.ref x) K = K (az_ob 8 [v0, v1, v2, v3, (.ref x), v5, v6, v7, v8, v9, v10, v11, v12, v13, v14, v15, v16, v17, v18, v19]) := propext ⟨fun z => z.2, fun z => ⟨rfl, z⟩⟩
theorem rz_r8_5 {v0 v1 v2 v3 v4 v5 v6 v7 v8 v9 v10 v11 v12 v13 v14 v15 v16 v17 v18 v19 : Value} {K : Value → Prop} : az_mf (az_ob 8 [v0, v1, v2, v3, v4, v5, v6, v7, v8, v9, v10, v11, v12, v13, v14, v15, v16, v17, v18, v19]) 8 5 K = K v5 := rfl
theorem rz_w8_5 {v0 v1 v2 v3 v4 v5 v6 v7 v8 v9 v10 v11 v12 v13 v14 v15 v16 v17 v18 v19 : Value} {x : Int32} {K : az_C → Prop} : az_mp (az_ob 8 [v0, v1, v2, v3, v4, v5, v6, v7, v8, v9, v10, v11, v12, v13, v14, v15, v16, v17, v18, v19]) 8 5 0 (.int x) K = K (az_ob 8 [v0, v1, v2, v3, v4, (.int x), v6, v7, v8, v9, v10, v11, v12, v13, v14, v15, v16, v17, v18, v19]) := propext ⟨fun z => z.2, fun z => ⟨rfl, z⟩⟩
theorem rz_r8_6 {v0 v1 v2 v3 v4 v5 v6 v7 v8 v9 v10 v11 v12 v13 v14 v15 v16 v17 v18 v19 : Value} {K : Value → Prop} : az_mf (az_ob 8 [v0, v1, v2, v3, v4, v5, v6, v7, v8, v9, v10, v11, v12, v13, v14, v15, v16, v17, v18, v19]) 8 6 K = K v6 := rfl
theorem rz_w8_6 {v0 v1 v2 v3 v4 v5 v6 v7 v8 v9 v10 v11 v12 v13 v14 v15 v16 v17 v18 v19 : Value} {x : Nat} {K : az_C → Prop} : az_mp (az_ob 8 [v0, v1, v2, v3, v4, v5, v6, v7, v8, v9, v10, v11, v12, v13, v14, v15, v16, v17, v18, v19]) 8 6 3 (.ref x) K = K (az_ob 8 [v0, v1, v2, v3, v4, v5, (.ref x), v7, v8, v9, v10, v11, v12, v13, v14, v15, v16, v17, v18, v19]) := propext ⟨fun z => z.2, fun z => ⟨rfl, z⟩⟩
theorem rz_r8_7 {v0 v1 v2 v3 v4 v5 v6 v7 v8 v9 v10 v11 v12 v13 v14 v15 v16 v17 v18 v19 : Value} {K : Value → Prop} : az_mf (az_ob 8 [v0, v1, v2, v3, v4, v5, v6, v7, v8, v9, v10, v11, v12, v13, v14, v15, v16, v17, v18, v19]) 8 7 K = K v7 := rfl
theorem rz_w8_7 {v0 v1 v2 v3 v4 v5 v6 v7 v8 v9 v10 v11 v12 v13 v14 v15 v16 v17 v18 v19 : Value} {x : Nat} {K : az_C → Prop} : az_mp (az_ob 8 [v0, v1, v2, v3, v4, v5, v6, v7, v8, v9, v10, v11, v12, v13, v14, v15, v16, v17, v18, v19]) 8 7 3 (.ref x) K = K (az_ob 8 [v0, v1, v2, v3, v4, v5, v6, (.ref x), v8, v9, v10, v11, v12, v13, v14, v15, v16, v17, v18, v19]) := propext ⟨fun z => z.2, fun z => ⟨rfl, z⟩⟩
theorem rz_r8_8 {v0 v1 v2 v3 v4 v5 v6 v7 v8 v9 v10 v11 v12 v13 v14 v15 v16 v17 v18 v19 : Value} {K : Value → Prop} : az_mf (az_ob 8 [v0, v1, v2, v3, v4, v5, v6, v7, v8, v9, v10, v11, v12, v13, v14, v15, v16, v17, v18, v19]) 8 8 K = K v8 := rfl
theorem rz_w8_8 {v0 v1 v2 v3 v4 v5 v6 v7 v8 v9 v10 v11 v12 v13 v14 v15 v16 v17 v18 v19 : Value} {x : Int32} {K : az_C → Prop} : az_mp (az_ob 8 [v0, v1, v2, v3, v4, v5, v6, v7, v8, v9, v10, v11, v12, v13, v14, v15, v16, v17, v18, v19]) 8 8 0 (.int x) K = K (az_ob 8 [v0, v1, v2, v3, v4, v5, v6, v7, (.int x), v9, v10, v11, v12, v13, v14, v15, v16, v17, v18, v19]) := propext ⟨fun z => z.2, fun z => ⟨rfl, z⟩⟩
theorem rz_r8_9 {v0 v1 v2 v3 v4 v5 v6 v7 v8 v9 v10 v11 v12 v13 v14 v15 v16 v17 v18 v19 : Value} {K : Value → Prop} : az_mf (az_ob 8 [v0, v1, v2, v3, v4, v5, v6, v7, v8, v9, v10, v11, v12, v13, v14, v15, v16, v17, v18, v19]) 8 9 K = K v9 := rfl
theorem rz_w8_9 {v0 v1 v2 v3 v4 v5 v6 v7 v8 v9 v10 v11 v12 v13 v14 v15 v16 v17 v18 v19 : Value} {x : Nat} {K : az_C → Prop} : az_mp (az_ob 8 [v0, v1, v2, v3, v4, v5, v6, v7, v8, v9, v10, v11, v12, v13, v14, v15, v16, v17, v18, v19]) 8 9 3 (.ref x) K = K (az_ob 8 [v0, v1, v2, v3, v4, v5, v6, v7, v8, (.ref x), v10, v11, v12, v13, v14, v15, v16, v17, v18, v19]) := propext ⟨fun z => z.2, fun z => ⟨rfl, z⟩⟩
theorem rz_r8_10 {v0 v1 v2 v3 v4 v5 v6 v7 v8 v9 v10 v11 v12 v13 v14 v15 v16 v17 v18 v19 : Value} {K : Value → Prop} : az_mf (az_ob 8 [v0, v1, v2, v3, v4, v5, v6, v7, v8, v9, v10, v11, v12, v13, v14, v15, v16, v17, v18, v19]) 8 10 K = K v10 := rfl
theorem rz_w8_10 {v0 v1 v2 v3 v4 v5 v6 v7 v8 v9 v10 v11 v12 v13 v14 v15 v16 v17 v18 v19 : Value} {x : Int32} {K : az_C → Prop} : az_mp (az_ob 8 [v0, v1, v2, v3, v4, v5, v6, v7, v8, v9, v10, v11, v12, v13, v14, v15, v16, v17, v18, v19]) 8 10 0 (.int x) K = K (az_ob 8 [v0, v1, v2, v3, v4, v5, v6, v7, v8, v9, (.int x), v11, v12, v13, v14, v15, v16, v17, v18, v19]) := propext ⟨fun z => z.2, fun z => ⟨rfl, z⟩⟩
theorem rz_r8_11 {v0 v1 v2 v3 v4 v5 v6 v7 v8 v9 v10 v11 v12 v13 v14 v15 v16 v17 v18 v19 : Value} {K : Value → Prop} : az_mf (az_ob 8 [v0, v1, v2, v3, v4, v5, v6, v7, v8, v9, v10, v11, v12, v13, v14, v15, v16, v17, v18, v19]) 8 11 K = K v11 := rfl
theorem rz_w8_11 {v0 v1 v2 v3 v4 v5 v6 v7 v8 v9 v10 v11 v12 v13 v14 v15 v16 v17 v18 v19 : Value} {x : Int32} {K : az_C → Prop} : az_mp (az_ob 8 [v0, v1, v2, v3, v4, v5, v6, v7, v8, v9, v10, v11, v12, v13, v14, v15, v16, v17, v18, v19]) 8 11 0 (.int x) K = K (az_ob 8 [v0, v1, v2, v3, v4, v5, v6, v7, v8, v9, v10, (.int x), v12, v13, v14, v15, v16, v17, v18, v19]) := propext ⟨fun z => z.2, fun z => ⟨rfl, z⟩⟩
theorem rz_r8_12 {v0 v1 v2 v3 v4 v5 v6 v7 v8 v9 v10 v11 v12 v13 v14 v15 v16 v17 v18 v19 : Value} {K : Value → Prop} : az_mf (az_ob 8 [v0, v1, v2, v3, v4, v5, v6, v7, v8, v9, v10, v11, v12, v13, v14, v15, v16, v17, v18, v19]) 8 12 K = K v12 := rfl
theorem rz_w8_12 {v0 v1 v2 v3 v4 v5 v6 v7 v8 v9 v10 v11 v12 v13 v14 v15 v16 v17 v18 v19 : Value} {x : Int32} {K : az_C → Prop} : az_mp (az_ob 8 [v0, v1, v2, v3, v4, v5, v6, v7, v8, v9, v10, v11, v12, v13, v14, v15, v16, v17, v18, v19]) 8 12 0 (.int x) K = K (az_ob 8 [v0, v1, v2, v3, v4, v5, v6, v7, v8, v9, v10, v11, (.int x), v13, v14, v15, v16, v17, v18, v19]) := propext ⟨fun z => z.2, fun z => ⟨rfl, z⟩⟩
theorem rz_r8_13 {v0 v1 v2 v3 v4 v5 v6 v7 v8 v9 v10 v11 v12 v13 v14 v15 v16 v17 v18 v19 : Value} {K : Value → Prop} : az_mf (az_ob 8 [v0, v1, v2, v3, v4, v5, v6, v7, v8, v9, v10, v11, v12, v13, v14, v15, v16, v17, v18, v19]) 8 13 K = K v13 := rfl
theorem rz_w8_13 {v0 v1 v2 v3 v4 v5 v6 v7 v8 v9 v10 v11 v12 v13 v14 v15 v16 v17 v18 v19 : Value} {x : Int32} {K : az_C → Prop} : az_mp (az_ob 8 [v0, v1, v2, v3, v4, v5, v6, v7, v8, v9, v10, v11, v12, v13, v14, v15, v16, v17, v18, v19]) 8 13 0 (.int x) K = K (az_ob 8 [v0, v1, v2, v3, v4, v5, v6, v7, v8, v9, v10, v11, v12, (.int x), v14, v15, v16, v17, v18, v19]) := propext ⟨fun z => z.2, fun z => ⟨rfl, z⟩⟩
theorem rz_r8_14 {v0 v1 v2 v3 v4 v5 v6 v7 v8 v9 v10 v11 v12 v13 v14 v15 v16 v17 v18 v19 : Value} {K : Value → Prop} : az_mf (az_ob 8 [v0, v1, v2, v3, v4, v5, v6, v7, v8, v9, v10, v11, v12, v13, v14, v15, v16, v17, v18, v19]) 8 14 K = K v14 := rfl
theorem rz_w8_14 {v0 v1 v2 v3 v4 v5 v6 v7 v8 v9 v10 v11 v12 v13 v14 v15 v16 v17 v18 v19 : Value} {x : Int32} {K : az_C → Prop} : az_mp (az_ob 8 [v0, v1, v2, v3, v4, v5, v6, v7, v8, v9, v10, v11, v12, v13, v14, v15, v16, v17, v18, v19]) 8 14 0 (.int x) K = K (az_ob 8 [v0, v1, v2, v3, v4, v5, v6, v7, v8, v9, v10, v11, v12, v13, (.int x), v15, v16, v17, v18, v19]) := propext ⟨fun z => z.2, fun z => ⟨rfl, z⟩⟩
theorem rz_r8_15 {v0 v1 v2 v3 v4 v5 v6 v7 v8 v9 v10 v11 v12 v13 v14 v15 v16 v17 v18 v19 : Value} {K : Value → Prop} : az_mf (az_ob 8 [v0, v1, v2, v3, v4, v5, v6, v7, v8, v9, v10, v11, v12, v13, v14, v15, v16, v17, v18, v19]) 8 15 K = K v15 := rfl
theorem rz_w8_15 {v0 v1 v2 v3 v4 v5 v6 v7 v8 v9 v10 v11 v12 v13 v14 v15 v16 v17 v18 v19 : Value} {x : Int32} {K : az_C → Prop} : az_mp (az_ob 8 [v0, v1, v2, v3, v4, v5, v6, v7, v8, v9, v10, v11, v12, v13, v14, v15, v16, v17, v18, v19]) 8 15 0 (.int x) K = K (az_ob 8 [v0, v1, v2, v3, v4, v5, v6, v7, v8, v9, v10, v11, v12, v13, v14, (.int x), v16, v17, v18, v19]) := propext ⟨fun z => z.2, fun z => ⟨rfl, z⟩⟩
theorem rz_r8_16 {v0 v1 v2 v3 v4 v5 v6 v7 v8 v9 v10 v11 v12 v13 v14 v15 v16 v17 v18 v19 : Value} {K : Value → Prop} : az_mf (az_ob 8 [v0, v1, v2, v3, v4, v5, v6, v7, v8, v9, v10, v11, v12, v13, v14, v15, v16, v17, v18, v19]) 8 16 K = K v16 := rfl
theorem rz_w8_16 {v0 v1 v2 v3 v4 v5 v6 v7 v8 v9 v10 v11 v12 v13 v14 v15 v16 v17 v18 v19 : Value} {x : Int32} {K : az_C → Prop} : az_mp (az_ob 8 [v0, v1, v2, v3, v4, v5, v6, v7, v8, v9, v10, v11, v12, v13, v14, v15, v16, v17, v18, v19]) 8 16 0 (.int x) K = K (az_ob 8 [v0, v1, v2, v3, v4, v5, v6, v7, v8, v9, v10, v11, v12, v13, v14, v15, (.int x), v17, v18, v19]) := propext ⟨fun z => z.2, fun z => ⟨rfl, z⟩⟩
theorem rz_r8_17 {v0 v1 v2 v3 v4 v5 v6 v7 v8 v9 v10 v11 v12 v13 v14 v15 v16 v17 v18 v19 : Value} {K : Value → Prop} : az_mf (az_ob 8 [v0, v1, v2, v3, v4, v5, v6, v7, v8, v9, v10, v11, v12, v13, v14, v15, v16, v17, v18, v19]) 8 17 K = K v17 := rfl
theorem rz_w8_17 {v0 v1 v2 v3 v4 v5 v6 v7 v8 v9 v10 v11 v12 v13 v14 v15 v16 v17 v18 v19 : Value} {x : Int32} {K : az_C → Prop} : az_mp (az_ob 8 [v0, v1, v2, v3, v4, v5, v6, v7, v8, v9, v10, v11, v12, v13, v14, v15, v16, v17, v18, v19]) 8 17 0 (.int x) K = K (az_ob 8 [v0, v1, v2, v3, v4, v5, v6, v7, v8, v9, v10, v11, v12, v13, v14, v15, v16, (.int x), v18, v19]) := propext ⟨fun z => z.2, fun z => ⟨rfl, z⟩⟩
theorem rz_r8_18 {v0 v1 v2 v3 v4 v5 v6 v7 v8 v9 v10 v11 v12 v13 v14 v15 v16 v17 v18 v19 : Value} {K : Value → Prop} : az_mf (az_ob 8 [v0, v1, v2, v3, v4, v5, v6, v7, v8, v9, v10, v11, v12, v13, v14, v15, v16, v17, v18, v19]) 8 18 K = K v18 := rfl
theorem rz_w8_18 {v0 v1 v2 v3 v4 v5 v6 v7 v8 v9 v10 v11 v12 v13 v14 v15 v16 v17 v18 v19 : Value} {x : Nat} {K : az_C → Prop} : az_mp (az_ob 8 [v0, v1, v2, v3, v4, v5, v6, v7, v8, v9, v10, v11, v12, v13, v14, v15, v16, v17, v18, v19]) 8 18 3 (.ref x) K = K (az_ob 8 [v0, v1, v2, v3, v4, v5, v6, v7, v8, v9, v10, v11, v12, v13, v14, v15, v16, v17, (.ref x), v19]) := propext ⟨fun z => z.2, fun z => ⟨rfl, z⟩⟩
theorem rz_r8_19 {v0 v1 v2 v3 v4 v5 v6 v7 v8 v9 v10 v11 v12 v13 v14 v15 v16 v17 v18 v19 : Value} {K : Value → Prop} : az_mf (az_ob 8 [v0, v1, v2, v3, v4, v5, v6, v7, v8, v9, v10, v11, v12, v13, v14, v15, v16, v17, v18, v19]) 8 19 K = K v19 := rfl
theorem rz_w8_19 {v0 v1 v2 v3 v4 v5 v6 v7 v8 v9 v10 v11 v12 v13 v14 v15 v16 v17 v18 v19 : Value} {x : Nat} {K : az_C → Prop} : az_mp (az_ob 8 [v0, v1, v2, v3, v4, v5, v6, v7, v8, v9, v10, v11, v12, v13, v14, v15, v16, v17, v18, v19]) 8 19 3 (.ref x) K = K (az_ob 8 [v0, v1, v2, v3, v4, v5, v6, v7, v8, v9, v10, v11, v12, v13, v14, v15, v16, v17, v18, (.ref x)]) := propext ⟨fun z => z.2, fun z => ⟨rfl, z⟩⟩
theorem rz_i8 {fs : List Value} : az_isob (az_ob 8 fs) 8 = true := rfl
theorem rz_z8 : az_z 8 = [.int 0, .int 0, .int 0, .int 0, .null, .int 0, .null, .null, .int 0, .null, .int 0, .int 0, .int 0, .int 0, .int 0, .int 0, .int 0, .int 0, .null, .null] := rfl
theorem rz_r9_0 {v0 v1 : Value} {K : Value → Prop} : az_mf (az_ob 9 [v0, v1]) 9 0 K = K v0 := rfl
theorem rz_w9_0 {v0 v1 : Value} {x : Nat} {K : az_C → Prop} : az_mp (az_ob 9 [v0, v1]) 9 0 3 (.ref x) K = K (az_ob 9 [(.ref x), v1]) := propext ⟨fun z => z.2, fun z => ⟨rfl, z⟩⟩
theorem rz_r9_1 {v0 v1 : Value} {K : Value → Prop} : az_mf (az_ob 9 [v0, v1]) 9 1 K = K v1 := rfl
theorem rz_w9_1 {v0 v1 : Value} {x : Nat} {K : az_C → Prop} : az_mp (az_ob 9 [v0, v1]) 9 1 3 (.ref x) K = K (az_ob 9 [v0, (.ref x)]) := propext ⟨fun z => z.2, fun z => ⟨rfl, z⟩⟩
theorem rz_i9 {fs : List Value} : az_isob (az_ob 9 fs) 9 = true := rfl
theorem rz_z9 : az_z 9 = [.null, .null] := rfl
theorem rz_r10_0 {v0 v1 v2 v3 v4 v5 v6 v7 : Value} {K : Value → Prop} : az_mf (az_ob 10 [v0, v1, v2, v3, v4, v5, v6, v7]) 10 0 K = K v0 := rfl
theorem rz_w10_0 {v0 v1 v2 v3 v4 v5 v6 v7 : Value} {x : Nat} {K : az_C → Prop} : az_mp (az_ob 10 [v0, v1, v2, v3, v4, v5, v6, v7]) 10 0 3 (.ref x) K = K (az_ob 10 [(.ref x), v1, v2, v3, v4, v5, v6, v7]) := propext ⟨fun z => z.2, fun z => ⟨rfl, z⟩⟩
theorem rz_r10_1 {v0 v1 v2 v3 v4 v5 v6 v7 : Value} {K : Value → Prop} : az_mf (az_ob 10 [v0, v1, v2, v3, v4, v5, v6, v7]) 10 1 K = K v1 := rfl
theorem rz_w10_1 {v0 v1 v2 v3 v4 v5 v6 v7 : Value} {x : Nat} {K : az_C → Prop} : az_mp (az_ob 10 [v0, v1, v2, v3, v4, v5, v6, v7]) 10 1 3 (.ref x) K = K (az_ob 10 [v0, (.ref x), v2, v3, v4, v5, v6, v7]) := propext ⟨fun z => z.2, fun z => ⟨rfl, z⟩⟩
theorem rz_r10_2 {v0 v1 v2 v3 v4 v5 v6 v7 : Value} {K : Value → Prop} : az_mf (az_ob 10 [v0, v1, v2, v3, v4, v5, v6, v7]) 10 2 K = K v2 := rfl
theorem rz_w10_2 {v0 v1 v2 v3 v4 v5 v6 v7 : Value} {x : Nat} {K : az_C → Prop} : az_mp (az_ob 10 [v0, v1, v2, v3, v4, v5, v6, v7]) 10 2 3 (.ref x) K = K (az_ob 10 [v0, v1, (.ref x), v3, v4, v5, v6, v7]) := propext ⟨fun z => z.2, fun z => ⟨rfl, z⟩⟩
theorem rz_r10_3 {v0 v1 v2 v3 v4 v5 v6 v7 : Value} {K : Value → Prop} : az_mf (az_ob 10 [v0, v1, v2, v3, v4, v5, v6, v7]) 10 3 K = K v3 := rfl
theorem rz_w10_3 {v0 v1 v2 v3 v4 v5 v6 v7 : Value} {x : Nat} {K : az_C → Prop} : az_mp (az_ob 10 [v0, v1, v2, v3, v4, v5, v6, v7]) 10 3 3 (.ref x) K = K (az_ob 10 [v0, v1, v2, (.ref x), v4, v5, v6, v7]) := propext ⟨fun z => z.2, fun z => ⟨rfl, z⟩⟩
theorem rz_r10_4 {v0 v1 v2 v3 v4 v5 v6 v7 : Value} {K : Value → Prop} : az_mf (az_ob 10 [v0, v1, v2, v3, v4, v5, v6, v7]) 10 4 K = K v4 := rfl
theorem rz_w10_4 {v0 v1 v2 v3 v4 v5 v6 v7 : Value} {x : Nat} {K : az_C → Prop} : az_mp (az_ob 10 [v0, v1, v2, v3, v4, v5, v6, v7]) 10 4 3 (.ref x) K = K (az_ob 10 [v0, v1, v2, v3, (.ref x), v5, v6, v7]) := propext ⟨fun z => z.2, fun z => ⟨rfl, z⟩⟩
theorem rz_r10_5 {v0 v1 v2 v3 v4 v5 v6 v7 : Value} {K : Value → Prop} : az_mf (az_ob 10 [v0, v1, v2, v3, v4, v5, v6, v7]) 10 5 K = K v5 := rfl
theorem rz_w10_5 {v0 v1 v2 v3 v4 v5 v6 v7 : Value} {x : Nat} {K : az_C → Prop} : az_mp (az_ob 10 [v0, v1, v2, v3, v4, v5, v6, v7]) 10 5 3 (.ref x) K = K (az_ob 10 [v0, v1, v2, v3, v4, (.ref x), v6, v7]) := propext ⟨fun z => z.2, fun z => ⟨rfl, z⟩⟩
theorem rz_r10_6 {v0 v1 v2 v3 v4 v5 v6 v7 : Value} {K : Value → Prop} : az_mf (az_ob 10 [v0, v1, v2, v3, v4, v5, v6, v7]) 10 6 K = K v6 := rfl
theorem rz_w10_6 {v0 v1 v2 v3 v4 v5 v6 v7 : Value} {x : Int32} {K : az_C → Prop} : az_mp (az_ob 10 [v0, v1, v2, v3, v4, v5, v6, v7]) 10 6 2 (.int x) K = ((x = 0 ∨ x = 1) ∧ K (az_ob 10 [v0, v1, v2, v3, v4, v5, (.int x), v7])) := propext ⟨fun z => ⟨by simpa [az_fit] using z.1, z.2⟩, fun z => ⟨by simpa [az_fit] using z.1, z.2⟩⟩
theorem rz_r10_7 {v0 v1 v2 v3 v4 v5 v6 v7 : Value} {K : Value → Prop} : az_mf (az_ob 10 [v0, v1, v2, v3, v4, v5, v6, v7]) 10 7 K = K v7 := rfl
theorem rz_w10_7 {v0 v1 v2 v3 v4 v5 v6 v7 : Value} {x : Int32} {K : az_C → Prop} : az_mp (az_ob 10 [v0, v1, v2, v3, v4, v5, v6, v7]) 10 7 2 (.int x) K = ((x = 0 ∨ x = 1) ∧ K (az_ob 10 [v0, v1, v2, v3, v4, v5, v6, (.int x)])) := propext ⟨fun z => ⟨by simpa [az_fit] using z.1, z.2⟩, fun z => ⟨by simpa [az_fit] using z.1, z.2⟩⟩
theorem rz_i10 {fs : List Value} : az_isob (az_ob 10 fs) 10 = true := rfl
theorem rz_z10 : az_z 10 = [.null, .null, .null, .null, .null, .null, .int 0, .int 0] := rfl
theorem rz_nw {h : az_H} {c : az_C} {n : Nat} : az_nw h c n = (va_up h.1 h.2.1 c, h.2.1 + 1, h.2.2 + n) := rfl
theorem rz_uh {h : az_H} {a : Nat} {c : az_C} : az_uh h a c = (va_up h.1 a c, h.2) := rfl
theorem rz_uu {g : Nat → az_C} {a : Nat} {c d : az_C} : va_up (va_up g a c) a d = va_up g a d := by
  funext b
  unfold va_up
  split <;> rfl
theorem rz_cm {g : Nat → az_C} {a b : Nat} {c d : az_C} (h : a ≠ b) : va_up (va_up g a c) b d = va_up (va_up g b d) a c := by
  funext x
  unfold va_up
  by_cases q : x = a
  · rw [if_neg (by omega), if_pos q, if_pos q]
  · rw [if_neg q, if_neg q]
