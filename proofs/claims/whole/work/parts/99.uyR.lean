-- deps: 99.uyA 99.uyB 99.uyC 99.uyD 99.uyE 99.uyF 99.uyG
set_option maxRecDepth 20000 in
theorem az_kL_eq : az_kL = az_kL_0 ++ (az_kL_1 ++ (az_kL_2 ++ (az_kL_3 ++ (az_kL_4 ++ (az_kL_5 ++ (az_kL_6 ++ (az_kL_7 ++ (az_kL_8 ++ (az_kL_9 ++ (az_kL_10 ++ (az_kL_11 ++ (az_kL_12)))))))))))) := rfl
theorem az_vL : ∀ e ∈ az_kL, az_okE az_Z 13 4 false code e = true := by
  rw [az_kL_eq]
  exact List.forall_mem_append.mpr ⟨az_vL_0, List.forall_mem_append.mpr ⟨az_vL_1, List.forall_mem_append.mpr ⟨az_vL_2, List.forall_mem_append.mpr ⟨az_vL_3, List.forall_mem_append.mpr ⟨az_vL_4, List.forall_mem_append.mpr ⟨az_vL_5, List.forall_mem_append.mpr ⟨az_vL_6, List.forall_mem_append.mpr ⟨az_vL_7, List.forall_mem_append.mpr ⟨az_vL_8, List.forall_mem_append.mpr ⟨az_vL_9, List.forall_mem_append.mpr ⟨az_vL_10, List.forall_mem_append.mpr ⟨az_vL_11, az_vL_12⟩⟩⟩⟩⟩⟩⟩⟩⟩⟩⟩⟩
