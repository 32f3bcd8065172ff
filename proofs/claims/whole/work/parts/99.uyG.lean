-- deps:
def az_kL_12 : List (Nat × az_I) := [(836, .iinc 3 6, 3, 0, 0, 0), (839, .goto (-821), 3, 18, 0, 0), (842, .iconst 1, 1, 0, 0, 1), (843, .ireturn, 1, 0, 0, 0)]
set_option maxRecDepth 20000 in
theorem az_vL_12 : ∀ e ∈ az_kL_12, az_okE az_Z 13 4 false code e = true := fun e h => List.all_eq_true.mp (show az_kL_12.all (az_okE az_Z 13 4 false code) = true by decide +kernel) e h
