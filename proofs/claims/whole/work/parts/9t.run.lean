theorem z_run70 : (am_ex 20000 (999, 70, 0, am_lo 70 [.ref 1], [], [(300, []), (10, am_blank.getD 10 [])])).isSome = true := by decide +kernel
