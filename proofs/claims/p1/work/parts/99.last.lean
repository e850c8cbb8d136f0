theorem zz_dummy : 1 + 1 = 2 := rfl
