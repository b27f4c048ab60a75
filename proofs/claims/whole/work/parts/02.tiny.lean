theorem zz_ok : 1 + 1 = 2 := rfl
