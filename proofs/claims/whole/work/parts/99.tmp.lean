theorem zz_tmp : 1 + 1 = 2 := rfl
