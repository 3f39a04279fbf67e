theorem zz_try : nI 3 = 3 := rfl
