theorem px_dr_0 (x y : Int) : px_dr 0 x y = pDiv x y := rfl
theorem px_dr_1 (x y : Int) : px_dr 1 x y = pRem x y := rfl
