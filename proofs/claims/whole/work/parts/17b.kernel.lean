-- EVERY DISCRIMINANT, COUNTED: at most 320 simple forms, at most 10 of them the lowest of their cycle
theorem goods_1 : goods 5 396 = true := by decide +kernel
theorem goods_2 : goods 401 200 = true := by decide +kernel
