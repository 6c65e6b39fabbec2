theorem goods_3 : goods 601 150 = true := by decide +kernel
theorem goods_4 : goods 751 150 = true := by decide +kernel
theorem good_all {d : Nat} (h1 : 5 ≤ d) (h2 : d ≤ 900) : goodD d = true := by
  by_cases c1 : d < 401
  · exact goods_at _ _ d goods_1 (by omega) (by omega)
  · by_cases c2 : d < 601
    · exact goods_at _ _ d goods_2 (by omega) (by omega)
    · by_cases c3 : d < 751
      · exact goods_at _ _ d goods_3 (by omega) (by omega)
      · exact goods_at _ _ d goods_4 (by omega) (by omega)
