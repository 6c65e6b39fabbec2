section
variable {zs : Int64} {c1 c2 c3 d1 d2 d3 d4 d5 d6 d7 e1 e2 e3 e4 e5 e6 e7 : Int32}
theorem d_no {x y z : Int32} (h : x < 1 ∨ 40 < x ∨ y < 0 ∨ z < 0 ∨ 4 ≤ z) : ∃ r, P4_drawn zs c1 c2 c3 d1 d2 d3 d4 d5 d6 d7 e1 e2 e3 e4 e5 e6 e7 x y z = some r ∧ r.1 = -2000000102 := by
  unfold P4_drawn
  by_cases a1 : x < 1
  · exact ⟨_, by rw [if_pos a1], rfl⟩
  · rw [if_neg a1]
    by_cases a2 : 40 < x
    · exact ⟨_, by rw [if_pos a2], rfl⟩
    · rw [if_neg a2]
      by_cases a3 : y < 0
      · exact ⟨_, by rw [if_pos a3], rfl⟩
      · rw [if_neg a3]
        by_cases a4 : z < 0
        · exact ⟨_, by rw [if_pos a4], rfl⟩
        · rw [if_neg a4]
          by_cases a5 : z < 4
          · rcases h with h | h | h | h | h
            · exact absurd h a1
            · exact absurd h a2
            · exact absurd h a3
            · exact absurd h a4
            · exact absurd a5 (Int32.not_lt.mpr h)
          · exact ⟨_, by rw [if_neg a5], rfl⟩
theorem d_go {m s : Nat} {z : Int32} {S : Int64} {CL TR CR : Int32} (m1 : 1 ≤ m) (hm : m ≤ 40) (hs : s < 2147483648) (hz : z = 0 ∨ z = 1 ∨ z = 2 ∨ z = 3) (hr : ∀ d1 d2 d3 d4 d5 d6 d7 : Int32, ∃ a, P0_run d1 d2 d3 d4 d5 d6 d7 (nI m) (nI s) = some a ∧ a.1 = S ∧ a.2.1 = CL ∧ a.2.2.1 = TR ∧ a.2.2.2.1 = CR) : ∃ r, P4_drawn zs c1 c2 c3 d1 d2 d3 d4 d5 d6 d7 e1 e2 e3 e4 e5 e6 e7 (nI m) (nI s) z = some r ∧ r.1 = (if z = 0 then CL else if z = 1 then TR else if z = 2 then CR else Int64.toInt32 S) := by
  obtain ⟨a, h0, h1, h2, h3, h4⟩ := hr d1 d2 d3 d4 d5 d6 d7
  have a1 : ¬ nI m < (1 : Int32) := fun q => by
    have := (nI_ltI (b := 1) (by omega) (by omega)).mp q
    omega
  have a2 : ¬ (40 : Int32) < nI m := fun q => by
    have := (nI_ltI (a := 40) (by omega) (by omega)).mp q
    omega
  unfold P4_drawn
  rw [if_neg a1, if_neg a2, if_neg (n_neg (by omega)), h0]
  rcases hz with rfl | rfl | rfl | rfl
  · exact ⟨_, by rw [if_neg (by decide), if_pos (by decide), ob, if_pos rfl], h2⟩
  · exact ⟨_, by rw [if_neg (by decide), if_pos (by decide), ob, if_neg (by decide), if_pos rfl], h3⟩
  · exact ⟨_, by rw [if_neg (by decide), if_pos (by decide), ob, if_neg (by decide), if_neg (by decide), if_pos rfl], h4⟩
  · exact ⟨_, by rw [if_neg (by decide), if_pos (by decide), ob, if_neg (by decide), if_neg (by decide), if_neg (by decide)], congrArg Int64.toInt32 h1⟩
end
