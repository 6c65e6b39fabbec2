-- THE CUTTING OF A FRACTION
theorem c50 : ∀ (m u v s n : Nat) (C : Nat → Nat), 1 ≤ u → 1 ≤ v → u ≤ m → v ≤ m → m + s ≤ 99 → m < n → (∀ i, i < s → C i < 2) → ∃ S C', P4_cut_50 n (nI (bv C s)) (nI s) (nI u) (nI v) = some (nI (bv C' S), nI S) ∧ s ≤ S ∧ S ≤ 99
  | 0, u, v, s, n, C, hu, hv, hum, hvm, hm, hn, hC => by omega
  | m + 1, u, v, s, n, C, hu, hv, hum, hvm, hm, hn, hC => by
    obtain ⟨n, rfl⟩ : ∃ z, n = z + 1 := ⟨n - 1, by omega⟩
    by_cases he : u = v
    · exact ⟨s, C, by rw [P4_cut_50, if_pos (by rw [he])], Nat.le_refl s, by omega⟩
    · rw [P4_cut_50, if_neg (fun h => he ((nI_eq (by omega) (by omega)).mp h)), if_neg (show ¬ (99 : Int32) ≤ nI s from nI_ge (b := 99) (by omega) (by omega))]
      by_cases hle : u ≤ v
      · obtain ⟨S, C', b1, b2, b3⟩ := c50 m u (v - u) (s + 1) n (ext C s 0) hu (by omega) (by omega) (by omega) (by omega) (by omega) (ext_lt (by omega) hC)
        rw [bv_ext] at b1
        exact ⟨S, C', by rw [if_pos (nI_le hle (by omega)), n_app0, nI_1, n_sub hle]; exact b1, by omega, b3⟩
      · obtain ⟨S, C', b1, b2, b3⟩ := c50 m (u - v) v (s + 1) n (ext C s 1) (by omega) hv (by omega) (by omega) (by omega) (by omega) (ext_lt (by omega) hC)
        rw [bv_ext] at b1
        exact ⟨S, C', by rw [if_neg (nI_ge (by omega) (by omega)), show (1 : Int32) = nI 1 from rfl, show jshl (nI (bv C s)) (nI 1) ||| nI 1 = nI (bv C s * 2 + 1) from n_app _ 1 (by omega), nI_add, n_sub (by omega)]; exact b1, by omega, b3⟩
/-- a size and something above -/
def zw32 (z w : Nat) : Int32 := nI (z + 32 * w)
theorem z_size {z w : Nat} (hz : z < 32) : P_size (zw32 z w) = some (nI z) := by
  unfold P_size zw32
  rw [show (31 : Int32) = nI (2 ^ 5 - 1) from rfl, n_mask]
  congr 2
  omega
theorem z_1 (z w : Nat) : zw32 z w + 1 = zw32 (z + 1) w := by
  unfold zw32
  rw [nI_1]
  congr 1
  omega
theorem c7long : ∀ (m u v z w n : Nat), 1 ≤ u → 1 ≤ v → u ≤ m → v ≤ m → m < 1000 → 21 ≤ z → z ≤ 25 → m < n → ∃ z', 21 ≤ z' ∧ z' ≤ 25 ∧ P_cutTo_7 n (nI u) (nI v) (zw32 z w) = some (zw32 z' w)
  | 0, u, v, z, w, n, hu, hv, hum, hvm, hm, hz, hz2, hn => by omega
  | m + 1, u, v, z, w, n, hu, hv, hum, hvm, hm, hz, hz2, hn => by
    obtain ⟨n, rfl⟩ : ∃ z, n = z + 1 := ⟨n - 1, by omega⟩
    rw [P_cutTo_7]
    by_cases he : u = v
    · exact ⟨z, hz, hz2, by rw [if_pos (by rw [he])]⟩
    · rw [if_neg (fun h => he ((nI_eq (by omega) (by omega)).mp h)), z_size (by omega), ob, ob, z_1]
      by_cases c : 25 ≤ z
      · exact ⟨z, hz, hz2, by rw [if_pos (show (25 : Int32) ≤ nI z from nI_le (a := 25) c (by omega))]⟩
      · rw [if_neg (show ¬ (25 : Int32) ≤ nI z from nI_ge (b := 25) (by omega) (by omega)), if_neg (show ¬ nI z ≤ (20 : Int32) from nI_ge (a := 20) (by omega) (by omega))]
        by_cases hle : u ≤ v
        · rw [if_pos (nI_le hle (by omega)), n_sub hle]
          exact c7long m u (v - u) (z + 1) w n hu (by omega) (by omega) (by omega) (by omega) (by omega) (by omega) (by omega)
        · rw [if_neg (nI_ge (by omega) (by omega)), n_sub (by omega)]
          exact c7long m (u - v) v (z + 1) w n (by omega) hv (by omega) (by omega) (by omega) (by omega) (by omega) (by omega)
theorem mt_ext {C : Nat → Nat} {s l : Nat} : mtN (ext C s l) (s + 1) = if l = 1 then ((mtN C s).1, (mtN C s).2.1 + (mtN C s).1, (mtN C s).2.2.1, (mtN C s).2.2.2 + (mtN C s).2.2.1) else ((mtN C s).1 + (mtN C s).2.1, (mtN C s).2.1, (mtN C s).2.2.1 + (mtN C s).2.2.2, (mtN C s).2.2.2) := by
  have e : ∀ n, n ≤ s → mtN (ext C s l) n = mtN C n := fun n => by
    induction n with
    | zero => exact fun _ => rfl
    | succ n ih =>
      intro hn
      rw [mtN, mtN, ih (by omega)]
      have : ext C s l n = C n := by
        unfold ext
        rw [if_neg (by omega)]
      rw [this]
  have e2 : ext C s l s = l := by
    unfold ext
    rw [if_pos rfl]
  rw [mtN, e s (Nat.le_refl s), e2]
theorem c_both {p q : Nat} : ∀ (m u v s n1 n2 : Nat) (C : Nat → Nat), 1 ≤ u → 1 ≤ v → u ≤ m → v ≤ m → m + s ≤ 99 → m < n1 → m < n2 → s ≤ 20 → (∀ i, i < s → C i < 2) → Nat.gcd u v = 1 → (mtN C s).1 * u + (mtN C s).2.1 * v = p → (mtN C s).2.2.1 * u + (mtN C s).2.2.2 * v = q → ∃ S C' w, P4_cut_50 n1 (nI (bv C s)) (nI s) (nI u) (nI v) = some (nI (bv C' S), nI S) ∧ P_cutTo_7 n2 (nI u) (nI v) (cw s C) = some w ∧ s ≤ S ∧ S ≤ 99 ∧ (¬ u = v → s < S) ∧ (S ≤ 20 → w = cw S C' ∧ (∀ i, i < S → C' i < 2) ∧ (mtN C' S).1 + (mtN C' S).2.1 = p ∧ (mtN C' S).2.2.1 + (mtN C' S).2.2.2 = q ∧ P_size w = some (nI S)) ∧ (20 < S → ∃ z, 20 < z ∧ z < 32 ∧ P_size w = some (nI z))
  | 0, u, v, s, n1, n2, C, hu, hv, hum, hvm, hm, hn1, hn2, hs, hC, hg, hp, hq => by omega
  | m + 1, u, v, s, n1, n2, C, hu, hv, hum, hvm, hm, hn1, hn2, hs, hC, hg, hp, hq => by
    obtain ⟨n1, rfl⟩ : ∃ z, n1 = z + 1 := ⟨n1 - 1, by omega⟩
    obtain ⟨n2, rfl⟩ : ∃ z, n2 = z + 1 := ⟨n2 - 1, by omega⟩
    by_cases he : u = v
    · subst he
      rw [Nat.gcd_self] at hg
      subst hg
      rw [Nat.mul_one, Nat.mul_one] at hp hq
      exact ⟨s, C, cw s C, by rw [P4_cut_50, if_pos rfl], by rw [P_cutTo_7, if_pos rfl], Nat.le_refl s, by omega, fun w => absurd rfl w, fun _ => ⟨rfl, hC, hp, hq, q_size (by omega)⟩, fun w => by omega⟩
    · have hne : ¬ nI u = nI v := fun h => he ((nI_eq (by omega) (by omega)).mp h)
      rw [P4_cut_50, if_neg hne, if_neg (show ¬ (99 : Int32) ≤ nI s from nI_ge (b := 99) (by omega) (by omega)), P_cutTo_7, if_neg hne, q_size (by omega), ob, ob, if_neg (show ¬ (25 : Int32) ≤ nI s from nI_ge (b := 25) (by omega) (by omega)), if_pos (show nI s ≤ (20 : Int32) from nI_le (b := 20) hs (by omega))]
      have step : ∀ l, l < 2 → ∀ u' v', 1 ≤ u' → 1 ≤ v' → u' ≤ m → v' ≤ m → Nat.gcd u' v' = 1 → (mtN (ext C s l) (s + 1)).1 * u' + (mtN (ext C s l) (s + 1)).2.1 * v' = p → (mtN (ext C s l) (s + 1)).2.2.1 * u' + (mtN (ext C s l) (s + 1)).2.2.2 * v' = q → ∃ S C' w, P4_cut_50 n1 (nI (bv C s * 2 + l)) (nI (s + 1)) (nI u') (nI v') = some (nI (bv C' S), nI S) ∧ P_cutTo_7 n2 (nI u') (nI v') (cw (s + 1) (ext C s l)) = some w ∧ s ≤ S ∧ S ≤ 99 ∧ (¬ u = v → s < S) ∧ (S ≤ 20 → w = cw S C' ∧ (∀ i, i < S → C' i < 2) ∧ (mtN C' S).1 + (mtN C' S).2.1 = p ∧ (mtN C' S).2.2.1 + (mtN C' S).2.2.2 = q ∧ P_size w = some (nI S)) ∧ (20 < S → ∃ z, 20 < z ∧ z < 32 ∧ P_size w = some (nI z)) := by
        intro l hl u' v' a1 a2 a3 a4 a5 a6 a7
        by_cases c : s = 20
        · obtain ⟨S, C', b1, b2, b3⟩ := c50 m u' v' (s + 1) n1 (ext C s l) a1 a2 a3 a4 (by omega) (by omega) (ext_lt hl hC)
          rw [bv_ext] at b1
          obtain ⟨z, z1, z2, z3⟩ := c7long m u' v' (s + 1) (le (ext C s l) (s + 1)) n2 a1 a2 a3 a4 (by omega) (by omega) (by omega) (by omega)
          exact ⟨S, C', _, b1, z3, by omega, b3, fun _ => by omega, fun w => by omega, fun _ => ⟨z, by omega, by omega, z_size (by omega)⟩⟩
        · obtain ⟨S, C', w, b1, b2, b3, b4, b5, b6, b7⟩ := c_both m u' v' (s + 1) n1 n2 (ext C s l) a1 a2 a3 a4 (by omega) (by omega) (by omega) (by omega) (ext_lt hl hC) a5 a6 a7
          rw [bv_ext] at b1
          exact ⟨S, C', w, b1, b2, by omega, b4, fun _ => by omega, b6, b7⟩
      by_cases hle : u ≤ v
      · have := step 0 (by omega) u (v - u) hu (by omega) (by omega) (by omega) (by rw [← Nat.gcd_sub_self_right hle] at hg; exact hg) (by
          rw [mt_ext, if_neg (by omega)]
          dsimp only
          rw [← hp, Nat.add_mul, Nat.mul_sub]
          have := Nat.mul_le_mul_left (mtN C s).2.1 hle
          omega) (by
          rw [mt_ext, if_neg (by omega)]
          dsimp only
          rw [← hq, Nat.add_mul, Nat.mul_sub]
          have := Nat.mul_le_mul_left (mtN C s).2.2.2 hle
          omega)
        rw [if_pos (nI_le hle (by omega)), if_pos (nI_le hle (by omega)), n_app0, nI_1, n_sub hle, show P_with (cw s C) 0 = _ from q_ext (l := 0) hs hC (by omega), ob, if_pos (nI_le hle (by omega))]
        exact this
      · have := step 1 (by omega) (u - v) v (by omega) hv (by omega) (by omega) (by rw [← Nat.gcd_sub_self_left (show v ≤ u by omega)] at hg; exact hg) (by
          rw [mt_ext, if_pos rfl]
          dsimp only
          rw [← hp, Nat.add_mul, Nat.mul_sub]
          have := Nat.mul_le_mul_left (mtN C s).1 (show v ≤ u by omega)
          omega) (by
          rw [mt_ext, if_pos rfl]
          dsimp only
          rw [← hq, Nat.add_mul, Nat.mul_sub]
          have := Nat.mul_le_mul_left (mtN C s).2.2.1 (show v ≤ u by omega)
          omega)
        rw [if_neg (nI_ge (by omega) (by omega)), if_neg (nI_ge (by omega) (by omega)), n_sub (by omega), show P_with (cw s C) 1 = _ from q_ext (l := 1) hs hC (by omega), ob, if_neg (nI_ge (by omega) (by omega)), show (1 : Int32) = nI 1 from rfl, show jshl (nI (bv C s)) (nI 1) ||| nI 1 = nI (bv C s * 2 + 1) from n_app _ 1 (by omega), nI_add]
        exact this
section
variable {rc : Int32} {wn : Nat} {wv : Nat → Nat → Int32}
theorem cut_no {x y : Int32} (h : x < 1 ∨ 99 < x ∨ y < 1 ∨ 99 < y ∨ x = y) : P4_cut rc wn wv x y = some (-2000000102, rc, wn, wv) := by
  unfold P4_cut
  by_cases c1 : x < 1
  · rw [if_pos c1]
  · rw [if_neg c1]
    by_cases c2 : 99 < x
    · rw [if_pos c2]
    · rw [if_neg c2]
      by_cases c3 : y < 1
      · rw [if_pos c3]
      · rw [if_neg c3]
        by_cases c4 : 99 < y
        · rw [if_pos c4]
        · rw [if_neg c4, if_pos]
          rcases h with h | h | h | h | h
          · exact absurd h c1
          · exact absurd h c2
          · exact absurd h c3
          · exact absurd h c4
          · exact h
theorem cut_gcd {p q : Nat} (p1 : 1 ≤ p) (p2 : p ≤ 99) (q1 : 1 ≤ q) (q2 : q ≤ 99) (hg : 1 < Nat.gcd p q) : P4_cut rc wn wv (nI p) (nI q) = some (-2000000102, rc, wn, wv) := by
  have g1 := Nat.gcd_le_left q (show 0 < p by omega)
  by_cases he : p = q
  · exact cut_no (Or.inr (Or.inr (Or.inr (Or.inr (by rw [he])))))
  · unfold P4_cut
    rw [if_neg (show ¬ nI p < (1 : Int32) from fun w => by have := (nI_ltI (b := 1) (by omega) (by omega)).mp w; omega), if_neg (show ¬ (99 : Int32) < nI p from fun w => by have := (nI_ltI (a := 99) (by omega) (by omega)).mp w; omega), if_neg (show ¬ nI q < (1 : Int32) from fun w => by have := (nI_ltI (b := 1) (by omega) (by omega)).mp w; omega), if_neg (show ¬ (99 : Int32) < nI q from fun w => by have := (nI_ltI (a := 99) (by omega) (by omega)).mp w; omega), if_neg (fun w => he ((nI_eq (by omega) (by omega)).mp w)), w_common (ok_nI (by omega)) (ok_nI (by omega)), ob, na_nI (by omega), na_nI (by omega), show max 1 (Nat.gcd p q) = Nat.gcd p q by omega, if_neg (show ¬ nI (Nat.gcd p q) ≤ (1 : Int32) from nI_ge (a := 1) hg (by omega))]
theorem cut_42 : P4_cut rc wn wv 4 2 = some (-2000000102, rc, wn, wv) := cut_gcd (p := 4) (q := 2) (by omega) (by omega) (by omega) (by omega) (by decide)
theorem cut_go {p q S : Nat} {b : Int32} (p1 : 1 ≤ p) (p2 : p ≤ 99) (q1 : 1 ≤ q) (q2 : q ≤ 99) (hg : Nat.gcd p q = 1) (he : ¬ p = q) (hc : P4_cut_50 FU 0 0 (nI p) (nI q) = some (b, nI S)) : P4_cut rc wn wv (nI p) (nI q) = P4_addRoad rc wn wv b (nI S) := by
  unfold P4_cut
  rw [if_neg (show ¬ nI p < (1 : Int32) from fun w => by have := (nI_ltI (b := 1) (by omega) (by omega)).mp w; omega), if_neg (show ¬ (99 : Int32) < nI p from fun w => by have := (nI_ltI (a := 99) (by omega) (by omega)).mp w; omega), if_neg (show ¬ nI q < (1 : Int32) from fun w => by have := (nI_ltI (b := 1) (by omega) (by omega)).mp w; omega), if_neg (show ¬ (99 : Int32) < nI q from fun w => by have := (nI_ltI (a := 99) (by omega) (by omega)).mp w; omega), if_neg (fun w => he ((nI_eq (by omega) (by omega)).mp w)), w_common (ok_nI (by omega)) (ok_nI (by omega)), ob, na_nI (by omega), na_nI (by omega), hg, if_pos (by decide), hc, ob]
  cases P4_addRoad rc wn wv b (nI S) <;> rfl
end
