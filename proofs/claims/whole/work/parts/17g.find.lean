-- THE NUMBER OF A FORM: the class's leaps, the reference's steps
def FMt (l : List (Nat × Nat × Nat)) (fA fB fC : Nat → Int32) : Prop := ∀ (i k a c : Nat), l[i]? = some (k, a, c) → fA i = nI a ∧ fB i = nI k - 30 ∧ fC i = -(nI c)
/-- numbers that are small -/
def SmL (l : List (Nat × Nat × Nat)) : Prop := List.Pairwise ltF l ∧ l.length ≤ 320 ∧ ∀ (i k a c : Nat), l[i]? = some (k, a, c) → k ≤ 60 ∧ a ≤ 1000 ∧ c ≤ 1000
theorem ofF {n i w : Nat} {fo : Nat → Nat → Int32} (hi : i < n) (hn : n ≤ 320) (hw : w < 8) : P2_ofForm (nI n) fo (nI i) (nI w) = some (fo w i) := by
  unfold P2_ofForm P2_hasForm
  rw [if_neg (n_neg (by omega)), if_neg (nI_ge hi (by omega)), if_neg (show ¬ (320 : Int32) ≤ nI i from nI_ge (b := 320) (by omega) (by omega)), ob, if_neg (show ¬ (1 : Int32) = 0 by decide), if_neg (n_neg (by omega)), if_neg (show ¬ (8 : Int32) ≤ nI w from nI_ge (b := 8) (by omega) (by omega)), if_pos (n_in hw (by omega)), if_pos (n_in (show i < 320 by omega) (by omega)), n_cl (by omega), n_cl (by omega)]
theorem setF {n i w : Nat} {fo : Nat → Nat → Int32} {v : Int32} (hi : i < n) (hn : n ≤ 320) (hw : w < 8) : P2_setForm (nI n) fo (nI i) (nI w) v = some (upd2 fo w i v) := by
  unfold P2_setForm P2_hasForm
  rw [if_neg (n_neg (by omega)), if_neg (nI_ge hi (by omega)), if_neg (show ¬ (320 : Int32) ≤ nI i from nI_ge (b := 320) (by omega) (by omega)), ob, if_neg (show ¬ (1 : Int32) = 0 by decide), if_neg (n_neg (by omega)), if_neg (show ¬ (8 : Int32) ≤ nI w from nI_ge (b := 8) (by omega) (by omega)), if_pos (n_in hw (by omega)), if_pos (n_in (show i < 320 by omega) (by omega)), n_cl (by omega), n_cl (by omega)]
def aftI (fA fB : Nat → Int32) (x y : Int32) (i : Nat) : Prop := y < fB i ∨ (fB i = y ∧ x < fA i)
theorem w_isAfter {n i : Nat} {fo : Nat → Nat → Int32} (x y : Int32) (hi : i < n) (hn : n ≤ 320) : (aftI (fo 0) (fo 1) x y i ∧ P2_isAfter (nI n) fo (nI i) x y = some 1) ∨ (¬ aftI (fo 0) (fo 1) x y i ∧ P2_isAfter (nI n) fo (nI i) x y = some 0) := by
  unfold P2_isAfter aftI
  rw [show P2_ofForm (nI n) fo (nI i) 1 = _ from ofF (w := 1) hi hn (by omega), ob, show P2_ofForm (nI n) fo (nI i) 0 = _ from ofF (w := 0) hi hn (by omega), ob]
  by_cases h1 : y < fo 1 i
  · rw [if_pos h1]
    exact Or.inl ⟨Or.inl h1, rfl⟩
  · rw [if_neg h1]
    by_cases h2 : fo 1 i = y
    · rw [if_pos h2]
      by_cases h3 : fo 0 i ≤ x
      · rw [if_pos h3]
        exact Or.inr ⟨fun q => q.elim h1 (fun q => absurd q.2 (Int32.not_lt.mpr h3)), rfl⟩
      · rw [if_neg h3]
        exact Or.inl ⟨Or.inr ⟨h2, Int32.not_le.mp h3⟩, rfl⟩
    · rw [if_neg h2]
      exact Or.inr ⟨fun q => q.elim h1 (fun q => h2 q.1), rfl⟩
theorem i_kb {k : Nat} (h : k ≤ 60) : (nI k - 30).toInt = (k : Int) - 30 := pk_sub_toInt (b := 30) (by omega) (by omega)
theorem aft_mono {l : List (Nat × Nat × Nat)} {fA fB fC : Nat → Int32} (hl : SmL l) (hf : FMt l fA fB fC) {x y : Int32} {i j : Nat} (hij : i < j) (hj : j < l.length) (h : aftI fA fB x y i) : aftI fA fB x y j := by
  obtain ⟨⟨k1, a1, c1⟩, e1⟩ := gt_ex (show i < l.length by omega)
  obtain ⟨⟨k2, a2, c2⟩, e2⟩ := gt_ex hj
  obtain ⟨f1, f2, -⟩ := hf _ _ _ _ e1
  obtain ⟨g1, g2, -⟩ := hf _ _ _ _ e2
  have s1 := hl.2.2 _ _ _ _ e1
  have s2 := hl.2.2 _ _ _ _ e2
  have hlt := sorted_lt hl.1 e1 e2 hij
  unfold ltF at hlt
  simp only at hlt
  unfold aftI at *
  rw [f1, f2] at h
  rw [g1, g2]
  simp only [Int32.lt_iff_toInt_lt, ← Int32.toInt_inj, i_kb s1.1, i_kb s2.1, nI_toInt (show a1 < 2 ^ 31 by omega), nI_toInt (show a2 < 2 ^ 31 by omega)] at *
  omega
theorem w_find_loop {l : List (Nat × Nat × Nat)} {fo : Nat → Nat → Int32} (hl : SmL l) (hf : FMt l (fo 0) (fo 1) (fo 2)) (h0 : 0 < l.length) (x y : Int32) : ∀ (e n p : Nat), e ≤ 9 → e < n → p < l.length → (p = 0 ∨ ¬ aftI (fo 0) (fo 1) x y p) → (∀ i, p + 2 ^ e ≤ i → i < l.length → aftI (fo 0) (fo 1) x y i) → ∃ r, P2_find_8 (nI l.length) fo x y n (nI p) (nI (2 ^ e / 2)) = some (nI r) ∧ r < l.length ∧ (r = 0 ∨ ¬ aftI (fo 0) (fo 1) x y r) ∧ ∀ i, r < i → i < l.length → aftI (fo 0) (fo 1) x y i
  | 0, n, p, he, hn, hp, h1, h2 => by
    obtain ⟨n, rfl⟩ : ∃ z, n = z + 1 := ⟨n - 1, by omega⟩
    refine ⟨p, by rw [P2_find_8, if_pos (by decide)], hp, h1, fun i hi => h2 i (by omega)⟩
  | e + 1, n, p, he, hn, hp, h1, h2 => by
    obtain ⟨n, rfl⟩ : ∃ z, n = z + 1 := ⟨n - 1, by omega⟩
    have hlen := hl.2.1
    have hpe : 2 ^ e ≤ 2 ^ 8 := Nat.pow_le_pow_right (by omega) (by omega)
    have hp1 : 1 ≤ 2 ^ e := Nat.one_le_two_pow
    have hd : nI (2 ^ e) / 2 = nI (2 ^ e / 2) := by
      apply Int32.toInt_inj.mp
      rw [Int32.toInt_div, nI_toInt (by omega), nI_toInt (by omega), show (2 : Int32).toInt = ((2 : Nat) : Int) from rfl, ← Int.ofNat_tdiv, Int.bmod_eq_of_le (by omega) (by omega)]
    rw [Nat.pow_succ, Nat.mul_div_cancel _ (by omega)]
    rw [Nat.pow_succ] at h2
    rw [P2_find_8, if_neg (show ¬ nI (2 ^ e) ≤ (0 : Int32) from nI_ge (a := 0) (by omega) (by omega)), nI_add, hd]
    have down : (∀ i, p + 2 ^ e ≤ i → i < l.length → aftI (fo 0) (fo 1) x y i) → ∃ r, P2_find_8 (nI l.length) fo x y n (nI p) (nI (2 ^ e / 2)) = some (nI r) ∧ r < l.length ∧ (r = 0 ∨ ¬ aftI (fo 0) (fo 1) x y r) ∧ ∀ i, r < i → i < l.length → aftI (fo 0) (fo 1) x y i := fun q => w_find_loop hl hf h0 x y e n p (by omega) (by omega) hp h1 q
    by_cases c1 : l.length ≤ p + 2 ^ e
    · rw [if_pos (nI_le c1 (by omega))]
      exact down (fun i hi hi2 => by omega)
    · rw [if_neg (nI_ge (by omega) (by omega))]
      rcases w_isAfter (fo := fo) x y (show p + 2 ^ e < l.length by omega) hlen with ⟨q1, q2⟩ | ⟨q1, q2⟩
      · rw [q2, ob, if_neg (show ¬ (1 : Int32) = 0 by decide)]
        refine down (fun i hi hi2 => ?_)
        by_cases q : i = p + 2 ^ e
        · rw [q]
          exact q1
        · exact aft_mono hl hf (show p + 2 ^ e < i by omega) hi2 q1
      · rw [q2, ob, if_pos rfl]
        exact w_find_loop hl hf h0 x y e n (p + 2 ^ e) (by omega) (by omega) (by omega) (Or.inr q1) (fun i hi hi2 => h2 i (by omega) hi2)
/-- the number that both find -/
def Fnd (l : List (Nat × Nat × Nat)) (fA fB fC : Nat → Int32) (x y z r : Int32) : Prop := (∃ i, i < l.length ∧ fA i = x ∧ fB i = y ∧ fC i = z ∧ r = nI i) ∨ ((∀ i, i < l.length → ¬ (fA i = x ∧ fB i = y ∧ fC i = z)) ∧ r = -2000000001)
theorem w_find {l : List (Nat × Nat × Nat)} {fo : Nat → Nat → Int32} (hl : SmL l) (hf : FMt l (fo 0) (fo 1) (fo 2)) (h0 : 0 < l.length) (x y z : Int32) : ∃ r, P2_find (nI l.length) fo x y z = some r ∧ Fnd l (fo 0) (fo 1) (fo 2) x y z r := by
  have hlen := hl.2.1
  obtain ⟨p, h1, h2, h3, h4⟩ := w_find_loop hl hf h0 x y 9 FU 0 (by omega) (by unfold FU; omega) h0 (Or.inl rfl) (fun i hi hi2 => by omega)
  unfold P2_find
  rw [show P2_find_8 (nI l.length) fo x y FU 0 256 = _ from h1, ob, show P2_ofForm (nI l.length) fo (nI p) 0 = _ from ofF (w := 0) h2 hlen (by omega), ob, show P2_ofForm (nI l.length) fo (nI p) 1 = _ from ofF (w := 1) h2 hlen (by omega), ob, show P2_ofForm (nI l.length) fo (nI p) 2 = _ from ofF (w := 2) h2 hlen (by omega), ob]
  have none : ¬ (fo 0 p = x ∧ fo 1 p = y ∧ fo 2 p = z) → ∀ i, i < l.length → ¬ (fo 0 i = x ∧ fo 1 i = y ∧ fo 2 i = z) := fun q i hi e => by
    have na : ¬ aftI (fo 0) (fo 1) x y i := fun w => by
      unfold aftI at w
      rw [e.1, e.2.1] at w
      rcases w with w | w
      · exact Int32.lt_irrefl w
      · exact Int32.lt_irrefl w.2
    rcases Nat.lt_trichotomy i p with c | c | c
    · obtain ⟨⟨k1, a1, c1⟩, e1⟩ := gt_ex hi
      obtain ⟨⟨k2, a2, c2⟩, e2⟩ := gt_ex h2
      obtain ⟨f1, f2, -⟩ := hf _ _ _ _ e1
      obtain ⟨g1, g2, -⟩ := hf _ _ _ _ e2
      have s1 := hl.2.2 _ _ _ _ e1
      have s2 := hl.2.2 _ _ _ _ e2
      have hlt := sorted_lt hl.1 e1 e2 c
      rcases h3 with h3 | h3
      · omega
      · apply h3
        unfold aftI
        rw [g1, g2, ← e.1, ← e.2.1, f1, f2]
        unfold ltF at hlt
        simp only at hlt
        simp only [Int32.lt_iff_toInt_lt, ← Int32.toInt_inj, i_kb s1.1, i_kb s2.1, nI_toInt (show a1 < 2 ^ 31 by omega), nI_toInt (show a2 < 2 ^ 31 by omega)]
        omega
    · subst c
      exact q e
    · exact na (h4 i c hi)
  by_cases c1 : fo 0 p = x
  · rw [if_pos c1]
    by_cases c2 : fo 1 p = y
    · rw [if_pos c2]
      by_cases c3 : fo 2 p = z
      · rw [if_pos c3]
        exact ⟨_, rfl, Or.inl ⟨p, h2, c1, c2, c3, rfl⟩⟩
      · rw [if_neg c3]
        exact ⟨_, rfl, Or.inr ⟨none (fun q => c3 q.2.2), rfl⟩⟩
    · rw [if_neg c2]
      exact ⟨_, rfl, Or.inr ⟨none (fun q => c2 q.2.1), rfl⟩⟩
  · rw [if_neg c1]
    exact ⟨_, rfl, Or.inr ⟨none (fun q => c1 q.1), rfl⟩⟩
theorem m_number_loop {n : Nat} {fA fB fC : Nat → Int32} (hn : n ≤ 320) (x y z : Int32) : ∀ (j k f : Nat), k + j = n → j < f → (∀ i, i < k → ¬ (fA i = x ∧ fB i = y ∧ fC i = z)) → ∃ r, P5_numberOf_3 (nI n) fA fB fC x y z f (nI k) = some (nI r) ∧ r ≤ n ∧ (r < n → fA r = x ∧ fB r = y ∧ fC r = z) ∧ ∀ i, i < r → ¬ (fA i = x ∧ fB i = y ∧ fC i = z)
  | 0, k, f, hk, hf, h => by
    obtain ⟨f, rfl⟩ : ∃ w, f = w + 1 := ⟨f - 1, by omega⟩
    exact ⟨k, by rw [P5_numberOf_3, if_pos (nI_le (by omega) (by omega))], by omega, fun q => by omega, h⟩
  | j + 1, k, f, hk, hf, h => by
    obtain ⟨f, rfl⟩ : ∃ w, f = w + 1 := ⟨f - 1, by omega⟩
    have hv : vx (nI k) 1200 := n_in (show k < 1200 by omega) (by omega)
    have next : ¬ (fA k = x ∧ fB k = y ∧ fC k = z) → ∃ r, P5_numberOf_3 (nI n) fA fB fC x y z f (nI k + 1) = some (nI r) ∧ r ≤ n ∧ (r < n → fA r = x ∧ fB r = y ∧ fC r = z) ∧ ∀ i, i < r → ¬ (fA i = x ∧ fB i = y ∧ fC i = z) := fun q => by
      rw [nI_1]
      refine m_number_loop hn x y z j (k + 1) f (by omega) (by omega) (fun i hi => ?_)
      by_cases e : i = k
      · rw [e]
        exact q
      · exact h i (by omega)
    rw [P5_numberOf_3, if_neg (nI_ge (by omega) (by omega)), if_pos hv, if_pos hv, if_pos hv, n_cl (by omega)]
    by_cases c1 : fA k = x
    · rw [if_pos c1]
      by_cases c2 : fB k = y
      · rw [if_pos c2]
        by_cases c3 : fC k = z
        · rw [if_pos c3]
          exact ⟨k, rfl, by omega, fun _ => ⟨c1, c2, c3⟩, h⟩
        · rw [if_neg c3]
          exact next (fun q => c3 q.2.2)
      · rw [if_neg c2]
        exact next (fun q => c2 q.2.1)
    · rw [if_neg c1]
      exact next (fun q => c1 q.1)
theorem m_number {l : List (Nat × Nat × Nat)} {fA fB fC : Nat → Int32} (hn : l.length ≤ 320) (x y z : Int32) : ∃ r, P5_numberOf (nI l.length) fA fB fC x y z = some r ∧ Fnd l fA fB fC x y z r := by
  obtain ⟨r, h1, h2, h3, h4⟩ := m_number_loop (fA := fA) (fB := fB) (fC := fC) hn x y z l.length 0 FU (by omega) (by unfold FU; omega) (fun i hi => by omega)
  unfold P5_numberOf
  rw [show P5_numberOf_3 (nI l.length) fA fB fC x y z FU 0 = _ from h1, ob]
  by_cases q : l.length ≤ r
  · rw [if_pos (nI_le q (by omega))]
    exact ⟨_, rfl, Or.inr ⟨fun i hi => h4 i (by omega), rfl⟩⟩
  · rw [if_neg (nI_ge (by omega) (by omega))]
    obtain ⟨g1, g2, g3⟩ := h3 (by omega)
    exact ⟨_, rfl, Or.inl ⟨r, by omega, g1, g2, g3, rfl⟩⟩
