-- THE LIST IS BUILT, HERE AND THERE
theorem bm32 {n : Nat} (h : n < 2 ^ 31) : ((n : Int)).bmod (2 ^ 32) = (n : Int) := Int.bmod_eq_of_le (by omega) (by omega)
theorem bm32n {n : Nat} (h : n < 2 ^ 31) : (-(n : Int)).bmod (2 ^ 32) = -(n : Int) := Int.bmod_eq_of_le (by omega) (by omega)
theorem n_div {x y : Nat} (hx : x < 2 ^ 31) (hy : y < 2 ^ 31) : nI x / nI y = nI (x / y) := by
  apply Int32.toInt_inj.mp
  have h1 := Nat.div_le_self x y
  rw [Int32.toInt_div, nI_toInt hx, nI_toInt hy, nI_toInt (by omega), ← Int.ofNat_tdiv]
  exact bm32 (by omega)
theorem n_ndiv {x y : Nat} (hx : x < 2 ^ 31) (hy : y < 2 ^ 31) : (-nI x) / nI y = -(nI (x / y)) := by
  apply Int32.toInt_inj.mp
  have h1 := Nat.div_le_self x y
  have e1 : (-nI x).toInt = -(x : Int) := by rw [neg_toInt (ok_nI hx), nI_toInt hx]
  have e2 : (-nI (x / y)).toInt = -((x / y : Nat) : Int) := by rw [neg_toInt (ok_nI (by omega)), nI_toInt (by omega)]
  rw [Int32.toInt_div, e1, e2, nI_toInt hy, Int.neg_tdiv, ← Int.ofNat_tdiv]
  exact bm32n (by omega)
theorem ok_kb {k : Nat} (h : k ≤ 60) : Ok (nI k - 30) := by
  unfold Ok
  rw [i_kb h]
  omega
theorem na_kb {k : Nat} (h : k ≤ 60) : na (nI k - 30) = df k := by
  unfold na
  rw [i_kb h, df_abs]
theorem w_grade {k a p : Nat} (hk : k ≤ 60) (ha : 1 ≤ a) (ha2 : a ≤ 1000) (hp : p ≤ 1000) : ∃ r, P4_commonDivisor (nI a) (nI k - 30) = some r ∧ ∃ r', P4_commonDivisor r (nI (p / a)) = some r' ∧ (r' = 1 ↔ Nat.gcd (Nat.gcd a (df k)) (p / a) = 1) := by
  have h1 := Nat.div_le_self p a
  have g1 := Nat.gcd_pos_of_pos_left (df k) (show 0 < a by omega)
  have g2 := Nat.gcd_le_left (df k) (show 0 < a by omega)
  have g3 := Nat.gcd_pos_of_pos_left (p / a) g1
  have g4 := Nat.gcd_le_left (p / a) g1
  rw [w_common (ok_nI (by omega)) (ok_kb hk), na_nI (by omega), na_kb hk, show max 1 (Nat.gcd a (df k)) = Nat.gcd a (df k) by omega]
  refine ⟨_, rfl, ?_⟩
  rw [w_common (ok_nI (by omega)) (ok_nI (by omega)), na_nI (by omega), na_nI (by omega), show max 1 (Nat.gcd (Nat.gcd a (df k)) (p / a)) = Nat.gcd (Nat.gcd a (df k)) (p / a) by omega]
  exact ⟨_, rfl, nI_eq (b := 1) (by omega) (by omega)⟩
theorem m_grade {k a p : Nat} (hk : k ≤ 60) (ha : 1 ≤ a) (ha2 : a ≤ 1000) (hp : p ≤ 1000) : ∃ r, P5_common (nI a) (nI k - 30) = some r ∧ ∃ r', P5_common r (nI (p / a)) = some r' ∧ (r' = 1 ↔ Nat.gcd (Nat.gcd a (df k)) (p / a) = 1) := by
  have h1 := Nat.div_le_self p a
  have g1 := Nat.gcd_pos_of_pos_left (df k) (show 0 < a by omega)
  have g2 := Nat.gcd_le_left (df k) (show 0 < a by omega)
  have g4 := Nat.gcd_le_left (p / a) g1
  rw [m_common (ok_nI (by omega)) (ok_kb hk), na_nI (by omega), na_kb hk]
  refine ⟨_, rfl, ?_⟩
  rw [m_common (ok_nI (by omega)) (ok_nI (by omega)), na_nI (by omega), na_nI (by omega)]
  exact ⟨_, rfl, nI_eq (b := 1) (by omega) (by omega)⟩
theorem FMt_push {l : List (Nat × Nat × Nat)} {fA fB fC gA gB gC : Nat → Int32} {k a c : Nat} (h : FMt l fA fB fC) (hA : ∀ i, i < l.length → gA i = fA i) (hB : ∀ i, i < l.length → gB i = fB i) (hC : ∀ i, i < l.length → gC i = fC i) (e1 : gA l.length = nI a) (e2 : gB l.length = nI k - 30) (e3 : gC l.length = -(nI c)) : FMt (l ++ [(k, a, c)]) gA gB gC := by
  intro i k' a' c' hi
  have hlt := gt_of hi
  rw [List.length_append] at hlt
  simp only [List.length_cons, List.length_nil] at hlt
  by_cases q : i < l.length
  · rw [List.getElem?_append_left q] at hi
    rw [hA i q, hB i q, hC i q]
    exact h i k' a' c' hi
  · have : i = l.length := by omega
    subst this
    rw [List.getElem?_append_right (Nat.le_refl _), Nat.sub_self] at hi
    cases hi
    exact ⟨e1, e2, e3⟩
/-- the class's rows hold the forms of a list, and no cycles -/
def CB (l : List (Nat × Nat × Nat)) (fo : Nat → Nat → Int32) : Prop := FMt l (fo 0) (fo 1) (fo 2) ∧ ∀ i, i < l.length → fo 3 i = -2000000001
theorem u2_ne {f : Nat → Nat → Int32} {j i : Nat} {v : Int32} {w : Nat} (h : ¬ w = j) : upd2 f j i v w = f w := by
  unfold upd2
  rw [if_neg h]
theorem u2_at {f : Nat → Nat → Int32} {j i : Nat} {v : Int32} : upd2 f j i v j = upd (f j) i v := by
  unfold upd2
  rw [if_pos rfl]
theorem w_addForm {l : List (Nat × Nat × Nat)} {fo : Nat → Nat → Int32} {k a c : Nat} (h : CB l fo) (hl : l.length < 320) : ∃ fo', P2_addForm (nI l.length) fo (nI a) (nI k - 30) (-(nI c)) = some (nI (l ++ [(k, a, c)]).length, fo') ∧ CB (l ++ [(k, a, c)]) fo' := by
  unfold P2_addForm
  rw [if_pos (show nI l.length < (320 : Int32) from nI_lt (b := 320) hl (by omega)), nI_1]
  rw [show P2_setForm (nI (l.length + 1)) fo (nI l.length) 0 (nI a) = _ from setF (w := 0) (by omega) (by omega) (by omega), ob, show ∀ f v, P2_setForm (nI (l.length + 1)) f (nI l.length) 1 v = _ from fun f v => setF (w := 1) (by omega) (by omega) (by omega), ob, show ∀ f v, P2_setForm (nI (l.length + 1)) f (nI l.length) 2 v = _ from fun f v => setF (w := 2) (by omega) (by omega) (by omega), ob, show ∀ f v, P2_setForm (nI (l.length + 1)) f (nI l.length) 3 v = _ from fun f v => setF (w := 3) (by omega) (by omega) (by omega), ob]
  refine ⟨_, by rw [List.length_append]; rfl, ?_, fun i hi => ?_⟩
  · rw [u2_ne (w := 0) (by omega), u2_ne (w := 0) (by omega), u2_ne (w := 0) (by omega), u2_at, u2_ne (w := 1) (by omega), u2_ne (w := 1) (by omega), u2_at, u2_ne (w := 1) (by omega), u2_ne (w := 2) (by omega), u2_at, u2_ne (w := 2) (by omega), u2_ne (w := 2) (by omega)]
    exact FMt_push h.1 (fun i hi => pk_un (by omega)) (fun i hi => pk_un (by omega)) (fun i hi => pk_un (by omega)) pk_us pk_us pk_us
  · rw [List.length_append] at hi
    simp only [List.length_cons, List.length_nil] at hi
    rw [u2_at, u2_ne (w := 3) (by omega), u2_ne (w := 3) (by omega), u2_ne (w := 3) (by omega)]
    by_cases q : i = l.length
    · rw [q, pk_us]
    · rw [pk_un q]
      exact h.2 i (by omega)
theorem w_row_loop {k p : Nat} (hk : k ≤ 60) (hp : p ≤ 1000) : ∀ (j a f : Nat) (l : List (Nat × Nat × Nat)) (fo : Nat → Nat → Int32), a + j = p + 1 → 1 ≤ a → j < f → CB l fo → (l ++ rowL k p a j).length ≤ 320 → ∃ fo', P2_addForms_2 (nI k - 30) (nI p) f (nI l.length) fo (nI a) = some (nI (l ++ rowL k p a j).length, fo') ∧ CB (l ++ rowL k p a j) fo'
  | 0, a, f, l, fo, ha, h1, hf, h, hl => by
    obtain ⟨f, rfl⟩ : ∃ w, f = w + 1 := ⟨f - 1, by omega⟩
    rw [rowL_0, List.append_nil]
    exact ⟨fo, by rw [P2_addForms_2, if_pos (nI_lt (by omega) (by omega))], h⟩
  | j + 1, a, f, l, fo, ha, h1, hf, h, hl => by
    obtain ⟨f, rfl⟩ : ∃ w, f = w + 1 := ⟨f - 1, by omega⟩
    have h0 : ¬ nI a = 0 := nI_ne0 (by omega) (by omega)
    rw [rowL_s] at hl ⊢
    rw [P2_addForms_2, if_neg (show ¬ nI p < nI a from fun q => by have := (nI_ltI (by omega) (by omega)).mp q; omega), if_pos h0, n_rem (by omega) (by omega) (by omega), nI_1]
    by_cases c1 : p % a = 0
    · obtain ⟨r, g1, r', g2, g3⟩ := w_grade hk h1 (show a ≤ 1000 by omega) hp
      rw [if_pos (show nI (p % a) = 0 by rw [c1]; rfl), g1, ob, if_pos h0, n_div (by omega) (by omega), g2, ob]
      by_cases c2 : Nat.gcd (Nat.gcd a (df k)) (p / a) = 1
      · rw [if_pos (show p % a = 0 ∧ Nat.gcd (Nat.gcd a (df k)) (p / a) = 1 from ⟨c1, c2⟩)] at hl ⊢
        rw [if_pos (g3.mpr c2), if_pos h0]
        have hl2 : l.length < 320 := by
          rw [List.length_append, List.length_cons] at hl
          omega
        obtain ⟨fo', q1, q2⟩ := w_addForm (k := k) (a := a) (c := p / a) h hl2
        rw [q1, ob]
        have := w_row_loop hk hp j (a + 1) f (l ++ [(k, a, p / a)]) fo' (by omega) (by omega) (by omega) q2 (by rw [List.append_assoc]; exact hl)
        rw [List.append_assoc] at this
        exact this
      · rw [if_neg (show ¬ (p % a = 0 ∧ Nat.gcd (Nat.gcd a (df k)) (p / a) = 1) from fun q => c2 q.2)] at hl ⊢
        rw [if_neg (fun q => c2 (g3.mp q))]
        exact w_row_loop hk hp j (a + 1) f l fo (by omega) (by omega) (by omega) h hl
    · rw [if_neg (show ¬ (p % a = 0 ∧ Nat.gcd (Nat.gcd a (df k)) (p / a) = 1) from fun q => c1 q.1)] at hl ⊢
      rw [if_neg (show ¬ nI (p % a) = 0 from fun q => c1 ((nI_eq (b := 0) (by have := Nat.mod_lt p h1; omega) (by omega)).mp q))]
      exact w_row_loop hk hp j (a + 1) f l fo (by omega) (by omega) (by omega) h hl
theorem m_row_loop {k p : Nat} (hk : k ≤ 60) (hp : p ≤ 1000) : ∀ (j a f : Nat) (l : List (Nat × Nat × Nat)) (fA fB fC : Nat → Int32), a + j = p + 1 → 1 ≤ a → j < f → FMt l fA fB fC → (l ++ rowL k p a j).length ≤ 320 → ∃ gA gB gC, P5_layMiddle_11 (nI k - 30) (nI (4 * p)) f (nI l.length) fA fB fC (nI a) = some (nI (l ++ rowL k p a j).length, gA, gB, gC) ∧ FMt (l ++ rowL k p a j) gA gB gC
  | 0, a, f, l, fA, fB, fC, ha, h1, hf, h, hl => by
    obtain ⟨f, rfl⟩ : ∃ w, f = w + 1 := ⟨f - 1, by omega⟩
    rw [rowL_0, List.append_nil]
    exact ⟨fA, fB, fC, by rw [P5_layMiddle_11, show (4 : Int32) = nI 4 from rfl, pk_mul, if_pos (nI_lt (by omega) (by omega))], h⟩
  | j + 1, a, f, l, fA, fB, fC, ha, h1, hf, h, hl => by
    obtain ⟨f, rfl⟩ : ∃ w, f = w + 1 := ⟨f - 1, by omega⟩
    have h0 : ¬ nI (4 * a) = 0 := nI_ne0 (by omega) (by omega)
    rw [rowL_s] at hl ⊢
    rw [P5_layMiddle_11, show (4 : Int32) = nI 4 from rfl, pk_mul, if_neg (show ¬ nI (4 * p) < nI (4 * a) from fun q => by have := (nI_ltI (by omega) (by omega)).mp q; omega), if_pos h0, n_rem (by omega) (by omega) (by omega), nI_1, Nat.mul_mod_mul_left, n_div (by omega) (by omega), n_ndiv (by omega) (by omega), Nat.mul_div_mul_left _ _ (by omega)]
    by_cases c1 : p % a = 0
    · obtain ⟨r, g1, r', g2, g3⟩ := m_grade hk h1 (show a ≤ 1000 by omega) hp
      rw [if_pos (show nI (4 * (p % a)) = 0 by rw [c1]; rfl), g1, ob, if_pos h0, g2, ob]
      by_cases c2 : Nat.gcd (Nat.gcd a (df k)) (p / a) = 1
      · rw [if_pos (show p % a = 0 ∧ Nat.gcd (Nat.gcd a (df k)) (p / a) = 1 from ⟨c1, c2⟩)] at hl ⊢
        have hl2 : l.length < 320 := by
          rw [List.length_append, List.length_cons] at hl
          omega
        have hv : vx (nI l.length) 1200 := n_in (by omega) (by omega)
        rw [if_pos (g3.mpr c2), if_pos hv, if_pos hv, if_pos h0, if_pos hv, n_cl (by omega)]
        have := m_row_loop hk hp j (a + 1) f (l ++ [(k, a, p / a)]) (upd fA l.length (nI a)) (upd fB l.length (nI k - 30)) (upd fC l.length (-(nI (p / a)))) (by omega) (by omega) (by omega) (FMt_push h (fun i hi => pk_un (by omega)) (fun i hi => pk_un (by omega)) (fun i hi => pk_un (by omega)) pk_us pk_us pk_us) (by rw [List.append_assoc]; exact hl)
        rw [List.append_assoc, List.length_append (as := l)] at this
        rw [nI_1]
        exact this
      · rw [if_neg (show ¬ (p % a = 0 ∧ Nat.gcd (Nat.gcd a (df k)) (p / a) = 1) from fun q => c2 q.2)] at hl ⊢
        rw [if_neg (fun q => c2 (g3.mp q))]
        rw [nI_1]
        exact m_row_loop hk hp j (a + 1) f l fA fB fC (by omega) (by omega) (by omega) h hl
    · rw [if_neg (show ¬ (p % a = 0 ∧ Nat.gcd (Nat.gcd a (df k)) (p / a) = 1) from fun q => c1 q.1)] at hl ⊢
      rw [if_neg (show ¬ nI (4 * (p % a)) = 0 from fun q => c1 (by have := (nI_eq (b := 0) (by have := Nat.mod_lt p h1; omega) (by omega)).mp q; omega))]
      rw [nI_1]
      exact m_row_loop hk hp j (a + 1) f l fA fB fC (by omega) (by omega) (by omega) h hl
