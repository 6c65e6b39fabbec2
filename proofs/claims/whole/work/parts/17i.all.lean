-- ALL ROWS
theorem sq_kb : ∀ k, k < 61 → (nI k - 30) * (nI k - 30) = nI (df k * df k) ∧ df k ≤ 30 := by decide +kernel
theorem n_kb1 (k : Nat) : nI k - 30 + 1 = nI (k + 1) - 30 := by
  rw [← nI_1]
  grind
theorem not30 {k : Nat} (h : k < 61) : ¬ (30 : Int32) < nI k - 30 := fun q => by
  have := Int32.lt_iff_toInt_lt.mp q
  rw [i_kb (by omega), show (30 : Int32).toInt = 30 from rfl] at this
  omega
theorem df_le {k : Nat} (h : k < 61) : df k * df k ≤ 900 := Nat.mul_le_mul (sq_kb k h).2 (sq_kb k h).2
theorem rest_le {d k : Nat} (hd : d ≤ 900) (h : k < 61) : (nI d - nI (df k * df k) ≤ 0) ↔ ¬ df k * df k < d := by
  have := df_le h
  rw [Int32.le_iff_toInt_le, pk_sub_toInt (by omega) (by omega), show (0 : Int32).toInt = 0 from rfl]
  omega
theorem w_all_loop {d : Nat} (hd : d ≤ 900) : ∀ (j k f : Nat) (l : List (Nat × Nat × Nat)) (fo : Nat → Nat → Int32), k + j = 61 → j < f → CB l fo → (l ++ allL d k j).length ≤ 320 → ∃ fo', P2_become_18 (nI d) f (nI l.length) fo (nI k - 30) = some (nI (l ++ allL d k j).length, fo') ∧ CB (l ++ allL d k j) fo'
  | 0, k, f, l, fo, hk, hf, h, hl => by
    obtain ⟨f, rfl⟩ : ∃ w, f = w + 1 := ⟨f - 1, by omega⟩
    obtain rfl : k = 61 := by omega
    rw [allL_0, List.append_nil]
    exact ⟨fo, by rw [P2_become_18, if_pos (by decide)], h⟩
  | j + 1, k, f, l, fo, hk, hf, h, hl => by
    obtain ⟨f, rfl⟩ : ∃ w, f = w + 1 := ⟨f - 1, by omega⟩
    have hle := df_le (show k < 61 by omega)
    rw [allL_s] at hl ⊢
    rw [P2_become_18, if_neg (not30 (by omega)), (sq_kb k (by omega)).1, n_kb1]
    by_cases c1 : df k * df k < d
    · rw [if_neg (fun q => (rest_le hd (by omega)).mp q c1), n_sub (by omega), show (4 : Int32) = nI 4 from rfl, n_rem (by omega) (by omega) (by omega), n_div (by omega) (by omega)]
      by_cases c2 : (d - df k * df k) % 4 = 0
      · rw [if_pos (show df k * df k < d ∧ (d - df k * df k) % 4 = 0 from ⟨c1, c2⟩)] at hl ⊢
        rw [if_pos (show nI ((d - df k * df k) % 4) = 0 by rw [c2]; rfl)]
        have hl2 : (l ++ rowL k ((d - df k * df k) / 4) 1 ((d - df k * df k) / 4)).length ≤ 320 := by
          rw [List.length_append] at hl ⊢
          rw [List.length_append] at hl
          omega
        obtain ⟨fo', q1, q2⟩ := w_row_loop (show k ≤ 60 by omega) (show (d - df k * df k) / 4 ≤ 1000 by omega) ((d - df k * df k) / 4) 1 FU l fo (by omega) (by omega) (by unfold FU; omega) h hl2
        unfold P2_addForms
        rw [show P2_addForms_2 (nI k - 30) (nI ((d - df k * df k) / 4)) FU (nI l.length) fo 1 = _ from q1, ob, ob]
        have := w_all_loop hd j (k + 1) f _ fo' (by omega) (by omega) q2 (by rw [List.append_assoc]; exact hl)
        rw [List.append_assoc] at this
        exact this
      · rw [if_neg (show ¬ (df k * df k < d ∧ (d - df k * df k) % 4 = 0) from fun q => c2 q.2), List.nil_append] at hl ⊢
        rw [if_neg (nI_ne0 (by omega) (by omega))]
        exact w_all_loop hd j (k + 1) f l fo (by omega) (by omega) h hl
    · rw [if_neg (show ¬ (df k * df k < d ∧ (d - df k * df k) % 4 = 0) from fun q => c1 q.1), List.nil_append] at hl ⊢
      rw [if_pos ((rest_le hd (by omega)).mpr c1)]
      exact w_all_loop hd j (k + 1) f l fo (by omega) (by omega) h hl
theorem m_all_loop {d : Nat} (hd : d ≤ 900) : ∀ (j k f : Nat) (l : List (Nat × Nat × Nat)) (fA fB fC : Nat → Int32), k + j = 61 → j < f → FMt l fA fB fC → (l ++ allL d k j).length ≤ 320 → ∃ gA gB gC, P5_river_41 (nI d) (nI d) f (nI l.length) fA fB fC (nI k - 30) = some (nI (l ++ allL d k j).length, gA, gB, gC) ∧ FMt (l ++ allL d k j) gA gB gC
  | 0, k, f, l, fA, fB, fC, hk, hf, h, hl => by
    obtain ⟨f, rfl⟩ : ∃ w, f = w + 1 := ⟨f - 1, by omega⟩
    obtain rfl : k = 61 := by omega
    rw [allL_0, List.append_nil]
    exact ⟨fA, fB, fC, by rw [P5_river_41, if_pos (by decide)], h⟩
  | j + 1, k, f, l, fA, fB, fC, hk, hf, h, hl => by
    obtain ⟨f, rfl⟩ : ∃ w, f = w + 1 := ⟨f - 1, by omega⟩
    have hle := df_le (show k < 61 by omega)
    rw [allL_s] at hl ⊢
    rw [P5_river_41, if_neg (not30 (by omega)), (sq_kb k (by omega)).1, n_kb1]
    by_cases c1 : df k * df k < d
    · rw [if_neg (nI_ge (by omega) (by omega)), n_sub (by omega), show (4 : Int32) = nI 4 from rfl, n_rem (by omega) (by omega) (by omega)]
      by_cases c2 : (d - df k * df k) % 4 = 0
      · rw [if_pos (show df k * df k < d ∧ (d - df k * df k) % 4 = 0 from ⟨c1, c2⟩)] at hl ⊢
        rw [if_pos (show nI ((d - df k * df k) % 4) = 0 by rw [c2]; rfl)]
        have hl2 : (l ++ rowL k ((d - df k * df k) / 4) 1 ((d - df k * df k) / 4)).length ≤ 320 := by
          rw [List.length_append] at hl ⊢
          rw [List.length_append] at hl
          omega
        obtain ⟨gA, gB, gC, q1, q2⟩ := m_row_loop (show k ≤ 60 by omega) (show (d - df k * df k) / 4 ≤ 1000 by omega) ((d - df k * df k) / 4) 1 FU l fA fB fC (by omega) (by omega) (by unfold FU; omega) h hl2
        unfold P5_layMiddle
        rw [(sq_kb k (by omega)).1, n_sub (by omega)]
        rw [show 4 * ((d - df k * df k) / 4) = d - df k * df k by omega] at q1
        rw [show P5_layMiddle_11 (nI k - 30) (nI (d - df k * df k)) FU (nI l.length) fA fB fC 1 = _ from q1, ob, ob]
        have := m_all_loop hd j (k + 1) f _ gA gB gC (by omega) (by omega) q2 (by rw [List.append_assoc]; exact hl)
        rw [List.append_assoc] at this
        exact this
      · rw [if_neg (show ¬ (df k * df k < d ∧ (d - df k * df k) % 4 = 0) from fun q => c2 q.2), List.nil_append] at hl ⊢
        rw [if_neg (nI_ne0 (by omega) (by omega))]
        exact m_all_loop hd j (k + 1) f l fA fB fC (by omega) (by omega) h hl
    · rw [if_neg (show ¬ (df k * df k < d ∧ (d - df k * df k) % 4 = 0) from fun q => c1 q.1), List.nil_append] at hl ⊢
      rw [if_pos (nI_le (by omega) (by omega))]
      exact m_all_loop hd j (k + 1) f l fA fB fC (by omega) (by omega) h hl
theorem sqr_iff {d : Nat} : ∀ {r : Nat}, sqr d r = false → ∀ q, 1 ≤ q → q ≤ r → ¬ q * q = d
  | 0, _, q, h1, h2 => by omega
  | r + 1, h, q, h1, h2 => by
    rw [sqr, Bool.or_eq_false_iff] at h
    by_cases e : q = r + 1
    · subst e
      exact fun w => by rw [nbeq.mpr w] at h; cases h.1
    · exact sqr_iff h.2 q h1 (by omega)
theorem sqr_of {d : Nat} : ∀ {r : Nat}, (∀ q, q ≤ r → ¬ q * q = d) → sqr d r = false
  | 0, _ => rfl
  | r + 1, h => by
    rw [sqr, sqr_of (r := r) (fun q hq => h q (by omega)), Bool.or_false, Bool.eq_false_iff]
    exact fun w => h (r + 1) (Nat.le_refl _) (nbeq.mp w)
theorem FL_facts {d : Nat} (h : VD d) : (FL d).length ≤ 320 ∧ lows (FL d) ≤ 10 ∧ 0 < (FL d).length := by
  obtain ⟨h1, h2, h3, h4⟩ := h
  have hg := good_all h1 h2
  unfold goodD at hg
  rw [sqr_of h4, show Nat.blt 1 (d % 4) = false from Bool.eq_false_iff.mpr (fun q => by have := Nat.ble_eq.mp q; omega), Bool.false_or, Bool.false_or] at hg
  unfold tell at hg
  rw [Bool.and_eq_true] at hg
  obtain ⟨x, hx⟩ := ok_first ⟨h1, h2, h3, h4⟩
  have hm := List.length_pos_of_mem (mem_FL.mpr hx)
  exact ⟨Nat.ble_eq.mp hg.1, Nat.ble_eq.mp hg.2, hm⟩
theorem FL_small {d : Nat} (h : VD d) : SmL (FL d) := by
  refine ⟨sorted_FL d, (FL_facts h).1, fun i k a c hi => ?_⟩
  have hk := mem_FL.mp (List.mem_of_getElem? hi)
  obtain ⟨h1, h2, h3, h4, h5⟩ := hk
  simp only at h1 h2 h3 h4
  have := h.2.1
  have p1 := Nat.le_mul_of_pos_right a (show 0 < c by omega)
  have p2 := Nat.le_mul_of_pos_left c (show 0 < a by omega)
  exact ⟨h1, by omega, by omega⟩
