-- EACH FORM'S NEXT, LETTER, REVERSED, OPPOSITE
theorem s_L {k a c : Nat} (h : c + 30 < a + k) : nI a + (nI k - 30) + -(nI c) = nI (a + k - 30 - c) := by
  have e1 : nI (a + k - 30 - c) = nI (a + k) - nI 30 - nI c := by rw [n_sub (by omega), n_sub (by omega)]
  rw [e1, ← nI_add, show nI 30 = (30 : Int32) from rfl]
  grind
theorem b_L {k c : Nat} (h : 2 * c ≤ k) : nI k - 30 + 2 * -(nI c) = nI (k - 2 * c) - 30 := by
  rw [← n_sub h, ← pk_mul, show nI 2 = (2 : Int32) from rfl]
  grind
theorem s_R {k a c : Nat} (h : a + k < c + 30) : nI a + (nI k - 30) + -(nI c) = -(nI (c + 30 - a - k)) := by
  have e1 : nI (c + 30 - a - k) = nI (c + 30) - nI a - nI k := by rw [n_sub (by omega), n_sub (by omega)]
  rw [e1, ← nI_add, show nI 30 = (30 : Int32) from rfl]
  grind
theorem b_R (k a : Nat) : nI k - 30 + 2 * nI a = nI (k + 2 * a) - 30 := by
  rw [← nI_add, ← pk_mul, show nI 2 = (2 : Int32) from rfl]
  grind
theorem b_neg {k : Nat} (h : k ≤ 60) : -(nI k - 30) = nI (60 - k) - 30 := by
  rw [← n_sub h, show nI 60 = (60 : Int32) from rfl]
  grind
theorem n_nn (x : Int32) : -(-x) = x := by grind
theorem sum_le {k a c : Nat} (h1 : a ≤ 1000) (h2 : k ≤ 60) (h3 : c ≤ 1000) : (nI a + (nI k - 30) + -(nI c) ≤ 0) ↔ ¬ c + 30 < a + k := by
  by_cases q : c + 30 < a + k
  · rw [s_L q]
    have : ¬ nI (a + k - 30 - c) ≤ (0 : Int32) := nI_ge (a := 0) (by omega) (by omega)
    exact ⟨fun w => absurd w this, fun w => absurd q w⟩
  · refine ⟨fun _ => q, fun _ => ?_⟩
    have e : nI a + (nI k - 30) + -(nI c) = -(nI (c + 30 - a - k)) := by
      have e1 : nI (c + 30 - a - k) = nI (c + 30) - nI a - nI k := by rw [n_sub (by omega), n_sub (by omega)]
      rw [e1, ← nI_add, show nI 30 = (30 : Int32) from rfl]
      grind
    rw [e, Int32.le_iff_toInt_le, neg_toInt (ok_nI (by omega)), nI_toInt (by omega), show (0 : Int32).toInt = 0 from rfl]
    omega
/-- the code of a form's letter -/
noncomputable def lcI (d i : Nat) : Int32 := if lfI d i = true then 76 else 82
/-- the class's rows, linked up to form i -/
def CL (d i : Nat) (fo : Nat → Nat → Int32) : Prop := CB (FL d) fo ∧ ∀ j, j < i → fo 4 j = nI (nxI d j) ∧ fo 5 j = lcI d j ∧ fo 6 j = nI (rvI d j) ∧ fo 7 j = nI (opI d j)
theorem find_of {d : Nat} (hd : VD d) {fo : Nat → Nat → Int32} (h : FMt (FL d) (fo 0) (fo 1) (fo 2)) {x : Nat × Nat × Nat} (hx : okF d x) {u v w : Int32} (e1 : u = nI x.2.1) (e2 : v = nI x.1 - 30) (e3 : w = -(nI x.2.2)) : P2_find (nI (FL d).length) fo u v w = some (nI (fi (FL d) x)) := by
  obtain ⟨r, h1, h2⟩ := w_find (FL_small hd) h (FL_facts hd).2.2 u v w
  rw [e1, e2, e3] at h2
  rw [h1, Fnd_at hd h hx h2]
theorem number_of {d : Nat} (hd : VD d) {fA fB fC : Nat → Int32} (h : FMt (FL d) fA fB fC) {x : Nat × Nat × Nat} (hx : okF d x) {u v w : Int32} (e1 : u = nI x.2.1) (e2 : v = nI x.1 - 30) (e3 : w = -(nI x.2.2)) : P5_numberOf (nI (FL d).length) fA fB fC u v w = some (nI (fi (FL d) x)) := by
  obtain ⟨r, h1, h2⟩ := m_number (fA := fA) (fB := fB) (fC := fC) (FL_facts hd).1 u v w
  rw [e1, e2, e3] at h2
  rw [h1, Fnd_at hd h hx h2]
theorem nxt_args {d i : Nat} (hd : VD d) (hi : i < (FL d).length) : (lfI d i = true ∧ ¬ (nI (fx d i).2.1 + (nI (fx d i).1 - 30) + -(nI (fx d i).2.2) ≤ 0) ∧ nI (fx d i).2.1 + (nI (fx d i).1 - 30) + -(nI (fx d i).2.2) = nI (nxt (fx d i)).2.1 ∧ nI (fx d i).1 - 30 + 2 * -(nI (fx d i).2.2) = nI (nxt (fx d i)).1 - 30 ∧ -(nI (fx d i).2.2) = -(nI (nxt (fx d i)).2.2)) ∨ (¬ lfI d i = true ∧ (nI (fx d i).2.1 + (nI (fx d i).1 - 30) + -(nI (fx d i).2.2) ≤ 0) ∧ nI (fx d i).2.1 = nI (nxt (fx d i)).2.1 ∧ nI (fx d i).1 - 30 + 2 * nI (fx d i).2.1 = nI (nxt (fx d i)).1 - 30 ∧ nI (fx d i).2.1 + (nI (fx d i).1 - 30) + -(nI (fx d i).2.2) = -(nI (nxt (fx d i)).2.2)) := by
  have hs := fx_small hd hi
  have hok := fx_ok hi
  unfold lfI
  generalize fx d i = x at *
  obtain ⟨k, a, c⟩ := x
  simp only at hs
  have hsum := sum_le hs.2.2.1 hs.1 hs.2.2.2.2
  by_cases q : c + 30 < a + k
  · left
    rw [nxt_L q]
    exact ⟨decide_eq_true q, fun w => hsum.mp w q, s_L q, b_L (nxt_L_int hd.2.1 hok q), rfl⟩
  · right
    rw [nxt_R q]
    exact ⟨fun w => q (of_decide_eq_true w), hsum.mpr q, rfl, b_R k a, s_R (nxt_R_int hd hok q)⟩
