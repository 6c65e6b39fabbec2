-- FORMS BY THEIR NUMBERS
noncomputable def fx (d i : Nat) : Nat × Nat × Nat := ((FL d)[i]?).getD (0, 0, 0)
noncomputable def nxI (d i : Nat) : Nat := fi (FL d) (nxt (fx d i))
noncomputable def rvI (d i : Nat) : Nat := fi (FL d) (rvF (fx d i))
noncomputable def opI (d i : Nat) : Nat := fi (FL d) (opF (fx d i))
/-- its letter is L -/
noncomputable def lfI (d i : Nat) : Bool := decide ((fx d i).2.2 + 30 < (fx d i).2.1 + (fx d i).1)
theorem fx_at {d i : Nat} (h : i < (FL d).length) : (FL d)[i]? = some (fx d i) := by
  obtain ⟨x, hx⟩ := gt_ex h
  unfold fx
  rw [hx]
  rfl
theorem fx_ok {d i : Nat} (h : i < (FL d).length) : okF d (fx d i) := mem_FL.mp (List.mem_of_getElem? (fx_at h))
theorem ok_at {d : Nat} {x : Nat × Nat × Nat} (h : okF d x) : fi (FL d) x < (FL d).length ∧ fx d (fi (FL d) x) = x := by
  have hm := fi_mem (mem_FL.mpr h)
  have hl := gt_of hm
  refine ⟨hl, ?_⟩
  have := fx_at hl
  rw [hm] at this
  exact (Option.some.inj this).symm
theorem nx_at {d i : Nat} (hd : VD d) (h : i < (FL d).length) : nxI d i < (FL d).length ∧ fx d (nxI d i) = nxt (fx d i) := ok_at (ok_nxt hd (fx_ok h))
theorem rv_at {d i : Nat} (hd : VD d) (h : i < (FL d).length) : rvI d i < (FL d).length ∧ fx d (rvI d i) = rvF (fx d i) := ok_at (ok_rv (fx_ok h) hd.2.1)
theorem op_at {d i : Nat} (hd : VD d) (h : i < (FL d).length) : opI d i < (FL d).length ∧ fx d (opI d i) = opF (fx d i) := ok_at (ok_op (fx_ok h) hd.2.1)
theorem fx_inj {d i j : Nat} (hi : i < (FL d).length) (hj : j < (FL d).length) (h : fx d i = fx d j) : i = j := by
  have h1 := fx_at hi
  have h2 := fx_at hj
  exact sorted_inj (sorted_FL d) h1 h2 (by rw [h]) (by rw [h])
theorem nx_perm {d : Nat} (hd : VD d) : Perm (FL d).length (nxI d) := by
  refine ⟨fun i hi => (nx_at hd hi).1, fun i j hi hj e => ?_⟩
  have h1 := (nx_at hd hi).2
  have h2 := (nx_at hd hj).2
  rw [e, h2] at h1
  exact fx_inj hi hj (nxt_inj hd (fx_ok hi) (fx_ok hj) h1.symm)
theorem fx_lt {d i j : Nat} (hi : i < (FL d).length) (hj : j < (FL d).length) (h : ltF (fx d i) (fx d j)) : i < j := idx_lt (sorted_FL d) (fx_at hi) (fx_at hj) h
/-- what the arrays hold of form i -/
theorem FMt_at {d i : Nat} {fA fB fC : Nat → Int32} (h : FMt (FL d) fA fB fC) (hi : i < (FL d).length) : fA i = nI (fx d i).2.1 ∧ fB i = nI (fx d i).1 - 30 ∧ fC i = -(nI (fx d i).2.2) := h i _ _ _ (fx_at hi)
theorem FMt_of {d : Nat} {fA fB fC : Nat → Int32} (h : ∀ i, i < (FL d).length → fA i = nI (fx d i).2.1 ∧ fB i = nI (fx d i).1 - 30 ∧ fC i = -(nI (fx d i).2.2)) : FMt (FL d) fA fB fC := fun i k a c hi => by
  have hl := gt_of hi
  have e := h i hl
  have e2 := fx_at hl
  rw [hi] at e2
  rw [← Option.some.inj e2] at e
  exact e
theorem fx_small {d i : Nat} (hd : VD d) (hi : i < (FL d).length) : (fx d i).1 ≤ 60 ∧ 1 ≤ (fx d i).2.1 ∧ (fx d i).2.1 ≤ 1000 ∧ 1 ≤ (fx d i).2.2 ∧ (fx d i).2.2 ≤ 1000 := by
  have h1 := (FL_small hd).2.2 i _ _ _ (fx_at hi)
  have h2 := fx_ok hi
  exact ⟨h1.1, h2.2.1, h1.2.1, h2.2.2.1, h1.2.2⟩
/-- whoever looks for a form of the list finds its number -/
theorem Fnd_at {d : Nat} (hd : VD d) {fA fB fC : Nat → Int32} (h : FMt (FL d) fA fB fC) {x : Nat × Nat × Nat} (hx : okF d x) {r : Int32} (hr : Fnd (FL d) fA fB fC (nI x.2.1) (nI x.1 - 30) (-(nI x.2.2)) r) : r = nI (fi (FL d) x) := by
  obtain ⟨h1, h2⟩ := ok_at hx
  rcases hr with ⟨i, hi, e1, e2, e3, rfl⟩ | ⟨hn, -⟩
  · have e := FMt_at h hi
    have s := fx_small hd hi
    have s2 := fx_small hd h1
    rw [h2] at s2
    have k1 : (fx d i).2.1 = x.2.1 := (nI_eq (by omega) (by omega)).mp (by rw [← e.1, e1])
    have k2 : (fx d i).1 = x.1 := by
      have q : nI (fx d i).1 - 30 = nI x.1 - 30 := by rw [← e.2.1, e2]
      have q2 := congrArg Int32.toInt q
      rw [i_kb s.1, i_kb s2.1] at q2
      omega
    rw [sorted_inj (sorted_FL d) (fx_at hi) (fi_mem (mem_FL.mpr hx)) k2 k1]
  · have e := FMt_at h h1
    rw [h2] at e
    exact absurd e (hn _ h1)
theorem Fnd_same {l : List (Nat × Nat × Nat)} {fA fB fC gA gB gC : Nat → Int32} (hl : SmL l) (h : FMt l fA fB fC) (h' : FMt l gA gB gC) {x y z r s : Int32} (hr : Fnd l fA fB fC x y z r) (hs : Fnd l gA gB gC x y z s) : r = s := by
  have same : ∀ i, i < l.length → fA i = gA i ∧ fB i = gB i ∧ fC i = gC i := fun i hi => by
    obtain ⟨⟨k, a, c⟩, e⟩ := gt_ex hi
    obtain ⟨p1, p2, p3⟩ := h _ _ _ _ e
    obtain ⟨q1, q2, q3⟩ := h' _ _ _ _ e
    rw [p1, p2, p3, q1, q2, q3]
    exact ⟨rfl, rfl, rfl⟩
  rcases hr with ⟨i, hi, a1, a2, a3, rfl⟩ | ⟨hn, rfl⟩
  · rcases hs with ⟨j, hj, b1, b2, b3, rfl⟩ | ⟨hn', -⟩
    · obtain ⟨⟨k, a, c⟩, e⟩ := gt_ex hi
      obtain ⟨⟨k', a', c'⟩, e'⟩ := gt_ex hj
      obtain ⟨p1, p2, p3⟩ := h _ _ _ _ e
      obtain ⟨q1, q2, q3⟩ := h' _ _ _ _ e'
      have s := hl.2.2 _ _ _ _ e
      have s' := hl.2.2 _ _ _ _ e'
      have k1 : a = a' := (nI_eq (by omega) (by omega)).mp (by rw [← p1, ← q1, a1, b1])
      have k2 : k = k' := by
        have q : nI k - 30 = nI k' - 30 := by rw [← p2, ← q2, a2, b2]
        have q2 := congrArg Int32.toInt q
        rw [i_kb s.1, i_kb s'.1] at q2
        omega
      rw [sorted_inj hl.1 e e' k2 k1]
    · obtain ⟨p1, p2, p3⟩ := same i hi
      exact absurd ⟨by rw [← p1]; exact a1, by rw [← p2]; exact a2, by rw [← p3]; exact a3⟩ (hn' i hi)
  · rcases hs with ⟨j, hj, b1, b2, b3, rfl⟩ | ⟨hn', rfl⟩
    · obtain ⟨p1, p2, p3⟩ := same j hj
      exact absurd ⟨by rw [p1]; exact b1, by rw [p2]; exact b2, by rw [p3]; exact b3⟩ (hn j hj)
    · rfl
