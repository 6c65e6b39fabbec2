-- THE REFERENCE'S NEXT FORMS
section
variable {d i : Nat} {fA fB fC : Nat → Int32}
theorem m_isLeft (hd : VD d) (h : FMt (FL d) fA fB fC) (hi : i < (FL d).length) : P5_isLeft fA fB fC (nI i) = some (b2 (lfI d i)) := by
  have hn := (FL_facts hd).1
  have hv : vx (nI i) 1200 := n_in (show i < 1200 by omega) (by omega)
  obtain ⟨e0, e1, e2⟩ := FMt_at h hi
  unfold P5_isLeft
  rw [if_pos hv, if_pos hv, if_pos hv, n_cl (by omega), e0, e1, e2]
  rcases nxt_args hd hi with ⟨q0, q1, -⟩ | ⟨q0, q1, -⟩
  · rw [if_neg q1, q0]
    rfl
  · rw [if_pos q1, Bool.eq_false_iff.mpr q0]
    rfl
theorem m_findNext (hd : VD d) (h : FMt (FL d) fA fB fC) (hi : i < (FL d).length) : P5_findNext (nI (FL d).length) fA fB fC (nI i) = some (nI (nxI d i)) := by
  have hn := (FL_facts hd).1
  have hv : vx (nI i) 1200 := n_in (show i < 1200 by omega) (by omega)
  obtain ⟨e0, e1, e2⟩ := FMt_at h hi
  unfold P5_findNext
  rw [if_pos hv, if_pos hv, if_pos hv, m_isLeft hd h hi, ob]
  rcases nxt_args hd hi with ⟨q0, q1, q2, q3, q4⟩ | ⟨q0, q1, q2, q3, q4⟩
  · rw [q0, if_neg (show ¬ b2 true = 0 by decide), if_pos hv, if_pos hv, if_pos hv, n_cl (by omega), e0, e1, e2, number_of hd h (ok_nxt hd (fx_ok hi)) q2 q3 q4]
    rfl
  · rw [Bool.eq_false_iff.mpr q0, if_pos (show b2 false = 0 by decide), if_pos hv, if_pos hv, if_pos hv, n_cl (by omega), e0, e1, e2, number_of hd h (ok_nxt hd (fx_ok hi)) q2 q3 q4]
    rfl
end
theorem m_link_loop {d : Nat} {fA fB fC : Nat → Int32} (hd : VD d) (h : FMt (FL d) fA fB fC) : ∀ (j i f : Nat) (nx cy : Nat → Int32), i + j = (FL d).length → j < f → (∀ t, t < i → nx t = nI (nxI d t) ∧ cy t = -2000000001) → ∃ nx' cy', P5_layCycles_2 (nI (FL d).length) fA fB fC f nx cy (nI i) = some (nx', cy') ∧ ∀ t, t < (FL d).length → nx' t = nI (nxI d t) ∧ cy' t = -2000000001
  | 0, i, f, nx, cy, hi, hf, hp => by
    obtain ⟨f, rfl⟩ : ∃ w, f = w + 1 := ⟨f - 1, by omega⟩
    have hn := (FL_facts hd).1
    exact ⟨nx, cy, by rw [P5_layCycles_2, if_pos (nI_le (by omega) (by omega))], fun t ht => hp t (by omega)⟩
  | j + 1, i, f, nx, cy, hi, hf, hp => by
    obtain ⟨f, rfl⟩ : ∃ w, f = w + 1 := ⟨f - 1, by omega⟩
    have hn := (FL_facts hd).1
    have hv : vx (nI i) 1200 := n_in (show i < 1200 by omega) (by omega)
    rw [P5_layCycles_2, if_neg (nI_ge (by omega) (by omega)), m_findNext hd h (by omega), ob, if_pos hv, if_pos hv, n_cl (by omega), nI_1]
    refine m_link_loop hd h j (i + 1) f _ _ (by omega) (by omega) (fun t ht => ?_)
    by_cases q : t = i
    · subst q
      rw [pk_us, pk_us]
      exact ⟨rfl, rfl⟩
    · rw [pk_un q, pk_un q]
      exact hp t (by omega)
