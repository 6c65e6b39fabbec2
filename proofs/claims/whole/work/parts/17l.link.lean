def b2 (b : Bool) : Int32 := if b = true then 1 else 0
theorem FM_u2 {l : List (Nat × Nat × Nat)} {f : Nat → Nat → Int32} {j i : Nat} {v : Int32} (hj : 3 ≤ j) (h : FMt l (f 0) (f 1) (f 2)) : FMt l (upd2 f j i v 0) (upd2 f j i v 1) (upd2 f j i v 2) := by
  rw [u2_ne (w := 0) (by omega), u2_ne (w := 1) (by omega), u2_ne (w := 2) (by omega)]
  exact h
theorem CL_step {d i : Nat} {fo : Nat → Nat → Int32} (h : CL d i fo) : CL d (i + 1) (upd2 (upd2 (upd2 (upd2 fo 5 i (lcI d i)) 4 i (nI (nxI d i))) 6 i (nI (rvI d i))) 7 i (nI (opI d i))) := by
  refine ⟨⟨FM_u2 (by omega) (FM_u2 (by omega) (FM_u2 (by omega) (FM_u2 (by omega) h.1.1))), fun j hj => ?_⟩, fun j hj => ?_⟩
  · rw [u2_ne (w := 3) (by omega), u2_ne (w := 3) (by omega), u2_ne (w := 3) (by omega), u2_ne (w := 3) (by omega)]
    exact h.1.2 j hj
  · rw [u2_ne (w := 4) (by omega), u2_ne (w := 4) (by omega), u2_at, u2_ne (w := 4) (by omega), u2_ne (w := 5) (by omega), u2_ne (w := 5) (by omega), u2_ne (w := 5) (by omega), u2_at, u2_ne (w := 6) (by omega), u2_at, u2_ne (w := 6) (by omega), u2_ne (w := 6) (by omega), u2_at, u2_ne (w := 7) (by omega), u2_ne (w := 7) (by omega), u2_ne (w := 7) (by omega)]
    by_cases q : j = i
    · subst q
      rw [pk_us, pk_us, pk_us, pk_us]
      exact ⟨rfl, rfl, rfl, rfl⟩
    · rw [pk_un q, pk_un q, pk_un q, pk_un q]
      exact h.2 j (by omega)
theorem w_link_loop {d : Nat} (hd : VD d) : ∀ (j i f : Nat) (fo : Nat → Nat → Int32), i + j = (FL d).length → j < f → CL d i fo → ∃ fo', P2_linkForms_2 (nI (FL d).length) f fo (nI i) = some fo' ∧ CL d (FL d).length fo'
  | 0, i, f, fo, hi, hf, h => by
    obtain ⟨f, rfl⟩ : ∃ w, f = w + 1 := ⟨f - 1, by omega⟩
    have hn := (FL_facts hd).1
    rw [show i = (FL d).length by omega] at h ⊢
    exact ⟨fo, by rw [P2_linkForms_2, if_pos (nI_le (by omega) (by omega))], h⟩
  | j + 1, i, f, fo, hi, hf, h => by
    obtain ⟨f, rfl⟩ : ∃ w, f = w + 1 := ⟨f - 1, by omega⟩
    have hn := (FL_facts hd).1
    have hlt : i < (FL d).length := by omega
    have hs := fx_small hd hlt
    obtain ⟨e0, e1, e2⟩ := FMt_at h.1.1 hlt
    have ih := w_link_loop hd j (i + 1) f _ (by omega) (by omega) (CL_step h)
    have hM := h.1.1
    have hM1 := FM_u2 (j := 5) (i := i) (v := lcI d i) (by omega) hM
    have hM2 := FM_u2 (j := 4) (i := i) (v := nI (nxI d i)) (by omega) hM1
    have hM3 := FM_u2 (j := 6) (i := i) (v := nI (rvI d i)) (by omega) hM2
    have r1 := find_of hd hM2 (ok_rv (fx_ok hlt) hd.2.1) (u := nI (fx d i).2.1) (v := -(nI (fx d i).1 - 30)) (w := -(nI (fx d i).2.2)) rfl (b_neg hs.1) rfl
    have r2 := find_of hd hM3 (ok_op (fx_ok hlt) hd.2.1) (u := -(-(nI (fx d i).2.2))) (v := -(nI (fx d i).1 - 30)) (w := -(nI (fx d i).2.1)) (n_nn _) (b_neg hs.1) rfl
    rw [P2_linkForms_2, if_neg (nI_ge hlt (by omega)), show P2_ofForm (nI (FL d).length) fo (nI i) 0 = _ from ofF (w := 0) hlt hn (by omega), ob, show P2_ofForm (nI (FL d).length) fo (nI i) 1 = _ from ofF (w := 1) hlt hn (by omega), ob, show P2_ofForm (nI (FL d).length) fo (nI i) 2 = _ from ofF (w := 2) hlt hn (by omega), ob, e0, e1, e2, nI_1]
    have S4 : ∀ g v, P2_setForm (nI (FL d).length) g (nI i) 4 v = some (upd2 g 4 i v) := fun g v => setF (w := 4) hlt hn (by omega)
    have S5 : ∀ g v, P2_setForm (nI (FL d).length) g (nI i) 5 v = some (upd2 g 5 i v) := fun g v => setF (w := 5) hlt hn (by omega)
    have S6 : ∀ g v, P2_setForm (nI (FL d).length) g (nI i) 6 v = some (upd2 g 6 i v) := fun g v => setF (w := 6) hlt hn (by omega)
    have S7 : ∀ g v, P2_setForm (nI (FL d).length) g (nI i) 7 v = some (upd2 g 7 i v) := fun g v => setF (w := 7) hlt hn (by omega)
    rcases nxt_args hd hlt with ⟨q0, q1, q2, q3, q4⟩ | ⟨q0, q1, q2, q3, q4⟩
    · have el : (76 : Int32) = lcI d i := by unfold lcI; rw [if_pos q0]
      have rn := find_of hd hM1 (ok_nxt hd (fx_ok hlt)) q2 q3 q4
      rw [if_neg q1, S5, ob, el, rn, ob, S4, ob]
      rw [show P2_find (nI (FL d).length) (upd2 (upd2 fo 5 i (lcI d i)) 4 i (nI (fi (FL d) (nxt (fx d i))))) (nI (fx d i).2.1) (-(nI (fx d i).1 - 30)) (-(nI (fx d i).2.2)) = _ from r1, ob, S6, ob]
      rw [show P2_find (nI (FL d).length) (upd2 (upd2 (upd2 fo 5 i (lcI d i)) 4 i (nI (fi (FL d) (nxt (fx d i))))) 6 i (nI (fi (FL d) (rvF (fx d i))))) (-(-(nI (fx d i).2.2))) (-(nI (fx d i).1 - 30)) (-(nI (fx d i).2.1)) = _ from r2, ob, S7, ob]
      exact ih
    · have el : (82 : Int32) = lcI d i := by unfold lcI; rw [if_neg q0]
      have rn := find_of hd hM1 (ok_nxt hd (fx_ok hlt)) q2 q3 q4
      rw [if_pos q1, S5, ob, el, rn, ob, S4, ob]
      rw [show P2_find (nI (FL d).length) (upd2 (upd2 fo 5 i (lcI d i)) 4 i (nI (fi (FL d) (nxt (fx d i))))) (nI (fx d i).2.1) (-(nI (fx d i).1 - 30)) (-(nI (fx d i).2.2)) = _ from r1, ob, S6, ob]
      rw [show P2_find (nI (FL d).length) (upd2 (upd2 (upd2 fo 5 i (lcI d i)) 4 i (nI (fi (FL d) (nxt (fx d i))))) 6 i (nI (fi (FL d) (rvF (fx d i))))) (-(-(nI (fx d i).2.2))) (-(nI (fx d i).1 - 30)) (-(nI (fx d i).2.1)) = _ from r2, ob, S7, ob]
      exact ih
