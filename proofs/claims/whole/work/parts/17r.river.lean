-- A RIVER, HERE AND THERE
def RV (d q : Nat) (first : Nat → Nat) (fo cy : Nat → Nat → Int32) (fA fB fC nx c fs : Nat → Int32) : Prop := VD d ∧ q ≤ 10 ∧ FMt (FL d) (fo 0) (fo 1) (fo 2) ∧ FMt (FL d) fA fB fC ∧ (∀ t, t < (FL d).length → fo 4 t = nI (nxI d t) ∧ fo 5 t = lcI d t ∧ fo 6 t = nI (rvI d t) ∧ fo 7 t = nI (opI d t)) ∧ (∀ t, t < (FL d).length → nx t = nI (nxI d t)) ∧ OI d (FL d).length q (fo 3) first ∧ (∀ t, t < (FL d).length → c t = fo 3 t) ∧ (∀ e, e < q → fs e = nI (first e)) ∧ ∀ e, e < q → CY d first cy e ∧ cy 3 e = fo 3 (rvI d (first e)) ∧ cy 4 e = fo 3 (opI d (first e))
theorem CB_nil (fo : Nat → Nat → Int32) : CB [] fo := ⟨fun i k a c h => by simp at h, fun i hi => by simp at hi⟩
theorem FMt_nil (fA fB fC : Nat → Int32) : FMt [] fA fB fC := fun i k a c h => by simp at h
theorem river_both {d : Nat} (hd : VD d) (fo cy : Nat → Nat → Int32) (fA fB fC nx c fs : Nat → Int32) : ∃ (q : Nat) (first : Nat → Nat) (fo' cy' : Nat → Nat → Int32) (gA gB gC nx' c' fs' : Nat → Int32), P2_become fo cy (nI d) = some (nI d, nI (FL d).length, nI q, fo', cy') ∧ P5_river_41 (nI d) (nI d) FU 0 fA fB fC (-30) = some (nI (FL d).length, gA, gB, gC) ∧ P5_layCycles (nI (FL d).length) gA gB gC nx c fs = some (nx', c', nI q, fs') ∧ RV d q first fo' cy' gA gB gC nx' c' fs' := by
  have hn := (FL_facts hd).1
  have e30 : (-30 : Int32) = nI 0 - 30 := by decide
  obtain ⟨f1, a1, a2⟩ := w_all_loop hd.2.1 61 0 FU [] fo (by omega) (by unfold FU; omega) (CB_nil fo) hn
  obtain ⟨gA, gB, gC, b1, b3⟩ := m_all_loop hd.2.1 61 0 FU [] fA fB fC (by omega) (by unfold FU; omega) (FMt_nil fA fB fC) hn
  have a2' : CB (FL d) f1 := a2
  have b3' : FMt (FL d) gA gB gC := b3
  obtain ⟨f2, c1, c2⟩ := w_link_loop hd (FL d).length 0 FU f1 (by omega) (by unfold FU; omega) ⟨a2', fun j hj => by omega⟩
  obtain ⟨nx', cn, d1, d2⟩ := m_link_loop hd b3' (FL d).length 0 FU nx c (by omega) (by unfold FU; omega) (fun t ht => by omega)
  obtain ⟨q, f3, cy1, c3, fs', first, r1, r2, r3, r4, r5, r6⟩ := cyc_loop hd (fun j hj => (d2 j hj).1) (FL d).length 0 FU FU 0 f2 cy cn fs (fun _ => 0) (by omega) (by unfold FU; omega) (by unfold FU; omega) (fun t ht => ⟨(c2.2 t ht).1, (c2.2 t ht).2.1⟩) ⟨fun j hj => by rw [c2.1.2 j hj, c2.1.2 _ ((nx_perm hd).1 j hj)], fun j hj => by omega, Nat.zero_le _, fun j hj => Or.inl (c2.1.2 j hj), fun e he => by omega⟩ (fun t ht => by rw [(d2 t ht).2, c2.1.2 t ht]) (fun e he => by omega)
  have q10 : q ≤ 10 := Nat.le_trans r4.2.2.1 (lowB_10 hd)
  have hx : ∀ t, t < (FL d).length → f3 4 t = nI (nxI d t) ∧ f3 5 t = lcI d t ∧ f3 6 t = nI (rvI d t) ∧ f3 7 t = nI (opI d t) := fun t ht => by
    rw [r3 4 (by omega), r3 5 (by omega), r3 6 (by omega), r3 7 (by omega)]
    exact c2.2 t ht
  obtain ⟨cy2, s1, s2, s3⟩ := w_linkC_loop hd (fun t ht => ⟨(hx t ht).2.2.1, (hx t ht).2.2.2⟩) q10 (fun e he => (r4.2.2.2.2 e he).1) q 0 FU cy1 (by omega) (by unfold FU; omega) (fun e he => (r6 e he).2.1) (fun e he => by omega)
  refine ⟨q, first, f3, cy2, gA, gB, gC, nx', c3, fs', ?_, ?_, ?_, hd, q10, ?_, b3', hx, fun t ht => (d2 t ht).1, r4, r5, fun e he => (r6 e he).1, fun e he => ⟨?_, s3 e he⟩⟩
  · unfold P2_become P2_linkForms P2_addCycles P2_linkCycles
    rw [e30, show P2_become_18 (nI d) FU 0 fo (nI 0 - 30) = some (nI (FL d).length, f1) from a1, ob]
    simp only []
    rw [show P2_linkForms_2 (nI (FL d).length) FU f1 0 = some f2 from c1, ob, ob, show P2_addCycles_2 (nI (FL d).length) FU 0 f2 cy 0 = _ from r1, ob, ob]
    simp only []
    rw [show P2_linkCycles_2 (nI (FL d).length) (nI q) f3 FU cy1 0 = some cy2 from s1, ob, ob]
  · rw [e30]
    exact b1
  · unfold P5_layCycles
    rw [show P5_layCycles_2 (nI (FL d).length) gA gB gC FU nx c 0 = _ from d1, ob]
    simp only []
    rw [show P5_layCycles_42 (nI (FL d).length) nx' FU cn 0 fs 0 = _ from r2, ob]
  · rw [r3 0 (by omega), r3 1 (by omega), r3 2 (by omega)]
    exact c2.1.1
  · exact CY_keep rfl (fun w hw => by rw [s2 w hw]) (r6 e he).2
