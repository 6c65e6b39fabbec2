-- simple, cycle, step, trace
section
variable {vd vr vc md mf mc : Int32} {fo cy : Nat → Nat → Int32} {fA fB fC nx c fs : Nat → Int32}
theorem c_simple (h : SimRiver vd vr vc fo cy md mf mc fA fB fC nx c fs) (x y : Int32) : ∃ a, P4_simple vr fo x y = some a ∧ P5_simple mf fA fB fC nx c x y = some a := by
  unfold P4_simple P5_simple
  rcases h with ⟨rfl, rfl, rfl, rfl, rfl⟩ | ⟨d, q, first, rfl, rfl, rfl, rfl, rfl, rfl, R⟩
  · rw [no_form, ob, if_pos rfl, no_in, ob, if_pos rfl]
    exact ⟨_, rfl, rfl⟩
  · have hd := R.1
    have hn := (FL_facts hd).1
    rcases hf (FL_facts hd).2.2 hn x with ⟨i, hi, rfl, a1, a2⟩ | ⟨a1, a2⟩
    · rw [a1, ob, if_neg (show ¬ (1 : Int32) = 0 by decide), a2, ob, if_neg (show ¬ (1 : Int32) = 0 by decide)]
      rcases wi y (m := 7) (by omega) with ⟨j, hj, rfl, hw⟩ | ⟨hw, hne⟩
      · rw [show P5_within (nI j) 0 7 = some 1 from hw, ob, if_neg (show ¬ (1 : Int32) = 0 by decide), if_neg (n_neg (by omega)), if_neg (show ¬ (8 : Int32) ≤ nI j from nI_ge (b := 8) (by omega) (by omega)), ofF hi hn (by omega), ob, m_simpleNow R hi hj, ob]
        exact ⟨_, rfl, rfl⟩
      · rw [show P5_within y 0 7 = some 0 from hw, ob, if_pos rfl]
        by_cases y0 : y < 0
        · rw [if_pos y0]
          exact ⟨_, rfl, rfl⟩
        · obtain ⟨k, hk, rfl⟩ := nn y0
          have hk2 : 8 ≤ k := Nat.le_of_not_lt (fun q => hne k (by omega) rfl)
          rw [if_neg y0, if_pos (show (8 : Int32) ≤ nI k from nI_le (a := 8) hk2 hk)]
          exact ⟨_, rfl, rfl⟩
    · rw [a1, ob, if_pos rfl, a2, ob, if_pos rfl]
      exact ⟨_, rfl, rfl⟩
theorem m_cycleNow {d q : Nat} {first : Nat → Nat} (R : RV d q first fo cy fA fB fC nx c fs) {e j : Nat} (he : e < q) (hj : j ≤ 4) : P5_cycleNow (nI (FL d).length) fA fB fC nx c fs (nI e) (nI j) = some (cy j e) := by
  obtain ⟨f1, f2, l, hl, hln, c0, c1, z1, z2⟩ := cyc_at R he
  have hd := R.1
  have hn := (FL_facts hd).1
  have hv : vx (nI e) 1200 := n_in (show e < 1200 by have := R.2.1; omega) (by omega)
  have h2 := (rv_at hd f1).1
  have h3 := (op_at hd f1).1
  obtain ⟨-, -, x6, x7⟩ := R.2.2.2.2.1 _ f1
  have hc := R.2.2.2.2.2.2.2.1
  obtain ⟨-, k3, k4⟩ := R.2.2.2.2.2.2.2.2.2 e he
  have s6 := m_simpleNow R f1 (j := 6) (by omega)
  have s7 := m_simpleNow R f1 (j := 7) (by omega)
  unfold P5_cycleNow
  rw [if_pos hv, n_cl (show e < 2 ^ 31 by have := R.2.1; omega), f2]
  rcases (show j = 0 ∨ j = 1 ∨ j = 2 ∨ j = 3 ∨ j = 4 by omega) with rfl | rfl | rfl | rfl | rfl
  · rw [if_pos (by decide), c0]
  · rw [if_neg (by decide), if_pos (by decide), z1, ob, c1]
  · rw [if_neg (by decide), if_neg (by decide), if_pos (by decide), z2, ob]
  · rw [if_neg (by decide), if_neg (by decide), if_neg (by decide), if_pos (by decide), show P5_simpleNow (nI (FL d).length) fA fB fC nx c (nI (first e)) 6 = _ from s6, ob, x6, if_pos (show vx (nI (rvI d (first e))) 1200 from n_in (by omega) (by omega)), n_cl (by omega), hc _ h2, k3]
  · rw [if_neg (by decide), if_neg (by decide), if_neg (by decide), if_neg (by decide), show P5_simpleNow (nI (FL d).length) fA fB fC nx c (nI (first e)) 7 = _ from s7, ob, x7, if_pos (show vx (nI (opI d (first e))) 1200 from n_in (by omega) (by omega)), n_cl (by omega), hc _ h3, k4]
theorem c_cycle (h : SimRiver vd vr vc fo cy md mf mc fA fB fC nx c fs) (x y : Int32) : ∃ a, P4_cycle vc cy x y = some a ∧ P5_cycle mf fA fB fC nx c mc fs x y = some a := by
  unfold P4_cycle P5_cycle
  rcases h with ⟨rfl, rfl, rfl, rfl, rfl⟩ | ⟨d, q, first, rfl, rfl, rfl, rfl, rfl, rfl, R⟩
  · rw [no_cycle, ob, if_pos rfl, no_isCycle, ob, if_pos rfl]
    exact ⟨_, rfl, rfl⟩
  · rcases hy (RV_q R) R.2.1 x with ⟨e, he, rfl, a1, a2⟩ | ⟨a1, a2⟩
    · rw [a1, ob, if_neg (show ¬ (1 : Int32) = 0 by decide), a2, ob, if_neg (show ¬ (1 : Int32) = 0 by decide)]
      rcases wi y (m := 4) (by omega) with ⟨j, hj, rfl, hw⟩ | ⟨hw, hne⟩
      · rw [show P5_within (nI j) 0 4 = some 1 from hw, ob, if_neg (show ¬ (1 : Int32) = 0 by decide), if_neg (n_neg (by omega)), if_neg (show ¬ (5 : Int32) ≤ nI j from nI_ge (b := 5) (by omega) (by omega)), ofC he R.2.1 (by omega), ob, m_cycleNow R he hj, ob]
        exact ⟨_, rfl, rfl⟩
      · rw [show P5_within y 0 4 = some 0 from hw, ob, if_pos rfl]
        by_cases y0 : y < 0
        · rw [if_pos y0]
          exact ⟨_, rfl, rfl⟩
        · obtain ⟨k, hk, rfl⟩ := nn y0
          have hk2 : 5 ≤ k := Nat.le_of_not_lt (fun q => hne k (by omega) rfl)
          rw [if_neg y0, if_pos (show (5 : Int32) ≤ nI k from nI_le (a := 5) hk2 hk)]
          exact ⟨_, rfl, rfl⟩
    · rw [a1, ob, if_pos rfl, a2, ob, if_pos rfl]
      exact ⟨_, rfl, rfl⟩
section
variable {d q : Nat} {first : Nat → Nat}
theorem w_at_loop (R : RV d q first fo cy fA fB fC nx c fs) {s p : Nat} (hs : s < (FL d).length) (hp : p < 2 ^ 31) : ∀ (j t f : Nat), t + j = p → j < f → P2_letterAt_10 (nI (FL d).length) fo (nI p) f (nI (it (nxI d) t s)) (nI t) = some (nI (it (nxI d) p s))
  | 0, t, f, ht, hf => by
    obtain ⟨f, rfl⟩ : ∃ w, f = w + 1 := ⟨f - 1, by omega⟩
    rw [P2_letterAt_10, if_pos (nI_le (by omega) (by omega)), show t = p by omega]
  | j + 1, t, f, ht, hf => by
    obtain ⟨f, rfl⟩ : ∃ w, f = w + 1 := ⟨f - 1, by omega⟩
    have hi := it_lt (nx_perm R.1) hs t
    have hn := (FL_facts R.1).1
    rw [P2_letterAt_10, if_neg (nI_ge (show t < p by omega) (by omega)), show P2_ofForm (nI (FL d).length) fo (nI (it (nxI d) t s)) 4 = _ from ofF (w := 4) hi hn (by omega), ob, (R.2.2.2.2.1 _ hi).1, nI_1]
    exact w_at_loop R hs hp j (t + 1) f (by omega) (by omega)
theorem m_at_loop (R : RV d q first fo cy fA fB fC nx c fs) {s p : Nat} (hs : s < (FL d).length) (hp : p < 2 ^ 31) : ∀ (j t f : Nat), t + j = p → j < f → P5_formAt_10 nx (nI p) f (nI (it (nxI d) t s)) (nI t) = some (nI (it (nxI d) p s))
  | 0, t, f, ht, hf => by
    obtain ⟨f, rfl⟩ : ∃ w, f = w + 1 := ⟨f - 1, by omega⟩
    rw [P5_formAt_10, if_pos (nI_le (by omega) (by omega)), show t = p by omega]
  | j + 1, t, f, ht, hf => by
    obtain ⟨f, rfl⟩ : ∃ w, f = w + 1 := ⟨f - 1, by omega⟩
    have hi := it_lt (nx_perm R.1) hs t
    have hn := (FL_facts R.1).1
    rw [P5_formAt_10, if_neg (nI_ge (show t < p by omega) (by omega)), if_pos (show vx (nI (it (nxI d) t s)) 1200 from n_in (by omega) (by omega)), n_cl (by omega), R.2.2.2.2.2.1 _ hi, nI_1]
    exact m_at_loop R hs hp j (t + 1) f (by omega) (by omega)
theorem m_formAt (R : RV d q first fo cy fA fB fC nx c fs) {e p : Nat} (he : e < q) (hp : p ≤ 320) : P5_formAt nx fs (nI e) (nI p) = some (nI (it (nxI d) p (first e))) := by
  obtain ⟨f1, f2, -⟩ := cyc_at R he
  have h10 := R.2.1
  unfold P5_formAt
  rw [if_pos (show vx (nI e) 1200 from n_in (by omega) (by omega)), n_cl (by omega), f2, show P5_formAt_10 nx (nI p) FU (nI (first e)) 0 = _ from m_at_loop R f1 (by omega) p 0 FU (by omega) (by unfold FU; omega), ob]
theorem m_letter (R : RV d q first fo cy fA fB fC nx c fs) {i : Nat} (hi : i < (FL d).length) : (lfI d i = true ∧ P5_isLeft fA fB fC (nI i) = some 1 ∧ fo 5 i = 76) ∨ (lfI d i = false ∧ P5_isLeft fA fB fC (nI i) = some 0 ∧ fo 5 i = 82) := by
  rw [m_isLeft R.1 R.2.2.2.1 hi, (R.2.2.2.2.1 i hi).2.1]
  unfold lcI
  cases lfI d i
  · exact Or.inr ⟨rfl, rfl, rfl⟩
  · exact Or.inl ⟨rfl, rfl, rfl⟩
end
theorem c_step (h : SimRiver vd vr vc fo cy md mf mc fA fB fC nx c fs) (x y : Int32) : ∃ a, P4_step vr vc fo cy x y = some a ∧ P5_step mf fA fB fC nx c mc fs x y = some a := by
  unfold P4_step P5_step
  rcases h with ⟨rfl, rfl, rfl, rfl, rfl⟩ | ⟨d, q, first, rfl, rfl, rfl, rfl, rfl, rfl, R⟩
  · rw [no_cycle, ob, if_pos rfl, no_isCycle, ob, if_pos rfl]
    exact ⟨_, rfl, rfl⟩
  · rcases hy (RV_q R) R.2.1 x with ⟨e, he, rfl, a1, a2⟩ | ⟨a1, a2⟩
    · obtain ⟨f1, f2, l, hl, hln, c0, c1, z1, z2⟩ := cyc_at R he
      have hn := (FL_facts R.1).1
      have l1 := hl.1
      rw [a1, ob, if_neg (show ¬ (1 : Int32) = 0 by decide), a2, ob, if_neg (show ¬ (1 : Int32) = 0 by decide), z1, ob, show nI l - 1 = nI (l - 1) from n_sub (b := 1) l1, show P2_ofCycle (nI q) cy (nI e) 1 = _ from ofC (w := 1) he R.2.1 (by omega), c1]
      rcases wi y (m := l - 1) (by omega) with ⟨j, hj, rfl, hw⟩ | ⟨hw, hne⟩
      · have hi := it_lt (nx_perm R.1) f1 j
        unfold P2_letterAt
        rw [hw, ob, ob, if_neg (show ¬ (1 : Int32) = 0 by decide), if_neg (n_neg (by omega)), if_pos (nI_lt (show j < l by omega) (by omega)), show P2_ofCycle (nI q) cy (nI e) 0 = _ from ofC (w := 0) he R.2.1 (by omega), ob, c0, show P2_letterAt_10 (nI (FL d).length) fo (nI j) FU (nI (first e)) 0 = _ from w_at_loop R f1 (by omega) j 0 FU (by omega) (by unfold FU; omega), ob, show P2_ofForm (nI (FL d).length) fo (nI (it (nxI d) j (first e))) 5 = _ from ofF (w := 5) hi hn (by omega), ob, ob, m_formAt R he (by omega), ob]
        rcases m_letter R hi with ⟨-, g1, g2⟩ | ⟨-, g1, g2⟩
        · rw [g1, g2]
          exact ⟨_, rfl, rfl⟩
        · rw [g1, g2]
          exact ⟨_, rfl, rfl⟩
      · rw [hw, ob, ob, if_pos rfl]
        by_cases y0 : y < 0
        · rw [if_pos y0]
          exact ⟨_, rfl, rfl⟩
        · obtain ⟨k, hk, rfl⟩ := nn y0
          have hk2 : l ≤ k := Nat.le_of_not_lt (fun q => hne k (by omega) rfl)
          rw [if_neg y0, if_neg (show ¬ nI k < nI l from fun w => by have := (nI_ltI hk (by omega)).mp w; omega)]
          exact ⟨_, rfl, rfl⟩
    · rw [a1, ob, if_pos rfl, a2, ob, if_pos rfl]
      exact ⟨_, rfl, rfl⟩
theorem trace_step {d q : Nat} {first : Nat → Nat} (R : RV d q first fo cy fA fB fC nx c fs) {e l t : Nat} {m : Int32} (hm : ¬ m = 0) (he : e < q) (hl2 : l ≤ 320) (ht : t < l) (f g : Nat) (x1 x2 x3 x4 : Int32) : ∃ y1 y2 y3 y4, P2_traceRemainder_37 (nI (FL d).length) fo m (nI l) (f + 1) (nI (it (nxI d) t (first e))) x1 x2 x3 x4 (nI t) = P2_traceRemainder_37 (nI (FL d).length) fo m (nI l) f (nI (nxI d (it (nxI d) t (first e)))) y1 y2 y3 y4 (nI (t + 1)) ∧ P5_traceOf_19 fA fB fC nx fs (nI e) m (g + 1) x1 x2 x3 x4 (nI (it (nxI d) t (first e))) = if nI (nxI d (it (nxI d) t (first e))) = nI (first e) then some (y1, y4) else P5_traceOf_19 fA fB fC nx fs (nI e) m g y1 y2 y3 y4 (nI (nxI d (it (nxI d) t (first e)))) := by
  obtain ⟨f1, f2, -⟩ := cyc_at R he
  have h10 := R.2.1
  have hn := (FL_facts R.1).1
  have hi := it_lt (nx_perm R.1) f1 t
  have hv : vx (nI (it (nxI d) t (first e))) 1200 := n_in (show it (nxI d) t (first e) < 1200 by omega) (by omega)
  have hv2 : vx (nI e) 1200 := n_in (show e < 1200 by omega) (by omega)
  have e5 : P2_ofForm (nI (FL d).length) fo (nI (it (nxI d) t (first e))) 5 = some (fo 5 (it (nxI d) t (first e))) := ofF (w := 5) hi hn (by omega)
  have e4 : P2_ofForm (nI (FL d).length) fo (nI (it (nxI d) t (first e))) 4 = some (fo 4 (it (nxI d) t (first e))) := ofF (w := 4) hi hn (by omega)
  rw [(R.2.2.2.2.1 _ hi).1] at e4
  rcases m_letter R hi with ⟨-, g1, g2⟩ | ⟨-, g1, g2⟩
  · refine ⟨jrem (x1 + x2) m, x2, jrem (x3 + x4) m, x4, ?_, ?_⟩
    · rw [P2_traceRemainder_37, if_neg (nI_ge ht (by omega)), e5, ob, g2, if_neg (by decide), if_pos hm, if_pos hm, e4, ob, nI_1]
    · rw [P5_traceOf_19, g1, ob, if_neg (show ¬ (1 : Int32) = 0 by decide), if_pos hm, if_pos hm, if_pos hv, if_pos hv2, n_cl (show it (nxI d) t (first e) < 2 ^ 31 by omega), n_cl (show e < 2 ^ 31 by omega), R.2.2.2.2.2.1 _ hi, f2]
  · refine ⟨x1, jrem (x1 + x2) m, x3, jrem (x3 + x4) m, ?_, ?_⟩
    · rw [P2_traceRemainder_37, if_neg (nI_ge ht (by omega)), e5, ob, g2, if_pos rfl, if_pos hm, if_pos hm, e4, ob, nI_1]
    · rw [P5_traceOf_19, g1, ob, if_pos rfl, if_pos hm, if_pos hm, if_pos hv, if_pos hv2, n_cl (show it (nxI d) t (first e) < 2 ^ 31 by omega), n_cl (show e < 2 ^ 31 by omega), R.2.2.2.2.2.1 _ hi, f2]
theorem trace_loop {d q : Nat} {first : Nat → Nat} (R : RV d q first fo cy fA fB fC nx c fs) {e l : Nat} {m : Int32} (hm : ¬ m = 0) (he : e < q) (hl : Per (nxI d) (first e) l) (hl2 : l ≤ 320) : ∀ (r t f g : Nat) (x1 x2 x3 x4 : Int32), t + r + 1 = l → r + 1 < f → r < g → ∃ u v, P2_traceRemainder_37 (nI (FL d).length) fo m (nI l) f (nI (it (nxI d) t (first e))) x1 x2 x3 x4 (nI t) = some (u, v) ∧ P5_traceOf_19 fA fB fC nx fs (nI e) m g x1 x2 x3 x4 (nI (it (nxI d) t (first e))) = some (u, v)
  | 0, t, f, g, x1, x2, x3, x4, ht, hf, hg => by
    obtain ⟨f, rfl⟩ : ∃ w, f = w + 2 := ⟨f - 2, by omega⟩
    obtain ⟨g, rfl⟩ : ∃ w, g = w + 1 := ⟨g - 1, by omega⟩
    obtain ⟨y1, y2, y3, y4, s1, s2⟩ := trace_step R hm he hl2 (show t < l by omega) (f + 1) g x1 x2 x3 x4
    have el : nxI d (it (nxI d) t (first e)) = first e := by
      have := hl.2.1
      rw [← ht] at this
      exact this
    refine ⟨y1, y4, ?_, ?_⟩
    · rw [show f + 2 = f + 1 + 1 from rfl, s1, P2_traceRemainder_37, if_pos (nI_le (by omega) (by omega))]
    · rw [s2, if_pos (by rw [el])]
  | r + 1, t, f, g, x1, x2, x3, x4, ht, hf, hg => by
    obtain ⟨f, rfl⟩ : ∃ w, f = w + 1 := ⟨f - 1, by omega⟩
    obtain ⟨g, rfl⟩ : ∃ w, g = w + 1 := ⟨g - 1, by omega⟩
    obtain ⟨y1, y2, y3, y4, s1, s2⟩ := trace_step R hm he hl2 (show t < l by omega) f g x1 x2 x3 x4
    obtain ⟨f1, f2, -⟩ := cyc_at R he
    have hn := (FL_facts R.1).1
    have hi2 := it_lt (nx_perm R.1) f1 (t + 1)
    have el : ¬ nI (nxI d (it (nxI d) t (first e))) = nI (first e) := fun w => hl.2.2 (t + 1) (by omega) (by omega) ((nI_eq (show it (nxI d) (t + 1) (first e) < 2 ^ 31 by omega) (by omega)).mp w)
    obtain ⟨u, v, t1, t2⟩ := trace_loop R hm he hl hl2 r (t + 1) f g y1 y2 y3 y4 (by omega) (by omega) (by omega)
    refine ⟨u, v, ?_, ?_⟩
    · rw [s1]
      exact t1
    · rw [s2, if_neg el]
      exact t2
theorem c_trace (h : SimRiver vd vr vc fo cy md mf mc fA fB fC nx c fs) (x y : Int32) : ∃ a, P4_trace vr vc fo cy x y = some a ∧ P5_trace fA fB fC nx mc fs x y = some a := by
  unfold P4_trace P5_trace
  rcases h with ⟨rfl, rfl, rfl, rfl, rfl⟩ | ⟨d, q, first, rfl, rfl, rfl, rfl, rfl, rfl, R⟩
  · rw [no_cycle, ob, if_pos rfl, no_isCycle, ob, if_pos rfl]
    exact ⟨_, rfl, rfl⟩
  · rcases hy (RV_q R) R.2.1 x with ⟨e, he, rfl, a1, a2⟩ | ⟨a1, a2⟩
    · obtain ⟨f1, f2, l, hl, hln, c0, c1, z1, z2⟩ := cyc_at R he
      have hn := (FL_facts R.1).1
      have h10 := R.2.1
      rw [a1, ob, if_neg (show ¬ (1 : Int32) = 0 by decide), a2, ob, if_neg (show ¬ (1 : Int32) = 0 by decide), m_within, ob]
      by_cases y1 : y < 2
      · rw [if_pos y1, if_neg (show ¬ (2 ≤ y ∧ y ≤ 1000) from fun q => absurd y1 (Int32.not_lt.mpr q.1)), if_pos rfl]
        exact ⟨_, rfl, rfl⟩
      · by_cases y2 : 1000 < y
        · rw [if_neg y1, if_pos y2, if_neg (show ¬ (2 ≤ y ∧ y ≤ 1000) from fun q => absurd y2 (Int32.not_lt.mpr q.2)), if_pos rfl]
          exact ⟨_, rfl, rfl⟩
        · rw [if_neg y1, if_neg y2, if_pos (show 2 ≤ y ∧ y ≤ 1000 from ⟨Int32.not_lt.mp y1, Int32.not_lt.mp y2⟩), if_neg (show ¬ (1 : Int32) = 0 by decide)]
          obtain ⟨m, hm, rfl⟩ := nn (x := y) (fun q => y1 (by
            have q1 := Int32.lt_iff_toInt_lt.mp q
            rw [show (0 : Int32).toInt = 0 from rfl] at q1
            exact Int32.lt_iff_toInt_lt.mpr (by rw [show (2 : Int32).toInt = 2 from rfl]; omega)))
          have m2 : 2 ≤ m := (nI_leI (a := 2) (by omega) hm).mp (Int32.not_lt.mp y1)
          have m0 : ¬ nI m = 0 := nI_ne0 (by omega) hm
          obtain ⟨u, v, t1, t2⟩ := trace_loop R m0 he hl (by omega) (l - 1) 0 FU FU 1 0 0 1 (by have := hl.1; omega) (by unfold FU; omega) (by unfold FU; omega)
          unfold P2_traceRemainder P5_traceOf
          rw [show P2_ofCycle (nI q) cy (nI e) 1 = _ from ofC (w := 1) he h10 (by omega), ob, c1, show P2_ofCycle (nI q) cy (nI e) 0 = _ from ofC (w := 0) he h10 (by omega), ob, c0, jmax_1 hm, show max 1 m = m by omega, show P2_traceRemainder_37 (nI (FL d).length) fo (nI m) (nI l) FU (nI (first e)) 1 0 0 1 0 = _ from t1, ob, if_pos m0, ob, if_pos (show vx (nI e) 1200 from n_in (by omega) (by omega)), n_cl (show e < 2 ^ 31 by omega), f2, show P5_traceOf_19 fA fB fC nx fs (nI e) (nI m) FU 1 0 0 1 (nI (first e)) = _ from t2, ob, if_pos m0, ob]
          exact ⟨_, rfl, rfl⟩
    · rw [a1, ob, if_pos rfl, a2, ob, if_pos rfl]
      exact ⟨_, rfl, rfl⟩
end
theorem sim_simple {v_roadCount v_readings v_psize v_good v_pbits v_letters v_afterLetter v_disc v_rsize v_cycleCount : Int32} {v_codes : Nat → Int32} {v_fo v_cy v_wv : Nat → Nat → Int32} {v_wn : Nat} {m_pageLength m_roads m_wordsRead m_disc m_forms m_cycles m_size : Int32} {m_page m_lengths m_signs m_formA m_formB m_formC m_nextOf m_cycleOf m_firstOf : Nat → Int32} (y0 : Int32) (y1 : Int32) (h : SIM v_roadCount v_readings v_psize v_good v_pbits v_letters v_afterLetter v_codes v_disc v_rsize v_cycleCount v_fo v_cy v_wn v_wv m_pageLength m_page m_roads m_lengths m_signs m_wordsRead m_disc m_forms m_formA m_formB m_formC m_nextOf m_cycleOf m_cycles m_firstOf m_size) : ∃ (a : Int32) (b : Int32), P4_simple v_rsize v_fo y0 y1 = some a ∧ P5_simple m_forms m_formA m_formB m_formC m_nextOf m_cycleOf y0 y1 = some b ∧ a = b ∧ SIM v_roadCount v_readings v_psize v_good v_pbits v_letters v_afterLetter v_codes v_disc v_rsize v_cycleCount v_fo v_cy v_wn v_wv m_pageLength m_page m_roads m_lengths m_signs m_wordsRead m_disc m_forms m_formA m_formB m_formC m_nextOf m_cycleOf m_cycles m_firstOf m_size := by
  obtain ⟨a, h1, h2⟩ := c_simple h.2.2.1 y0 y1
  exact ⟨a, a, h1, h2, rfl, h⟩
theorem sim_cycle {v_roadCount v_readings v_psize v_good v_pbits v_letters v_afterLetter v_disc v_rsize v_cycleCount : Int32} {v_codes : Nat → Int32} {v_fo v_cy v_wv : Nat → Nat → Int32} {v_wn : Nat} {m_pageLength m_roads m_wordsRead m_disc m_forms m_cycles m_size : Int32} {m_page m_lengths m_signs m_formA m_formB m_formC m_nextOf m_cycleOf m_firstOf : Nat → Int32} (y0 : Int32) (y1 : Int32) (h : SIM v_roadCount v_readings v_psize v_good v_pbits v_letters v_afterLetter v_codes v_disc v_rsize v_cycleCount v_fo v_cy v_wn v_wv m_pageLength m_page m_roads m_lengths m_signs m_wordsRead m_disc m_forms m_formA m_formB m_formC m_nextOf m_cycleOf m_cycles m_firstOf m_size) : ∃ (a : Int32) (b : Int32), P4_cycle v_cycleCount v_cy y0 y1 = some a ∧ P5_cycle m_forms m_formA m_formB m_formC m_nextOf m_cycleOf m_cycles m_firstOf y0 y1 = some b ∧ a = b ∧ SIM v_roadCount v_readings v_psize v_good v_pbits v_letters v_afterLetter v_codes v_disc v_rsize v_cycleCount v_fo v_cy v_wn v_wv m_pageLength m_page m_roads m_lengths m_signs m_wordsRead m_disc m_forms m_formA m_formB m_formC m_nextOf m_cycleOf m_cycles m_firstOf m_size := by
  obtain ⟨a, h1, h2⟩ := c_cycle h.2.2.1 y0 y1
  exact ⟨a, a, h1, h2, rfl, h⟩
theorem sim_step {v_roadCount v_readings v_psize v_good v_pbits v_letters v_afterLetter v_disc v_rsize v_cycleCount : Int32} {v_codes : Nat → Int32} {v_fo v_cy v_wv : Nat → Nat → Int32} {v_wn : Nat} {m_pageLength m_roads m_wordsRead m_disc m_forms m_cycles m_size : Int32} {m_page m_lengths m_signs m_formA m_formB m_formC m_nextOf m_cycleOf m_firstOf : Nat → Int32} (y0 : Int32) (y1 : Int32) (h : SIM v_roadCount v_readings v_psize v_good v_pbits v_letters v_afterLetter v_codes v_disc v_rsize v_cycleCount v_fo v_cy v_wn v_wv m_pageLength m_page m_roads m_lengths m_signs m_wordsRead m_disc m_forms m_formA m_formB m_formC m_nextOf m_cycleOf m_cycles m_firstOf m_size) : ∃ (a : Int32) (b : Int32), P4_step v_rsize v_cycleCount v_fo v_cy y0 y1 = some a ∧ P5_step m_forms m_formA m_formB m_formC m_nextOf m_cycleOf m_cycles m_firstOf y0 y1 = some b ∧ a = b ∧ SIM v_roadCount v_readings v_psize v_good v_pbits v_letters v_afterLetter v_codes v_disc v_rsize v_cycleCount v_fo v_cy v_wn v_wv m_pageLength m_page m_roads m_lengths m_signs m_wordsRead m_disc m_forms m_formA m_formB m_formC m_nextOf m_cycleOf m_cycles m_firstOf m_size := by
  obtain ⟨a, h1, h2⟩ := c_step h.2.2.1 y0 y1
  exact ⟨a, a, h1, h2, rfl, h⟩
theorem sim_trace {v_roadCount v_readings v_psize v_good v_pbits v_letters v_afterLetter v_disc v_rsize v_cycleCount : Int32} {v_codes : Nat → Int32} {v_fo v_cy v_wv : Nat → Nat → Int32} {v_wn : Nat} {m_pageLength m_roads m_wordsRead m_disc m_forms m_cycles m_size : Int32} {m_page m_lengths m_signs m_formA m_formB m_formC m_nextOf m_cycleOf m_firstOf : Nat → Int32} (y0 : Int32) (y1 : Int32) (h : SIM v_roadCount v_readings v_psize v_good v_pbits v_letters v_afterLetter v_codes v_disc v_rsize v_cycleCount v_fo v_cy v_wn v_wv m_pageLength m_page m_roads m_lengths m_signs m_wordsRead m_disc m_forms m_formA m_formB m_formC m_nextOf m_cycleOf m_cycles m_firstOf m_size) : ∃ (a : Int32) (b : Int32), P4_trace v_rsize v_cycleCount v_fo v_cy y0 y1 = some a ∧ P5_trace m_formA m_formB m_formC m_nextOf m_cycles m_firstOf y0 y1 = some b ∧ a = b ∧ SIM v_roadCount v_readings v_psize v_good v_pbits v_letters v_afterLetter v_codes v_disc v_rsize v_cycleCount v_fo v_cy v_wn v_wv m_pageLength m_page m_roads m_lengths m_signs m_wordsRead m_disc m_forms m_formA m_formB m_formC m_nextOf m_cycleOf m_cycles m_firstOf m_size := by
  obtain ⟨a, h1, h2⟩ := c_trace h.2.2.1 y0 y1
  exact ⟨a, a, h1, h2, rfl, h⟩
