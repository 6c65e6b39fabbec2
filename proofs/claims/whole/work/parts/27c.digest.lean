-- digest: the river's numbers, the page, all together
section
variable {vd vr vc md mf mc : Int32} {fo cy : Nat → Nat → Int32} {fA fB fC nx c fs : Nat → Int32}
theorem n_simple {d q : Nat} {first : Nat → Nat} (R : RV d q first fo cy fA fB fC nx c fs) {i j : Nat} (hi : i < (FL d).length) (hj : j ≤ 7) : P4_simple (nI (FL d).length) fo (nI i) (nI j) = some (fo j i) := by
  have hn := (FL_facts R.1).1
  unfold P4_simple P2_hasForm
  rw [if_neg (n_neg (by omega)), if_neg (nI_ge hi (by omega)), if_neg (show ¬ (320 : Int32) ≤ nI i from nI_ge (b := 320) (by omega) (by omega)), ob, if_neg (show ¬ (1 : Int32) = 0 by decide), if_neg (n_neg (by omega)), if_neg (show ¬ (8 : Int32) ≤ nI j from nI_ge (b := 8) (by omega) (by omega)), ofF hi hn (by omega), ob]
theorem h_form_in {d q : Nat} {first : Nat → Nat} (R : RV d q first fo cy fA fB fC nx c fs) {i : Nat} (hi : i < (FL d).length) : ∀ (r j f : Nat) (l : Int64), j + r = 8 → r < f → ∃ u, P4_hashForms_20 (nI (FL d).length) fo (nI i) f l (nI j) = some u ∧ ∀ g, P5_mixRiver_2 (nI (FL d).length) fA fB fC nx c (g + r) l (nI (8 * i + j)) = P5_mixRiver_2 (nI (FL d).length) fA fB fC nx c g u (nI (8 * i + 8))
  | 0, j, f, l, hj, hf => by
    obtain ⟨f, rfl⟩ : ∃ w, f = w + 1 := ⟨f - 1, by omega⟩
    refine ⟨l, ?_, fun g => ?_⟩
    · rw [P4_hashForms_20, if_pos (show (8 : Int32) ≤ nI j from nI_le (a := 8) (by omega) (by omega))]
    · rw [show j = 8 by omega]
      rfl
  | r + 1, j, f, l, hj, hf => by
    obtain ⟨f, rfl⟩ : ∃ w, f = w + 1 := ⟨f - 1, by omega⟩
    have hn := (FL_facts R.1).1
    obtain ⟨u, h1, h2⟩ := h_form_in R hi r (j + 1) f ((31 * l) + Int32.toInt64 (fo j i)) (by omega) (by omega)
    refine ⟨u, ?_, fun g => ?_⟩
    · rw [P4_hashForms_20, if_neg (show ¬ (8 : Int32) ≤ nI j from nI_ge (b := 8) (by omega) (by omega)), n_simple R hi (by omega), ob, mix_w, ob, nI_1]
      exact h1
    · rw [show g + (r + 1) = (g + r) + 1 by omega, P5_mixRiver_2, show (8 : Int32) = nI 8 from rfl, pk_mul, if_neg (nI_ge (show 8 * i + j < 8 * (FL d).length by omega) (by omega)), n_div (by omega) (by omega), n_rem (by omega) (by omega) (by omega), show (8 * i + j) / 8 = i by omega, show (8 * i + j) % 8 = j by omega, m_simpleNow R hi (by omega), ob, mix_m, ob, nI_1]
      exact h2 g
theorem h_forms {d q : Nat} {first : Nat → Nat} (R : RV d q first fo cy fA fB fC nx c fs) : ∀ (m i f g : Nat) (l : Int64), i + m = (FL d).length → m < f → 8 * m < g → ∃ u, P4_hashForms_5 (nI (FL d).length) fo f l (nI i) = some u ∧ P5_mixRiver_2 (nI (FL d).length) fA fB fC nx c g l (nI (8 * i)) = some u
  | 0, i, f, g, l, hi, hf, hg => by
    obtain ⟨f, rfl⟩ : ∃ w, f = w + 1 := ⟨f - 1, by omega⟩
    obtain ⟨g, rfl⟩ : ∃ w, g = w + 1 := ⟨g - 1, by omega⟩
    have hn := (FL_facts R.1).1
    rw [P4_hashForms_5, if_pos (nI_le (by omega) (by omega)), P5_mixRiver_2, show (8 : Int32) = nI 8 from rfl, pk_mul, if_pos (nI_le (by omega) (by omega))]
    exact ⟨l, rfl, rfl⟩
  | m + 1, i, f, g, l, hi, hf, hg => by
    obtain ⟨f, rfl⟩ : ∃ w, f = w + 1 := ⟨f - 1, by omega⟩
    obtain ⟨g, rfl⟩ : ∃ w, g = w + 8 := ⟨g - 8, by omega⟩
    have hn := (FL_facts R.1).1
    obtain ⟨u, h1, h2⟩ := h_form_in R (show i < (FL d).length by omega) 8 0 FU l (by omega) (by unfold FU; omega)
    obtain ⟨v, h3, h4⟩ := h_forms R m (i + 1) f g u (by omega) (by omega) (by omega)
    refine ⟨v, ?_, ?_⟩
    · rw [P4_hashForms_5, if_neg (nI_ge (show i < (FL d).length by omega) (by omega)), show P4_hashForms_20 (nI (FL d).length) fo (nI i) FU l 0 = some u from h1, ob, nI_1]
      exact h3
    · exact (h2 g).trans h4
theorem n_cycle {d q : Nat} {first : Nat → Nat} (R : RV d q first fo cy fA fB fC nx c fs) {e j : Nat} (he : e < q) (hj : j ≤ 4) : P4_cycle (nI q) cy (nI e) (nI j) = some (cy j e) := by
  have h10 := R.2.1
  unfold P4_cycle P2_hasCycle
  rw [if_neg (n_neg (by omega)), if_neg (nI_ge he (by omega)), if_neg (show ¬ (10 : Int32) ≤ nI e from nI_ge (b := 10) (by omega) (by omega)), ob, if_neg (show ¬ (1 : Int32) = 0 by decide), if_neg (n_neg (by omega)), if_neg (show ¬ (5 : Int32) ≤ nI j from nI_ge (b := 5) (by omega) (by omega)), ofC he h10 (by omega), ob]
theorem h_cycle_in {d q : Nat} {first : Nat → Nat} (R : RV d q first fo cy fA fB fC nx c fs) {e : Nat} (he : e < q) : ∀ (r j f g : Nat) (l : Int64), j + r = 5 → r < f → r < g → ∃ u, P4_hashCycles_20 (nI q) cy (nI e) f l (nI j) = some u ∧ P5_mixRiver_48 (nI (FL d).length) fA fB fC nx c fs (nI e) g l (nI j) = some u
  | 0, j, f, g, l, hj, hf, hg => by
    obtain ⟨f, rfl⟩ : ∃ w, f = w + 1 := ⟨f - 1, by omega⟩
    obtain ⟨g, rfl⟩ : ∃ w, g = w + 1 := ⟨g - 1, by omega⟩
    have h5 : (5 : Int32) ≤ nI j := nI_le (a := 5) (by omega) (by omega)
    rw [P4_hashCycles_20, if_pos h5, P5_mixRiver_48, if_pos h5]
    exact ⟨l, rfl, rfl⟩
  | r + 1, j, f, g, l, hj, hf, hg => by
    obtain ⟨f, rfl⟩ : ∃ w, f = w + 1 := ⟨f - 1, by omega⟩
    obtain ⟨g, rfl⟩ : ∃ w, g = w + 1 := ⟨g - 1, by omega⟩
    have h5 : ¬ (5 : Int32) ≤ nI j := nI_ge (b := 5) (by omega) (by omega)
    rw [P4_hashCycles_20, if_neg h5, n_cycle R he (by omega), ob, mix_w, ob, P5_mixRiver_48, if_neg h5, m_cycleNow R he (by omega), ob, mix_m, ob, nI_1]
    exact h_cycle_in R he r (j + 1) f g _ (by omega) (by omega) (by omega)
theorem n_trace {d q : Nat} {first : Nat → Nat} (R : RV d q first fo cy fA fB fC nx c fs) {e : Nat} (he : e < q) : ∃ a, P4_trace (nI (FL d).length) (nI q) fo cy (nI e) 997 = some a ∧ P5_traceOf fA fB fC nx fs (nI e) 997 = some a := by
  have hS : SimRiver (nI d) (nI (FL d).length) (nI q) fo cy (nI d) (nI (FL d).length) (nI q) fA fB fC nx c fs := Or.inr ⟨d, q, first, rfl, rfl, rfl, rfl, rfl, rfl, R⟩
  obtain ⟨a, h1, h2⟩ := c_trace hS (nI e) 997
  have h10 := R.2.1
  have hq : P5_isCycle (nI q) (nI e) = some 1 := by
    unfold P5_isCycle
    rw [show nI q - 1 = nI (q - 1) from n_sub (b := 1) (by omega), wi1 (by omega) (by omega), ob, if_pos (Or.inr rfl)]
  unfold P5_trace at h2
  rw [hq, ob, if_neg (show ¬ (1 : Int32) = 0 by decide), show P5_within 997 2 1000 = some 1 by decide, ob, if_neg (show ¬ (1 : Int32) = 0 by decide)] at h2
  obtain ⟨r, r1, r2⟩ := obx h2
  rw [← Option.some.inj r2] at h1
  exact ⟨r, h1, r1⟩
theorem h_cycles {d q : Nat} {first : Nat → Nat} (R : RV d q first fo cy fA fB fC nx c fs) : ∀ (m e f g : Nat) (l : Int64), e + m = q → m < f → m < g → ∃ u, P4_hashCycles_5 (nI (FL d).length) (nI q) fo cy f l (nI e) = some u ∧ P5_mixRiver_38 (nI (FL d).length) fA fB fC nx c (nI q) fs g l (nI e) = some u
  | 0, e, f, g, l, he, hf, hg => by
    obtain ⟨f, rfl⟩ : ∃ w, f = w + 1 := ⟨f - 1, by omega⟩
    obtain ⟨g, rfl⟩ : ∃ w, g = w + 1 := ⟨g - 1, by omega⟩
    have h10 := R.2.1
    rw [P4_hashCycles_5, if_pos (nI_le (by omega) (by omega)), P5_mixRiver_38, if_pos (nI_le (by omega) (by omega))]
    exact ⟨l, rfl, rfl⟩
  | m + 1, e, f, g, l, he, hf, hg => by
    obtain ⟨f, rfl⟩ : ∃ w, f = w + 1 := ⟨f - 1, by omega⟩
    obtain ⟨g, rfl⟩ : ∃ w, g = w + 1 := ⟨g - 1, by omega⟩
    have h10 := R.2.1
    obtain ⟨u, h1, h2⟩ := h_cycle_in R (show e < q by omega) 5 0 FU FU l (by omega) (by unfold FU; omega) (by unfold FU; omega)
    obtain ⟨a, h3, h4⟩ := n_trace R (show e < q by omega)
    rw [P4_hashCycles_5, if_neg (nI_ge (show e < q by omega) (by omega)), show P4_hashCycles_20 (nI q) cy (nI e) FU l 0 = some u from h1, ob, h3, ob, mix_w, ob, P5_mixRiver_38, if_neg (nI_ge (show e < q by omega) (by omega)), show P5_mixRiver_48 (nI (FL d).length) fA fB fC nx c fs (nI e) FU l 0 = some u from h2, ob, h4, ob, mix_m, ob, nI_1]
    exact h_cycles R m (e + 1) f g _ (by omega) (by omega) (by omega)
theorem h_river (h : SimRiver vd vr vc fo cy md mf mc fA fB fC nx c fs) (l : Int64) : ∃ u v, P4_hashForms vr fo l = some u ∧ P4_hashCycles vr vc fo cy u = some v ∧ P5_mixRiver mf fA fB fC nx c mc fs l = some v := by
  unfold P4_hashForms P4_hashCycles P5_mixRiver
  rcases h with ⟨rfl, rfl, rfl, rfl, rfl⟩ | ⟨d, q, first, rfl, rfl, rfl, rfl, rfl, rfl, R⟩
  · refine ⟨l, l, ?_, ?_, ?_⟩
    · rw [show FU = 3999 + 1 from rfl, P4_hashForms_5, if_pos (by decide), ob]
    · rw [show FU = 3999 + 1 from rfl, P4_hashCycles_5, if_pos (by decide), ob]
    · rw [show FU = 3999 + 1 from rfl, P5_mixRiver_2, if_pos (by decide), ob, P5_mixRiver_38, if_pos (by decide), ob]
  · have hn := (FL_facts R.1).1
    have h10 := R.2.1
    obtain ⟨u, h1, h2⟩ := h_forms R (FL d).length 0 FU FU l (by omega) (by unfold FU; omega) (by unfold FU; omega)
    obtain ⟨v, h3, h4⟩ := h_cycles R q 0 FU FU u (by omega) (by unfold FU; omega) (by unfold FU; omega)
    refine ⟨u, v, ?_, ?_, ?_⟩
    · rw [show P4_hashForms_5 (nI (FL d).length) fo FU l 0 = some u from h1, ob]
    · rw [show P4_hashCycles_5 (nI (FL d).length) (nI q) fo cy FU u 0 = some v from h3, ob]
    · rw [show P5_mixRiver_2 (nI (FL d).length) fA fB fC nx c FU l 0 = some u from h2, ob, show P5_mixRiver_38 (nI (FL d).length) fA fB fC nx c (nI q) fs FU u 0 = some v from h4, ob]
end
theorem h_page {pl : Nat} {codes page : Nat → Int32} (hp : pl ≤ 20) (hc : ∀ i, i < pl → codes i = page i) : ∀ (j i f g : Nat) (l : Int64), i + j = pl → j < f → j < g → ∃ u, P1_hashed_5 (nI pl) codes f l (nI i) = some u ∧ P5_digest_38 (nI pl) page g l (nI i) = some u
  | 0, i, f, g, l, hi, hf, hg => by
    obtain ⟨f, rfl⟩ : ∃ w, f = w + 1 := ⟨f - 1, by omega⟩
    obtain ⟨g, rfl⟩ : ∃ w, g = w + 1 := ⟨g - 1, by omega⟩
    rw [P1_hashed_5, if_pos (nI_le (by omega) (by omega)), P5_digest_38, if_pos (nI_le (by omega) (by omega))]
    exact ⟨l, rfl, rfl⟩
  | j + 1, i, f, g, l, hi, hf, hg => by
    obtain ⟨f, rfl⟩ : ∃ w, f = w + 1 := ⟨f - 1, by omega⟩
    obtain ⟨g, rfl⟩ : ∃ w, g = w + 1 := ⟨g - 1, by omega⟩
    have hv : vx (nI i) 20 := n_in (by omega) (by omega)
    rw [P1_hashed_5, if_neg (nI_ge (show i < pl by omega) (by omega)), if_neg (show ¬ (20 : Int32) ≤ nI i from nI_ge (b := 20) (by omega) (by omega)), if_pos hv, n_cl (by omega), mix_w, ob, P5_digest_38, if_neg (nI_ge (show i < pl by omega) (by omega)), if_pos hv, n_cl (by omega), mix_m, ob, nI_1, hc i (by omega)]
    exact h_page hp hc j (i + 1) f g _ (by omega) (by omega) (by omega)
theorem h_counts {rc roads : Int32} {wn : Nat} {wv : Nat → Nat → Int32} {lengths signs : Nat → Int32} (h : SimRoads rc wn wv roads lengths signs) (pl wr nf nc : Int32) : ∀ (j i f g : Nat) (l : Int64) (size os : Int32) (at_ other : Nat → Int32), i + j = 7 → j < f → j < g → ∃ u r, P4_digest_37 rc wr pl nf nc wn wv f l (nI i) = some u ∧ P5_digest_65 pl roads lengths signs wr nf nc g size at_ os other l (nI i) = some r ∧ u = r.2.2.2.2 ∧ Sz size r.1
  | 0, i, f, g, l, size, os, at_, other, hi, hf, hg => by
    obtain ⟨f, rfl⟩ : ∃ w, f = w + 1 := ⟨f - 1, by omega⟩
    obtain ⟨g, rfl⟩ : ∃ w, g = w + 1 := ⟨g - 1, by omega⟩
    have h7 : (7 : Int32) ≤ nI i := nI_le (a := 7) (by omega) (by omega)
    rw [P4_digest_37, if_pos h7, P5_digest_65, if_pos h7]
    exact ⟨_, _, rfl, rfl, rfl, Sz.r _⟩
  | j + 1, i, f, g, l, size, os, at_, other, hi, hf, hg => by
    obtain ⟨f, rfl⟩ : ∃ w, f = w + 1 := ⟨f - 1, by omega⟩
    obtain ⟨g, rfl⟩ : ∃ w, g = w + 1 := ⟨g - 1, by omega⟩
    have h7 : ¬ (7 : Int32) ≤ nI i := nI_ge (b := 7) (by omega) (by omega)
    obtain ⟨a, b, h1, h2, h3, h4⟩ := c_howMany h pl wr nf nc size os at_ other (nI i)
    rw [P4_digest_37, if_neg h7, h1, ob, mix_w, ob, P5_digest_65, if_neg h7, h2, ob, mix_m, ob, nI_1, ← h3]
    obtain ⟨u, r, t1, t2, t3, t4⟩ := h_counts h pl wr nf nc j (i + 1) f g ((31 * l) + Int32.toInt64 a) b.2.1 b.2.2.2.1 b.2.2.1 b.2.2.2.2 (by omega) (by omega) (by omega)
    exact ⟨u, r, t1, t2, t3, h4.two t4⟩
theorem sim_digest {v_roadCount v_readings v_psize v_good v_pbits v_letters v_afterLetter v_disc v_rsize v_cycleCount : Int32} {v_codes : Nat → Int32} {v_fo v_cy v_wv : Nat → Nat → Int32} {v_wn : Nat} {m_pageLength m_roads m_wordsRead m_disc m_forms m_cycles m_size m_otherSize m_tableA m_tableB m_tableC m_tableD m_a m_b m_c m_grade : Int32} {m_page m_lengths m_signs m_formA m_formB m_formC m_nextOf m_cycleOf m_firstOf m_at m_other : Nat → Int32} (h : SIM v_roadCount v_readings v_psize v_good v_pbits v_letters v_afterLetter v_codes v_disc v_rsize v_cycleCount v_fo v_cy v_wn v_wv m_pageLength m_page m_roads m_lengths m_signs m_wordsRead m_disc m_forms m_formA m_formB m_formC m_nextOf m_cycleOf m_cycles m_firstOf m_size) : ∃ (a : Int64) (b : Int64 × Int32 × (Nat → Int32) × Int32 × (Nat → Int32) × Int32 × Int32 × Int32 × Int32 × Int32 × Int32 × Int32 × Int32 × Int64), P4_digest v_roadCount v_readings v_psize v_codes v_rsize v_cycleCount v_fo v_cy v_wn v_wv = some a ∧ P5_digest m_pageLength m_page m_roads m_lengths m_signs m_wordsRead m_forms m_formA m_formB m_formC m_nextOf m_cycleOf m_cycles m_firstOf m_size m_at m_otherSize m_other m_tableA m_tableB m_tableC m_tableD m_a m_b m_c m_grade = some b ∧ a = b.1 ∧ SIM v_roadCount v_readings v_psize v_good v_pbits v_letters v_afterLetter v_codes v_disc v_rsize v_cycleCount v_fo v_cy v_wn v_wv m_pageLength m_page m_roads m_lengths m_signs m_wordsRead m_disc m_forms m_formA m_formB m_formC m_nextOf m_cycleOf m_cycles m_firstOf b.2.1 := by
  obtain ⟨e1, e2, e3⟩ := SIM_eq h.1 h.2.2.1
  obtain ⟨n, n6, q1, q2, hK⟩ := rdk h.2.1
  have hR := h.2.1
  rw [q1, q2] at hR
  rw [q1, q2] at hK
  obtain ⟨u1, r1, a1, b1, c1, d1⟩ := h_roads_loop n6 hR hK n 0 FU FU 1549 m_size m_otherSize m_tableA m_tableB m_tableC m_tableD m_a m_b m_c m_grade m_at m_other (by omega) (by unfold FU; omega) (by unfold FU; omega)
  obtain ⟨u2, r2, a2, b2', c2, d2⟩ := h_crosses_loop n6 hK n 0 FU FU u1 r1.1 r1.2.2.1 r1.2.1 r1.2.2.2.1 (by omega) (by unfold FU; omega) (by unfold FU; omega)
  obtain ⟨u3, u4, a3, a4, b4⟩ := h_river h.2.2.1 u2
  obtain ⟨pl, ch, p20, p1, p2, p3, -⟩ := h.1
  obtain ⟨u5, a5, b5⟩ := h_page (codes := v_codes) (page := m_page) p20 (fun i hi => by rw [(p3 i hi).2.1, (p3 i hi).2.2]) pl 0 FU FU u4 (by omega) (by unfold FU; omega) (by unfold FU; omega)
  obtain ⟨u6, r6, a6, b6, c6, d6⟩ := h_counts hR m_pageLength m_wordsRead m_forms m_cycles 7 0 FU FU u5 r2.1 r2.2.2.1 r2.2.1 r2.2.2.2.1 (by omega) (by unfold FU; omega) (by unfold FU; omega)
  refine ⟨u6, (r6.2.2.2.2, r6.1, r6.2.1, r6.2.2.1, r6.2.2.2.1, r1.2.2.2.2.1, r1.2.2.2.2.2.1, r1.2.2.2.2.2.2.1, r1.2.2.2.2.2.2.2.1, r1.2.2.2.2.2.2.2.2.1, r1.2.2.2.2.2.2.2.2.2.1, r1.2.2.2.2.2.2.2.2.2.2.1, r1.2.2.2.2.2.2.2.2.2.2.2.1, r6.2.2.2.2), ?_, ?_, c6, h.1, h.2.1, h.2.2.1, h.2.2.2.1, ((d1.two d2).two d6).ok h.2.2.2.2⟩
  · unfold P4_digest P4_hashRoads P4_hashCrossings P1_hashed
    rw [q1, show P4_hashRoads_5 (nI n) v_wn v_wv FU 1549 0 = some u1 from a1, ob, ob, show P4_hashCrossings_5 (nI n) v_wn v_wv FU u1 0 = some u2 from a2, ob, ob, a3, ob, a4, ob, p1, show P1_hashed_5 (nI pl) v_codes FU u4 0 = some u5 from a5, ob, ob, ← p1, e1, e2, e3, h.2.2.2.1, show P4_digest_37 (nI n) m_wordsRead m_pageLength m_forms m_cycles v_wn v_wv FU u5 0 = some u6 from a6, ob]
  · unfold P5_digest P5_mixCrossings
    rw [q2, show P5_digest_9 (nI n) m_lengths m_signs FU m_size m_at m_otherSize m_other m_tableA m_tableB m_tableC m_tableD m_a m_b m_c m_grade 1549 0 = some r1 from b1, ob, ← c1, show P5_mixCrossings_2 (nI n) m_lengths m_signs FU r1.1 r1.2.1 r1.2.2.1 r1.2.2.2.1 u1 0 = some r2 from b2', ob, ob]
    simp only []
    rw [← c2, b4, ob, p2, show P5_digest_38 (nI pl) m_page FU u4 0 = some u5 from b5, ob, ← p2, show P5_digest_65 m_pageLength (nI n) m_lengths m_signs m_wordsRead m_forms m_cycles FU r2.1 r2.2.1 r2.2.2.1 r2.2.2.2.1 u5 0 = some r6 from b6, ob]
