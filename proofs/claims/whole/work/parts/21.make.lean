-- ROADS THAT ARE CHANGED, DROPPED, MADE
section
variable {rc roads size otherSize tA tB tC tD nl : Int32} {wn : Nat} {wv : Nat → Nat → Int32} {lengths signs at_ other ns : Nat → Int32}
theorem w_sum_at (k N : Nat) (T : Nat → Nat) : P3_traceSum (wvr wv k (wrec N T) k 3) (wvr wv k (wrec N T) k 6) = some ((mt T N).1 + (mt T N).2.2.2) := by
  have hw2 := wvr_at wv k N T
  rw [hw2.2.2.2.1, hw2.2.2.2.2.2.2]
  rfl
theorem m_traceNow {N : Nat} {L : Nat → Nat} (h : LW N L) (ha : AO at_ N L) : P5_traceNow (nI N) at_ = some ((mt L N).1 + (mt L N).2.2.2, (mt L N).1, (mt L N).2.1, (mt L N).2.2.1, (mt L N).2.2.2) := by
  unfold P5_traceNow
  rw [m_layTable h ha]
  rfl
theorem c_change (h : SimRoads rc wn wv roads lengths signs) (x y : Int32) : ∃ a b, P4_change rc wn wv x y = some a ∧ P5_change roads lengths signs size at_ otherSize other tA tB tC tD x y = some b ∧ a.1 = b.1 ∧ SimRoads rc wn a.2 roads lengths b.2.1 ∧ Sz size b.2.2.1 := by
  rcases rd h x with ⟨k, N, L, k6, rfl, e4, e5, hL, hl, hs, w0, w1, w2, w3, w4, w5, w6⟩ | ⟨e4, e5⟩
  · have h1 := hL.1
    have h2 := hL.2.1
    obtain ⟨o, ho, hA⟩ := m_look (at_ := at_) hL.2.1 k6 hl hs
    unfold P4_change P5_change
    rw [e4, e5, ob, ob, if_neg (show ¬ (1 : Int32) = 0 by decide)]
    simp only []
    rw [w1]
    rcases wi y (m := 2) (by omega) with ⟨j, hj, rfl, hw⟩ | ⟨hw, hn⟩
    · rw [show P5_within (nI j) 0 2 = some 1 from hw, ob, if_neg (n_neg (by omega)), if_pos (show nI j < (3 : Int32) from nI_lt (b := 3) (by omega) (by omega)), w0, w2, w_changed hL, ob, if_neg (show ¬ (1 : Int32) = 0 by decide), ho, ob]
      rcases (show j = 0 ∨ j = 1 ∨ j = 2 by omega) with rfl | rfl | rfl
      · have hR := rev_LW hL
        obtain ⟨o2, ho2, hA2⟩ := m_layOther (other := other) hL.2.1 hL.2.2 hA 1 0
        rw [oth10] at hA2
        obtain ⟨s, hp, hS⟩ := m_lay (s := signs) h2 k6 hA2
        obtain ⟨o3, ho3, hA3⟩ := m_look (at_ := o) hR.2.1 k6 hl hS.1
        rw [if_pos (show nI 0 = (0 : Int32) by decide), w_become hR, ob, if_neg (show ¬ nI 0 = (2 : Int32) by decide), if_pos (show nI 0 = (0 : Int32) by decide), if_neg (show ¬ nI 0 = (1 : Int32) by decide)]
        simp only []
        rw [ho2, ob]
        simp only []
        rw [hp, ob, ho3, ob]
        simp only []
        rw [m_traceNow hR hA3, ob]
        refine ⟨((mt (rev N L) N).1 + (mt (rev N L) N).2.2.2, wvr wv k (wrec N (rev N L))), _, ?_, rfl, rfl, c_set h hR hl hS, Sz.n h2⟩
        show Option.bind (P3_traceSum (wvr wv k (wrec N (rev N L)) k 3) (wvr wv k (wrec N (rev N L)) k 6)) _ = _
        rw [w_sum_at]
        rfl
      · have hR := cpl_LW hL
        obtain ⟨o2, ho2, hA2⟩ := m_layOther (other := other) hL.2.1 hL.2.2 hA 0 1
        rw [oth01] at hA2
        obtain ⟨s, hp, hS⟩ := m_lay (s := signs) h2 k6 hA2
        obtain ⟨o3, ho3, hA3⟩ := m_look (at_ := o) hR.2.1 k6 hl hS.1
        rw [if_neg (show ¬ nI 1 = (0 : Int32) by decide), if_pos (show nI 1 = (1 : Int32) by decide), w_become hR, ob, if_neg (show ¬ nI 1 = (2 : Int32) by decide), if_neg (show ¬ nI 1 = (0 : Int32) by decide), if_pos (show nI 1 = (1 : Int32) by decide)]
        simp only []
        rw [ho2, ob]
        simp only []
        rw [hp, ob, ho3, ob]
        simp only []
        rw [m_traceNow hR hA3, ob]
        refine ⟨((mt (cpl L) N).1 + (mt (cpl L) N).2.2.2, wvr wv k (wrec N (cpl L))), _, ?_, rfl, rfl, c_set h hR hl hS, Sz.n h2⟩
        show Option.bind (P3_traceSum (wvr wv k (wrec N (cpl L)) k 3) (wvr wv k (wrec N (cpl L)) k 6)) _ = _
        rw [w_sum_at]
        rfl
      · have hR := rot_LW (k := lst N L) hL
        obtain ⟨s, hp, hS⟩ := m_put (s := signs) hL k6 (lst_lt h1) hA
        obtain ⟨o3, ho3, hA3⟩ := m_look (at_ := o) hR.2.1 k6 hl hS.1
        rw [if_neg (show ¬ nI 2 = (0 : Int32) by decide), if_neg (show ¬ nI 2 = (1 : Int32) by decide), w_become hR, ob, if_pos (show nI 2 = (2 : Int32) by decide)]
        simp only []
        rw [m_leastTurnNow hL hA, ob, hp, ob, ho3, ob]
        simp only []
        rw [m_traceNow hR hA3, ob]
        refine ⟨((mt (rot N (lst N L) L) N).1 + (mt (rot N (lst N L) L) N).2.2.2, wvr wv k (wrec N (rot N (lst N L) L))), _, ?_, rfl, rfl, c_set h hR hl hS, Sz.n h2⟩
        show Option.bind (P3_traceSum (wvr wv k (wrec N (rot N (lst N L) L)) k 3) (wvr wv k (wrec N (rot N (lst N L) L)) k 6)) _ = _
        rw [w_sum_at]
        rfl
    · rw [show P5_within y 0 2 = some 0 from hw, ob, if_pos rfl]
      by_cases y0 : y < 0
      · rw [if_pos y0]
        exact ⟨_, _, rfl, rfl, rfl, h, Sz.r _⟩
      · obtain ⟨j, hj, rfl⟩ := nn y0
        rw [if_neg y0, if_neg (show ¬ nI j < (3 : Int32) from fun q => hn j (by have := (nI_ltI (b := 3) hj (by omega)).mp q; omega) rfl)]
        exact ⟨_, _, rfl, rfl, rfl, h, Sz.r _⟩
  · unfold P4_change P5_change
    rw [e4, e5, ob, ob, if_pos rfl]
    exact ⟨_, _, rfl, rfl, rfl, h, Sz.r _⟩
theorem c_drop (h : SimRoads rc wn wv roads lengths signs) : ∃ a b, P4_drop rc = some a ∧ P5_drop roads = some b ∧ a.1 = b.1 ∧ SimRoads a.2 wn wv b.2 lengths signs := by
  have h' := h
  obtain ⟨n, n6, nw, rfl, rfl, hr⟩ := h
  unfold P4_drop P5_drop
  by_cases q : n = 0
  · subst q
    rw [if_neg (by decide), if_pos (by decide)]
    exact ⟨_, _, rfl, rfl, rfl, h'⟩
  · rw [if_pos (show (0 : Int32) < nI n from nI_lt (a := 0) (by omega) (by omega)), if_neg (nI_ne0 (by omega) (by omega))]
    have e : nI n - 1 = nI (n - 1) := n_sub (b := 1) (by omega)
    exact ⟨_, _, rfl, rfl, rfl, n - 1, by omega, by omega, e, e, fun k hk => hr k (by omega)⟩
end
theorem sim_change {v_roadCount v_readings v_psize v_good v_pbits v_letters v_afterLetter v_disc v_rsize v_cycleCount : Int32} {v_codes : Nat → Int32} {v_fo v_cy v_wv : Nat → Nat → Int32} {v_wn : Nat} {m_pageLength m_roads m_wordsRead m_disc m_forms m_cycles m_size m_otherSize m_tableA m_tableB m_tableC m_tableD : Int32} {m_page m_lengths m_signs m_formA m_formB m_formC m_nextOf m_cycleOf m_firstOf m_at m_other : Nat → Int32} (y0 : Int32) (y1 : Int32) (h : SIM v_roadCount v_readings v_psize v_good v_pbits v_letters v_afterLetter v_codes v_disc v_rsize v_cycleCount v_fo v_cy v_wn v_wv m_pageLength m_page m_roads m_lengths m_signs m_wordsRead m_disc m_forms m_formA m_formB m_formC m_nextOf m_cycleOf m_cycles m_firstOf m_size) : ∃ (a : Int32 × (Nat → Nat → Int32)) (b : Int32 × (Nat → Int32) × Int32 × (Nat → Int32) × Int32 × (Nat → Int32) × Int32 × Int32 × Int32 × Int32), P4_change v_roadCount v_wn v_wv y0 y1 = some a ∧ P5_change m_roads m_lengths m_signs m_size m_at m_otherSize m_other m_tableA m_tableB m_tableC m_tableD y0 y1 = some b ∧ a.1 = b.1 ∧ SIM v_roadCount v_readings v_psize v_good v_pbits v_letters v_afterLetter v_codes v_disc v_rsize v_cycleCount v_fo v_cy v_wn a.2 m_pageLength m_page m_roads m_lengths b.2.1 m_wordsRead m_disc m_forms m_formA m_formB m_formC m_nextOf m_cycleOf m_cycles m_firstOf b.2.2.1 := by
  obtain ⟨a, b, h1, h2, h3, h4, h5⟩ := c_change (size := m_size) (otherSize := m_otherSize) (tA := m_tableA) (tB := m_tableB) (tC := m_tableC) (tD := m_tableD) (at_ := m_at) (other := m_other) h.2.1 y0 y1
  exact ⟨a, b, h1, h2, h3, h.1, h4, h.2.2.1, h.2.2.2.1, h5.ok h.2.2.2.2⟩
theorem sim_drop {v_roadCount v_readings v_psize v_good v_pbits v_letters v_afterLetter v_disc v_rsize v_cycleCount : Int32} {v_codes : Nat → Int32} {v_fo v_cy v_wv : Nat → Nat → Int32} {v_wn : Nat} {m_pageLength m_roads m_wordsRead m_disc m_forms m_cycles m_size : Int32} {m_page m_lengths m_signs m_formA m_formB m_formC m_nextOf m_cycleOf m_firstOf : Nat → Int32} (h : SIM v_roadCount v_readings v_psize v_good v_pbits v_letters v_afterLetter v_codes v_disc v_rsize v_cycleCount v_fo v_cy v_wn v_wv m_pageLength m_page m_roads m_lengths m_signs m_wordsRead m_disc m_forms m_formA m_formB m_formC m_nextOf m_cycleOf m_cycles m_firstOf m_size) : ∃ (a : Int32 × Int32) (b : Int32 × Int32), P4_drop v_roadCount = some a ∧ P5_drop m_roads = some b ∧ a.1 = b.1 ∧ SIM a.2 v_readings v_psize v_good v_pbits v_letters v_afterLetter v_codes v_disc v_rsize v_cycleCount v_fo v_cy v_wn v_wv m_pageLength m_page b.2 m_lengths m_signs m_wordsRead m_disc m_forms m_formA m_formB m_formC m_nextOf m_cycleOf m_cycles m_firstOf m_size := by
  obtain ⟨a, b, h1, h2, h3, h4⟩ := c_drop h.2.1
  exact ⟨a, b, h1, h2, h3, h.1, h4, h.2.2.1, h.2.2.2.1, h.2.2.2.2⟩
