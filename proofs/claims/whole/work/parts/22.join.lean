-- WORDS PUT TOGETHER
def cat (N : Nat) (L T : Nat → Nat) : Nat → Nat := fun i => if i < N then L i else T (i - N)
theorem cat_lt {N M : Nat} {L T : Nat → Nat} (hL : ∀ i, i < N → L i < 2) (hT : ∀ i, i < M → T i < 2) : ∀ i, i < N + M → cat N L T i < 2 := fun i hi => by
  unfold cat
  by_cases h : i < N
  · rw [if_pos h]
    exact hL i h
  · rw [if_neg h]
    exact hT _ (by omega)
theorem bv_cat {N : Nat} {L T : Nat → Nat} (M : Nat) : bv (cat N L T) (N + M) = bv L N * 2 ^ M + bv T M := by
  rw [bv_add, bv_congr (A := cat N L T) (B := L) (fun i hi => by unfold cat; rw [if_pos hi]), bv_congr (A := fun i => cat N L T (N + i)) (B := T) (fun i _ => by show cat N L T (N + i) = T i; unfold cat; rw [if_neg (by omega), Nat.add_sub_cancel_left])]
theorem n_cat {x M : Nat} {T : Nat → Nat} (hM : M ≤ 20) (hT : ∀ i, i < M → T i < 2) : jshl (nI x) (nI M) ||| nI (bv T M) = nI (x * 2 ^ M + bv T M) := by
  rw [n_shl x (by omega), n_or, Nat.mul_comm x, ← Nat.two_pow_add_eq_or_of_lt (bv_lt hT)]
section
variable {rc roads size otherSize tA tB tC tD nl : Int32} {wn : Nat} {wv : Nat → Nat → Int32} {lengths signs at_ other ns : Nat → Int32}
theorem add_long {x : Int32} {s : Nat} (h : 20 < s) (h2 : s < 2 ^ 31) : P4_addRoad rc wn wv x (nI s) = some (-2000000103, rc, wn, wv) := by
  unfold P4_addRoad
  rw [if_neg (show ¬ nI s ≤ (20 : Int32) from nI_ge (a := 20) h h2)]
theorem m_addRoad_loop {k a N : Nat} {C L : Nat → Nat} (hk6 : k < 6) (hN : a + N ≤ 20) (hl : lengths k = nI N) (hs : ∀ i, i < N → signs (20 * k + i) = nI (L i)) : ∀ (j i n : Nat) (t : Nat → Int32), i + j = N → j < n → AO t (a + i) (cat a C L) → ∃ o, P5_addRoad_2 lengths signs (nI k) n (nI (a + i)) t (nI i) = some (nI (a + N), o) ∧ AO o (a + N) (cat a C L)
  | 0, i, n, t, hk, hn, h => by
    obtain ⟨n, rfl⟩ : ∃ z, n = z + 1 := ⟨n - 1, by omega⟩
    rw [show i = N by omega] at h ⊢
    refine ⟨t, ?_, h⟩
    rw [P5_addRoad_2, if_pos (n_in hk6 (by omega)), n_cl (by omega), hl, if_pos (nI_le (by omega) (by omega))]
  | j + 1, i, n, t, hk, hn, h => by
    obtain ⟨n, rfl⟩ : ∃ z, n = z + 1 := ⟨n - 1, by omega⟩
    rw [P5_addRoad_2, if_pos (n_in hk6 (by omega)), n_cl (n := k) (by omega), hl, if_neg (nI_ge (by omega) (by omega)), show (20 : Int32) = nI 20 from rfl, pk_mul, nI_add, if_pos (n_in (by omega) (by omega)), if_pos (n_in (by omega) (by omega)), n_cl (by omega), n_cl (by omega), nI_1, nI_1, hs i (by omega)]
    refine m_addRoad_loop hk6 hN hl hs j (i + 1) n _ (by omega) (by omega) (fun z hz => ?_)
    by_cases q : z = a + i
    · subst q
      rw [pk_us]
      unfold cat
      rw [if_neg (by omega), Nat.add_sub_cancel_left]
    · rw [pk_un q]
      exact h z (by omega)
theorem m_addRoad {k a N : Nat} {C L : Nat → Nat} (hk6 : k < 6) (hN : a + N ≤ 20) (hl : lengths k = nI N) (hs : ∀ i, i < N → signs (20 * k + i) = nI (L i)) (h : AO ns a C) : ∃ o, P5_addRoad lengths signs (nI a) ns (nI k) = some (nI (a + N), o) ∧ AO o (a + N) (cat a C L) := by
  obtain ⟨o, h1, h2⟩ := m_addRoad_loop (C := C) hk6 hN hl hs N 0 FU ns (by omega) (by unfold FU; omega) (fun i hi => by unfold cat; rw [if_pos (by omega)]; exact h i (by omega))
  refine ⟨o, ?_, h2⟩
  unfold P5_addRoad
  rw [show (0 : Int32) = nI 0 from rfl, show P5_addRoad_2 lengths signs (nI k) FU (nI a) ns (nI 0) = _ from h1]
  rfl
theorem cat_0 {L : Nat → Nat} {C : Nat → Nat} : cat 0 C L = L := by
  funext i
  unfold cat
  rw [if_neg (by omega), Nat.sub_zero]
theorem c_join (h : SimRoads rc wn wv roads lengths signs) (x y : Int32) : ∃ a b, P4_join rc wn wv x y = some a ∧ P5_join roads lengths signs nl ns x y = some b ∧ a.1 = b.1 ∧ SimRoads a.2.1 a.2.2.1 a.2.2.2 b.2.1 b.2.2.1 b.2.2.2.1 := by
  rcases rd h x with ⟨k, N, L, k6, rfl, e4, e5, hL, hl, hs, w0, w1, w2, w3, w4, w5, w6⟩ | ⟨e4, e5⟩
  · rcases rd h y with ⟨k', M, T, k6', rfl, e4', e5', hT, hl', hs', w0', w1', w2', w3', w4', w5', w6'⟩ | ⟨e4', e5'⟩
    · have h1 := hL.1
      have h2 := hL.2.1
      have h3 := hT.2.1
      unfold P4_join P5_join
      rw [e4, e5, ob, ob, if_neg (show ¬ (1 : Int32) = 0 by decide)]
      simp only []
      rw [e4', e5', ob, ob, if_neg (show ¬ (1 : Int32) = 0 by decide), if_pos (n_in k6 (by omega)), if_pos (n_in k6' (by omega)), n_cl (by omega), n_cl (by omega), hl, hl', nI_add]
      simp only []
      rw [w0, w0', w1, w1', n_cat h3 hT.2.2, ← bv_cat, nI_add]
      by_cases hl20 : N + M ≤ 20
      · rw [if_pos (show nI (N + M) ≤ (20 : Int32) from nI_le (b := 20) (by omega) (by omega))]
        have hC : LW (N + M) (cat N L T) := ⟨by omega, hl20, cat_lt hL.2.2 hT.2.2⟩
        obtain ⟨o, g1, g2⟩ := m_addRoad (ns := ns) (a := 0) (C := L) k6 (by omega) hl hs (fun i hi => by omega)
        rw [cat_0] at g2
        obtain ⟨o2, g3, g4⟩ := m_addRoad (ns := o) (a := 0 + N) (C := L) k6' (by omega) hl' hs' g2
        rw [show 0 + N = N by omega] at g1 g3 g4
        rcases c_add h hC g4 with ⟨q1, q2⟩ | ⟨q1, n, ls, ss, wn', wv', hn, q2, q3, q4⟩
        · rw [if_pos q1, q2]
          exact ⟨_, _, rfl, rfl, rfl, h⟩
        · rw [if_neg q1, q2, show P5_addRoad lengths signs 0 ns (nI k) = _ from g1, ob, ob]
          simp only []
          rw [g3, ob]
          simp only []
          rw [q3]
          exact ⟨_, _, rfl, rfl, rfl, q4⟩
      · rw [if_neg (show ¬ nI (N + M) ≤ (20 : Int32) from nI_ge (a := 20) (by omega) (by omega)), add_long (by omega) (by omega)]
        exact ⟨_, _, rfl, rfl, rfl, h⟩
    · unfold P4_join P5_join
      rw [e4, e5, ob, ob, if_neg (show ¬ (1 : Int32) = 0 by decide)]
      simp only []
      rw [e4', e5', ob, ob, if_pos rfl]
      exact ⟨_, _, rfl, rfl, rfl, h⟩
  · unfold P4_join P5_join
    rw [e4, e5, ob, ob, if_pos rfl]
    simp only []
    rcases rd h y with ⟨k', M, T, k6', rfl, e4', e5', hT, hl', hs', w0', w1', w2', w3', w4', w5', w6'⟩ | ⟨e4', e5'⟩
    · rw [e4', ob]
      exact ⟨_, _, rfl, rfl, rfl, h⟩
    · rw [e4', ob]
      exact ⟨_, _, rfl, rfl, rfl, h⟩
/-- a word, so often -/
def rpt (N : Nat) (L : Nat → Nat) : Nat → Nat → Nat
  | 0 => fun _ => 0
  | t + 1 => cat (t * N) (rpt N L t) L
theorem rpt_lt {N : Nat} {L : Nat → Nat} (hL : ∀ i, i < N → L i < 2) : ∀ (t i : Nat), i < t * N → rpt N L t i < 2
  | 0, i, hi => by omega
  | t + 1, i, hi => by
    rw [Nat.succ_mul] at hi
    exact cat_lt (rpt_lt hL t) hL i hi
theorem w_times_loop {k N m : Nat} {L : Nat → Nat} (hL : LW N L) (w0 : wv k 0 = nI (bv L N)) (w1 : wv k 1 = nI N) (hm : m ≤ 5) : ∀ (j t n : Nat), t + j = m → j < n → P4_times_32 k wv (nI m) n (nI (bv (rpt N L t) (t * N))) (nI t) = some (nI (bv (rpt N L m) (m * N)))
  | 0, t, n, hk, hn => by
    obtain ⟨n, rfl⟩ : ∃ z, n = z + 1 := ⟨n - 1, by omega⟩
    rw [P4_times_32, if_pos (nI_le (by omega) (by omega)), show t = m by omega]
  | j + 1, t, n, hk, hn => by
    obtain ⟨n, rfl⟩ : ∃ z, n = z + 1 := ⟨n - 1, by omega⟩
    rw [P4_times_32, if_neg (nI_ge (by omega) (by omega)), w0, w1, n_cat hL.2.1 hL.2.2, ← bv_cat, nI_1]
    have := w_times_loop hL w0 w1 hm j (t + 1) n (by omega) (by omega)
    rw [Nat.succ_mul] at this
    exact this
theorem m_times_loop {k N m : Nat} {L : Nat → Nat} (hk6 : k < 6) (hl : lengths k = nI N) (hs : ∀ i, i < N → signs (20 * k + i) = nI (L i)) (hm : m ≤ 5) (hmN : m * N ≤ 20) : ∀ (j t n : Nat) (s : Nat → Int32), t + j = m → j < n → AO s (t * N) (rpt N L t) → ∃ o, P5_times_58 lengths signs (nI k) (nI m) n (nI (t * N)) s (nI t) = some (nI (m * N), o) ∧ AO o (m * N) (rpt N L m)
  | 0, t, n, s, hk, hn, h => by
    obtain ⟨n, rfl⟩ : ∃ z, n = z + 1 := ⟨n - 1, by omega⟩
    rw [show t = m by omega] at h ⊢
    refine ⟨s, ?_, h⟩
    rw [P5_times_58, if_pos (nI_le (by omega) (by omega))]
  | j + 1, t, n, s, hk, hn, h => by
    obtain ⟨n, rfl⟩ : ∃ z, n = z + 1 := ⟨n - 1, by omega⟩
    have hle : (t + 1) * N ≤ m * N := Nat.mul_le_mul_right N (by omega)
    rw [Nat.succ_mul] at hle
    obtain ⟨o, g1, g2⟩ := m_addRoad (ns := s) (a := t * N) (C := rpt N L t) hk6 (by omega) hl hs h
    rw [P5_times_58, if_neg (nI_ge (by omega) (by omega)), g1, ob, nI_1]
    have := m_times_loop hk6 hl hs hm hmN j (t + 1) n o (by omega) (by omega) (by rw [Nat.succ_mul]; exact g2)
    rw [Nat.succ_mul] at this
    exact this
theorem c_times (h : SimRoads rc wn wv roads lengths signs) (x y : Int32) : ∃ a b, P4_times rc wn wv x y = some a ∧ P5_times roads lengths signs nl ns x y = some b ∧ a.1 = b.1 ∧ SimRoads a.2.1 a.2.2.1 a.2.2.2 b.2.1 b.2.2.1 b.2.2.2.1 := by
  rcases rd h x with ⟨k, N, L, k6, rfl, e4, e5, hL, hl, hs, w0, w1, w2, w3, w4, w5, w6⟩ | ⟨e4, e5⟩
  · have h1 := hL.1
    have h2 := hL.2.1
    unfold P4_times P5_times
    rw [e4, e5, ob, ob, if_neg (show ¬ (1 : Int32) = 0 by decide), m_within, ob]
    simp only []
    by_cases c1 : y < 2
    · rw [if_pos c1, if_neg (show ¬ (2 ≤ y ∧ y ≤ 5) from fun q => absurd c1 (Int32.not_lt.mpr q.1)), if_pos rfl]
      exact ⟨_, _, rfl, rfl, rfl, h⟩
    · rw [if_neg c1]
      by_cases c2 : y ≤ 5
      · rw [if_pos c2, if_pos (show 2 ≤ y ∧ y ≤ 5 from ⟨Int32.not_lt.mp c1, c2⟩), if_neg (show ¬ (1 : Int32) = 0 by decide), if_pos (n_in k6 (by omega)), n_cl (by omega), hl]
        obtain ⟨m, hm, rfl⟩ := nn (x := y) (fun q => c1 (by
          have q1 := Int32.lt_iff_toInt_lt.mp q
          rw [show (0 : Int32).toInt = 0 from rfl] at q1
          exact Int32.lt_iff_toInt_lt.mpr (by rw [show (2 : Int32).toInt = 2 from rfl]; omega)))
        have m5 : m ≤ 5 := (nI_leI (b := 5) hm (by omega)).mp c2
        have m2 : 2 ≤ m := (nI_leI (a := 2) (by omega) hm).mp (Int32.not_lt.mp c1)
        have hmN : m * N ≤ 100 := Nat.mul_le_mul m5 h2
        have hmp : 1 ≤ m * N := Nat.mul_le_mul (show 1 ≤ m by omega) h1
        have e := w_times_loop hL w0 w1 m5 m 0 FU (by omega) (by unfold FU; omega)
        rw [show (0 : Int32) = nI 0 from rfl, show P4_times_32 k wv (nI m) FU (nI 0) (nI 0) = some (nI (bv (rpt N L m) (m * N))) by rw [← e, Nat.zero_mul]; rfl, ob, w1, pk_mul]
        by_cases hl20 : m * N ≤ 20
        · rw [if_pos (show nI (m * N) ≤ (20 : Int32) from nI_le (b := 20) (by omega) (by omega))]
          have hC : LW (m * N) (rpt N L m) := ⟨hmp, hl20, rpt_lt hL.2.2 m⟩
          obtain ⟨o, g1, g2⟩ := m_times_loop k6 hl hs m5 hl20 m 0 FU ns (by omega) (by unfold FU; omega) (fun i hi => by omega)
          rw [Nat.zero_mul] at g1
          rcases c_add h hC g2 with ⟨q1, q2⟩ | ⟨q1, n, ls, ss, wn', wv', hn, q2, q3, q4⟩
          · rw [if_pos q1, q2]
            exact ⟨_, _, rfl, rfl, rfl, h⟩
          · rw [if_neg q1, q2, g1, ob, ob]
            simp only []
            rw [q3]
            exact ⟨_, _, rfl, rfl, rfl, q4⟩
        · rw [if_neg (show ¬ nI (m * N) ≤ (20 : Int32) from nI_ge (a := 20) (by omega) (by omega)), add_long (by omega) (by omega)]
          exact ⟨_, _, rfl, rfl, rfl, h⟩
      · rw [if_neg c2, if_neg (show ¬ (2 ≤ y ∧ y ≤ 5) from fun q => c2 q.2), if_pos rfl]
        exact ⟨_, _, rfl, rfl, rfl, h⟩
  · unfold P4_times P5_times
    rw [e4, e5, ob, ob, if_pos rfl]
    exact ⟨_, _, rfl, rfl, rfl, h⟩
end
theorem sim_join {v_roadCount v_readings v_psize v_good v_pbits v_letters v_afterLetter v_disc v_rsize v_cycleCount : Int32} {v_codes : Nat → Int32} {v_fo v_cy v_wv : Nat → Nat → Int32} {v_wn : Nat} {m_pageLength m_roads m_wordsRead m_disc m_forms m_cycles m_newLength m_size : Int32} {m_page m_lengths m_signs m_formA m_formB m_formC m_nextOf m_cycleOf m_firstOf m_newSigns : Nat → Int32} (y0 : Int32) (y1 : Int32) (h : SIM v_roadCount v_readings v_psize v_good v_pbits v_letters v_afterLetter v_codes v_disc v_rsize v_cycleCount v_fo v_cy v_wn v_wv m_pageLength m_page m_roads m_lengths m_signs m_wordsRead m_disc m_forms m_formA m_formB m_formC m_nextOf m_cycleOf m_cycles m_firstOf m_size) : ∃ (a : Int32 × Int32 × Nat × (Nat → Nat → Int32)) (b : Int32 × Int32 × (Nat → Int32) × (Nat → Int32) × Int32 × (Nat → Int32)), P4_join v_roadCount v_wn v_wv y0 y1 = some a ∧ P5_join m_roads m_lengths m_signs m_newLength m_newSigns y0 y1 = some b ∧ a.1 = b.1 ∧ SIM a.2.1 v_readings v_psize v_good v_pbits v_letters v_afterLetter v_codes v_disc v_rsize v_cycleCount v_fo v_cy a.2.2.1 a.2.2.2 m_pageLength m_page b.2.1 b.2.2.1 b.2.2.2.1 m_wordsRead m_disc m_forms m_formA m_formB m_formC m_nextOf m_cycleOf m_cycles m_firstOf m_size := by
  obtain ⟨a, b, h1, h2, h3, h4⟩ := c_join (nl := m_newLength) (ns := m_newSigns) h.2.1 y0 y1
  exact ⟨a, b, h1, h2, h3, h.1, h4, h.2.2.1, h.2.2.2.1, h.2.2.2.2⟩
theorem sim_times {v_roadCount v_readings v_psize v_good v_pbits v_letters v_afterLetter v_disc v_rsize v_cycleCount : Int32} {v_codes : Nat → Int32} {v_fo v_cy v_wv : Nat → Nat → Int32} {v_wn : Nat} {m_pageLength m_roads m_wordsRead m_disc m_forms m_cycles m_newLength m_size : Int32} {m_page m_lengths m_signs m_formA m_formB m_formC m_nextOf m_cycleOf m_firstOf m_newSigns : Nat → Int32} (y0 : Int32) (y1 : Int32) (h : SIM v_roadCount v_readings v_psize v_good v_pbits v_letters v_afterLetter v_codes v_disc v_rsize v_cycleCount v_fo v_cy v_wn v_wv m_pageLength m_page m_roads m_lengths m_signs m_wordsRead m_disc m_forms m_formA m_formB m_formC m_nextOf m_cycleOf m_cycles m_firstOf m_size) : ∃ (a : Int32 × Int32 × Nat × (Nat → Nat → Int32)) (b : Int32 × Int32 × (Nat → Int32) × (Nat → Int32) × Int32 × (Nat → Int32)), P4_times v_roadCount v_wn v_wv y0 y1 = some a ∧ P5_times m_roads m_lengths m_signs m_newLength m_newSigns y0 y1 = some b ∧ a.1 = b.1 ∧ SIM a.2.1 v_readings v_psize v_good v_pbits v_letters v_afterLetter v_codes v_disc v_rsize v_cycleCount v_fo v_cy a.2.2.1 a.2.2.2 m_pageLength m_page b.2.1 b.2.2.1 b.2.2.2.1 m_wordsRead m_disc m_forms m_formA m_formB m_formC m_nextOf m_cycleOf m_cycles m_firstOf m_size := by
  obtain ⟨a, b, h1, h2, h3, h4⟩ := c_times (nl := m_newLength) (ns := m_newSigns) h.2.1 y0 y1
  exact ⟨a, b, h1, h2, h3, h.1, h4, h.2.2.1, h.2.2.2.1, h.2.2.2.2⟩
