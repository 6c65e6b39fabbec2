-- ROADS THAT CHANGE
/-- the signs of one road are written -/
def WS (s t : Nat → Int32) (r N : Nat) (T : Nat → Nat) : Prop := (∀ i, i < N → t (20 * r + i) = nI (T i)) ∧ ∀ p, p < 20 * r ∨ 20 * r + 20 ≤ p → t p = s p
theorem WS_step {s t : Nat → Int32} {r k : Nat} {T : Nat → Nat} {v : Int32} (hk : k < 20) (h : WS s t r k T) (hv : v = nI (T k)) : WS s (upd t (20 * r + k) v) r (k + 1) T := by
  refine ⟨fun i hi => ?_, fun p hp => ?_⟩
  · by_cases q : i = k
    · subst q
      rw [pk_us, hv]
    · rw [pk_un (by omega)]
      exact h.1 i (by omega)
  · rw [pk_un (by omega)]
    exact h.2 p hp
theorem WS_0 (s : Nat → Int32) (r : Nat) (T : Nat → Nat) : WS s s r 0 T := ⟨fun i hi => by omega, fun _ _ => rfl⟩
theorem m_keep_loop {s ns : Nat → Int32} {r M : Nat} {T : Nat → Nat} (hM : M ≤ 20) (hr : r < 6) (ho : AO ns M T) : ∀ (j k n : Nat) (t : Nat → Int32), k + j = M → j < n → WS s t r k T → ∃ o, P5_keepNew_15 (nI r) (nI M) ns n t (nI k) = some o ∧ WS s o r M T
  | 0, k, n, t, hk, hn, h => by
    obtain ⟨n, rfl⟩ : ∃ z, n = z + 1 := ⟨n - 1, by omega⟩
    refine ⟨t, ?_, by rw [show M = k by omega]; exact h⟩
    rw [P5_keepNew_15, if_pos (nI_le (by omega) (by omega))]
  | j + 1, k, n, t, hk, hn, h => by
    obtain ⟨n, rfl⟩ : ∃ z, n = z + 1 := ⟨n - 1, by omega⟩
    rw [P5_keepNew_15, if_neg (nI_ge (by omega) (by omega)), if_pos (n_in (show k < 20 by omega) (by omega)), show (20 : Int32) = nI 20 from rfl, pk_mul, nI_add, if_pos (n_in (by omega) (by omega)), n_cl (by omega), n_cl (by omega), nI_1]
    exact m_keep_loop hM hr ho j (k + 1) n _ (by omega) (by omega) (WS_step (by omega) h (ho k (by omega)))
theorem m_put_loop {s at_ : Nat → Int32} {r N b : Nat} {L : Nat → Nat} (hL : LW N L) (hr : r < 6) (hb : b < N) (ho : AO at_ N L) : ∀ (j k n : Nat) (t : Nat → Int32), k + j = N → j < n → WS s t r k (rot N b L) → ∃ o, P5_put_2 (nI N) at_ (nI r) (nI b) n t (nI k) = some o ∧ WS s o r N (rot N b L)
  | 0, k, n, t, hk, hn, h => by
    obtain ⟨n, rfl⟩ : ∃ z, n = z + 1 := ⟨n - 1, by omega⟩
    have h2 := hL.2.1
    refine ⟨t, ?_, by rw [show N = k by omega] at h ⊢; exact h⟩
    rw [P5_put_2, if_pos (nI_le (by omega) (by omega))]
  | j + 1, k, n, t, hk, hn, h => by
    obtain ⟨n, rfl⟩ : ∃ z, n = z + 1 := ⟨n - 1, by omega⟩
    have h1 := hL.1
    have h2 := hL.2.1
    have m1 := Nat.mod_lt (k + b) h1
    rw [P5_put_2, if_neg (nI_ge (by omega) (by omega)), if_pos (nI_ne0 (by omega) (by omega)), nI_add, n_rem (by omega) (by omega) (by omega), if_pos (n_in (by omega) (by omega)), show (20 : Int32) = nI 20 from rfl, pk_mul, nI_add, if_pos (n_in (by omega) (by omega)), n_cl (by omega), n_cl (by omega), nI_1]
    exact m_put_loop hL hr hb ho j (k + 1) n _ (by omega) (by omega) (WS_step (by omega) h (by rw [ho _ m1, Nat.add_comm k b]; rfl))
theorem m_put {s at_ : Nat → Int32} {r N b : Nat} {L : Nat → Nat} (hL : LW N L) (hr : r < 6) (hb : b < N) (ho : AO at_ N L) : ∃ o, P5_put s (nI N) at_ (nI r) (nI b) = some o ∧ WS s o r N (rot N b L) := by
  have h2 := hL.2.1
  obtain ⟨o, h1, h3⟩ := m_put_loop (s := s) hL hr hb ho N 0 FU s (by omega) (by unfold FU; omega) (WS_0 _ _ _)
  refine ⟨o, ?_, h3⟩
  unfold P5_put
  rw [show (0 : Int32) = nI 0 from rfl, h1]
  rfl
theorem m_lay_loop {s at_ : Nat → Int32} {r N : Nat} {T : Nat → Nat} (hN : N ≤ 20) (hr : r < 6) (ho : AO at_ N T) : ∀ (j k n : Nat) (t : Nat → Int32), k + j = N → j < n → WS s t r k T → ∃ o, P5_change_70 (nI N) at_ (nI r) n t (nI k) = some o ∧ WS s o r N T
  | 0, k, n, t, hk, hn, h => by
    obtain ⟨n, rfl⟩ : ∃ z, n = z + 1 := ⟨n - 1, by omega⟩
    refine ⟨t, ?_, by rw [show N = k by omega]; exact h⟩
    rw [P5_change_70, if_pos (nI_le (by omega) (by omega))]
  | j + 1, k, n, t, hk, hn, h => by
    obtain ⟨n, rfl⟩ : ∃ z, n = z + 1 := ⟨n - 1, by omega⟩
    rw [P5_change_70, if_neg (nI_ge (by omega) (by omega)), if_pos (n_in (show k < 20 by omega) (by omega)), show (20 : Int32) = nI 20 from rfl, pk_mul, nI_add, if_pos (n_in (by omega) (by omega)), n_cl (by omega), n_cl (by omega), nI_1]
    exact m_lay_loop hN hr ho j (k + 1) n _ (by omega) (by omega) (WS_step (by omega) h (ho k (by omega)))
theorem m_lay {s at_ : Nat → Int32} {r N : Nat} {T : Nat → Nat} (hN : N ≤ 20) (hr : r < 6) (ho : AO at_ N T) : ∃ o, P5_change_70 (nI N) at_ (nI r) FU s 0 = some o ∧ WS s o r N T := m_lay_loop hN hr ho N 0 FU s (by omega) (by unfold FU; omega) (WS_0 _ _ _)
/-- a word's record, written whole -/
def wvr (wv : Nat → Nat → Int32) (k : Nat) (r : Int32 × Int32 × Int32 × Int32 × Int32 × Int32 × Int32) : Nat → Nat → Int32 := wvset wv k r.1 r.2.1 r.2.2.1 r.2.2.2.1 r.2.2.2.2.1 r.2.2.2.2.2.1 r.2.2.2.2.2.2
theorem wvr_at (wv : Nat → Nat → Int32) (k N : Nat) (T : Nat → Nat) : WR (wvr wv k (wrec N T)) k N T := by
  unfold WR wvr wvset
  simp only [if_true]
  exact ⟨rfl, rfl, rfl, rfl, rfl, rfl, rfl⟩
theorem wvr_ne {wv : Nat → Nat → Int32} {k k' N M : Nat} {T L : Nat → Nat} (h : ¬ k' = k) (hw : WR wv k' N L) : WR (wvr wv k (wrec M T)) k' N L := by
  unfold WR wvr wvset at *
  simp only [if_neg h]
  exact hw
section
variable {rc roads size otherSize tA tB tC tD nl : Int32} {wn : Nat} {wv : Nat → Nat → Int32} {lengths signs at_ other ns : Nat → Int32}
theorem c_set {k N : Nat} {T : Nat → Nat} {s : Nat → Int32} (h : SimRoads rc wn wv roads lengths signs) (hT : LW N T) (hl : lengths k = nI N) (hs : WS signs s k N T) : SimRoads rc wn (wvr wv k (wrec N T)) roads lengths s := by
  obtain ⟨n, n6, nw, e1, e2, hr⟩ := h
  refine ⟨n, n6, nw, e1, e2, fun k' hk' => ?_⟩
  by_cases q : k' = k
  · subst q
    exact ⟨N, T, hT, hl, hs.1, wvr_at _ _ _ _⟩
  · obtain ⟨M, L, hL, hl', hs', hw⟩ := hr k' hk'
    have hM := hL.2.1
    exact ⟨M, L, hL, hl', fun i hi => by rw [hs.2 _ (by omega)]; exact hs' i hi, wvr_ne q hw⟩
theorem c_add {M : Nat} {T : Nat → Nat} (h : SimRoads rc wn wv roads lengths signs) (hT : LW M T) (ho : AO ns M T) : (roads = 6 ∧ P4_addRoad rc wn wv (nI (bv T M)) (nI M) = some (-2000000104, rc, wn, wv)) ∨ (¬ roads = 6 ∧ ∃ n lengths' signs' wn' wv', n < 6 ∧ P4_addRoad rc wn wv (nI (bv T M)) (nI M) = some (nI n, nI (n + 1), wn', wv') ∧ P5_keepNew roads lengths signs (nI M) ns = some (nI n, nI (n + 1), lengths', signs') ∧ SimRoads (nI (n + 1)) wn' wv' (nI (n + 1)) lengths' signs') := by
  obtain ⟨n, n6, nw, rfl, rfl, hr⟩ := h
  have hM := hT.2.1
  unfold P4_addRoad
  rw [if_pos (show nI M ≤ (20 : Int32) from nI_le (b := 20) (by omega) (by omega)), if_neg (n_neg (by omega))]
  by_cases q : n = 6
  · subst q
    exact Or.inl ⟨rfl, by rw [if_neg (by decide)]⟩
  · refine Or.inr ⟨fun e => q ((nI_eq (b := 6) (by omega) (by omega)).mp e), ?_⟩
    obtain ⟨o, hk, hw⟩ := m_keep_loop (s := signs) (r := n) (by omega) (by omega) ho M 0 FU signs (by omega) (by unfold FU; omega) (WS_0 _ _ _)
    rw [if_pos (show nI n < (6 : Int32) from nI_lt (b := 6) (by omega) (by omega)), w_become hT, ob, n_cl (by omega), if_pos nw]
    refine ⟨n, upd lengths n (nI M), o, (if n < wn then wn else wn + 1), wvr wv n (wrec M T), by omega, ?_, ?_, ?_⟩
    · rw [show nI n + 1 = nI (n + 1) from nI_1 n]
      rfl
    · unfold P5_keepNew
      rw [if_pos (n_in (by omega) (by omega)), show (0 : Int32) = nI 0 from rfl, hk, ob, n_cl (by omega), show nI n + 1 = nI (n + 1) from nI_1 n, show nI (n + 1) - 1 = nI n from n_sub (b := 1) (by omega)]
    · refine ⟨n + 1, by omega, by split <;> omega, rfl, rfl, fun k' hk' => ?_⟩
      by_cases e : k' = n
      · subst e
        exact ⟨M, T, hT, pk_us, hw.1, wvr_at _ _ _ _⟩
      · obtain ⟨N, L, hL, hl', hs', hw'⟩ := hr k' (by omega)
        have hN := hL.2.1
        exact ⟨N, L, hL, by rw [pk_un e]; exact hl', fun i hi => by rw [hw.2 _ (by omega)]; exact hs' i hi, wvr_ne e hw'⟩
theorem per_rot {N k : Nat} {L : Nat → Nat} (h : LW N L) (hk : k < N) : fnd (eqr N (rot N k L) (rot N k L)) 1 (N - 1) = fnd (eqr N L L) 1 (N - 1) := by
  refine fnd_congr _ _ (fun j _ _ => ?_)
  unfold eqr
  congr 1
  have hR := rot_LW (k := k) h
  rw [bv_iff (rot_lt hR) (rot_lt h), bv_iff (rot_lt h) h.2.2]
  unfold rot
  apply propext
  have e : ∀ i, (k + (j + i) % N) % N = (j + (k + i) % N) % N := fun i => by
    rw [Nat.add_mod_mod, Nat.add_mod_mod]
    congr 1
    omega
  constructor
  · intro q i hi
    have := q ((i + (N - k)) % N) (Nat.mod_lt _ h.1)
    rw [e] at this
    have e2 : (k + (i + (N - k)) % N) % N = i := by
      rw [Nat.add_mod_mod, show k + (i + (N - k)) = i + N by omega, Nat.add_mod_right, Nat.mod_eq_of_lt hi]
    rw [e2] at this
    exact this
  · intro q i hi
    show L ((k + (j + i) % N) % N) = L ((k + i) % N)
    rw [e]
    exact q _ (Nat.mod_lt _ h.1)
theorem c_turn (h : SimRoads rc wn wv roads lengths signs) (x y : Int32) : ∃ a b, P4_turn rc wn wv x y = some a ∧ P5_turn roads lengths signs size at_ x y = some b ∧ a.1 = b.1 ∧ SimRoads rc wn a.2 roads lengths b.2.1 ∧ Sz size b.2.2.1 := by
  rcases rd h x with ⟨k, N, L, k6, rfl, e4, e5, hL, hl, hs, w0, w1, w2, w3, w4, w5, w6⟩ | ⟨e4, e5⟩
  · have h1 := hL.1
    have h2 := hL.2.1
    obtain ⟨o, ho, hA⟩ := m_look (at_ := at_) hL.2.1 k6 hl hs
    unfold P4_turn P5_turn
    rw [e4, e5, ob, ob, if_neg (show ¬ (1 : Int32) = 0 by decide), if_pos (n_in k6 (by omega)), n_cl (by omega), hl]
    simp only []
    rw [w1, show nI N - 1 = nI (N - 1) from n_sub (b := 1) h1]
    rcases wi y (m := N - 1) (by omega) with ⟨j, hj, rfl, hw⟩ | ⟨hw, hn⟩
    · have hR := rot_LW (k := j) hL
      obtain ⟨s, hp, hS⟩ := m_put (s := signs) hL k6 (show j < N by omega) hA
      rw [hw, ob, if_neg (n_neg (by omega)), if_pos (nI_lt (by omega) (by omega)), w0, w2, w_rotation hL (by omega), ob, w_become hR, ob, if_neg (show ¬ (1 : Int32) = 0 by decide), ho, ob]
      simp only []
      rw [hp, ob, m_periodNow hL hA, ob]
      have hw2 := wvr_at wv k N (rot N j L)
      refine ⟨(nI (fnd (eqr N L L) 1 (N - 1)), wvr wv k (wrec N (rot N j L))), _, ?_, rfl, rfl, c_set h hR hl hS, Sz.n h2⟩
      show Option.bind (P3_period (wvr wv k (wrec N (rot N j L)) k 0) (wvr wv k (wrec N (rot N j L)) k 1) (wvr wv k (wrec N (rot N j L)) k 2)) _ = _
      rw [hw2.1, hw2.2.1, hw2.2.2.1, w_period hR, per_rot hL (by omega)]
      rfl
    · rw [hw, ob, if_pos rfl]
      by_cases y0 : y < 0
      · rw [if_pos y0]
        exact ⟨_, _, rfl, rfl, rfl, h, Sz.r _⟩
      · obtain ⟨j, hj, rfl⟩ := nn y0
        rw [if_neg y0, if_neg (fun q => hn j (by have := (nI_ltI hj (by omega)).mp q; omega) rfl)]
        exact ⟨_, _, rfl, rfl, rfl, h, Sz.r _⟩
  · unfold P4_turn P5_turn
    rw [e4, e5, ob, ob, if_pos rfl]
    exact ⟨_, _, rfl, rfl, rfl, h, Sz.r _⟩
end
theorem sim_turn {v_roadCount v_readings v_psize v_good v_pbits v_letters v_afterLetter v_disc v_rsize v_cycleCount : Int32} {v_codes : Nat → Int32} {v_fo v_cy v_wv : Nat → Nat → Int32} {v_wn : Nat} {m_pageLength m_roads m_wordsRead m_disc m_forms m_cycles m_size : Int32} {m_page m_lengths m_signs m_formA m_formB m_formC m_nextOf m_cycleOf m_firstOf m_at : Nat → Int32} (y0 : Int32) (y1 : Int32) (h : SIM v_roadCount v_readings v_psize v_good v_pbits v_letters v_afterLetter v_codes v_disc v_rsize v_cycleCount v_fo v_cy v_wn v_wv m_pageLength m_page m_roads m_lengths m_signs m_wordsRead m_disc m_forms m_formA m_formB m_formC m_nextOf m_cycleOf m_cycles m_firstOf m_size) : ∃ (a : Int32 × (Nat → Nat → Int32)) (b : Int32 × (Nat → Int32) × Int32 × (Nat → Int32)), P4_turn v_roadCount v_wn v_wv y0 y1 = some a ∧ P5_turn m_roads m_lengths m_signs m_size m_at y0 y1 = some b ∧ a.1 = b.1 ∧ SIM v_roadCount v_readings v_psize v_good v_pbits v_letters v_afterLetter v_codes v_disc v_rsize v_cycleCount v_fo v_cy v_wn a.2 m_pageLength m_page m_roads m_lengths b.2.1 m_wordsRead m_disc m_forms m_formA m_formB m_formC m_nextOf m_cycleOf m_cycles m_firstOf b.2.2.1 := by
  obtain ⟨a, b, h1, h2, h3, h4, h5⟩ := c_turn (size := m_size) (at_ := m_at) h.2.1 y0 y1
  exact ⟨a, b, h1, h2, h3, h.1, h4, h.2.2.1, h.2.2.2.1, h5.ok h.2.2.2.2⟩
