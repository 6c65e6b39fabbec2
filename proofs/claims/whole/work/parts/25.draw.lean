-- RANDOM WORDS
def lI (n : Nat) : Int64 := Int64.ofNat n
theorem bm64 {n : Nat} (h : n < 2 ^ 63) : ((n : Int)).bmod (2 ^ 64) = (n : Int) := Int.bmod_eq_of_le (by omega) (by omega)
theorem l_rem {a b : Nat} (ha : a < 2 ^ 63) (h0 : 0 < b) (hb : b < 2 ^ 63) : jlrem (lI a) (lI b) = lI (a % b) := by
  have hd : lI a / lI b = lI (a / b) := by
    apply Int64.toInt_inj.mp
    have h1 := Nat.div_le_self a b
    rw [Int64.toInt_div]
    unfold lI
    rw [Int64.toInt_ofNat_of_lt ha, Int64.toInt_ofNat_of_lt hb, Int64.toInt_ofNat_of_lt (by omega), ← Int.ofNat_tdiv, bm64 (by omega)]
  unfold jlrem
  rw [hd]
  unfold lI
  rw [← Int64.ofNat_mul, ← Int64.ofNat_sub _ _ (Nat.div_mul_le_self a b)]
  congr 1
  have := Nat.div_add_mod a b
  rw [Nat.mul_comm] at this
  omega
theorem l_div {a b : Nat} (ha : a < 2 ^ 63) (hb : b < 2 ^ 63) : lI a / lI b = lI (a / b) := by
  apply Int64.toInt_inj.mp
  have h1 := Nat.div_le_self a b
  rw [Int64.toInt_div]
  unfold lI
  rw [Int64.toInt_ofNat_of_lt ha, Int64.toInt_ofNat_of_lt hb, Int64.toInt_ofNat_of_lt (by omega), ← Int.ofNat_tdiv, bm64 (by omega)]
/-- the next number of the row -/
def nx (s : Nat) : Nat := (1103515245 * s + 12345) % 2147483648
theorem l_nx {s : Nat} (h : s < 2147483648) : jlrem ((1103515245 * lI s) + 12345) 2147483648 = lI (nx s) := by
  have e : (1103515245 * lI s) + 12345 = lI (1103515245 * s + 12345) := by
    unfold lI
    rw [Int64.ofNat_add, Int64.ofNat_mul]
    rfl
  rw [e, show (2147483648 : Int64) = lI 2147483648 from rfl, l_rem (by omega) (by omega) (by omega)]
  rfl
theorem nx_lt (s : Nat) : nx s < 2147483648 := Nat.mod_lt _ (by omega)
theorem l_bit {s : Nat} (h : s < 2147483648) : Int64.toInt32 (jlrem (lI s / 65536) 2) = nI (s / 65536 % 2) := by
  rw [show (65536 : Int64) = lI 65536 from rfl, l_div (by omega) (by omega), show (2 : Int64) = lI 2 from rfl, l_rem (by omega) (by omega) (by omega)]
  rcases (show s / 65536 % 2 = 0 ∨ s / 65536 % 2 = 1 by omega) with e | e
  · rw [e]
    rfl
  · rw [e]
    rfl
theorem c_bits : ∀ (j k n1 n2 s : Nat) (C : Nat → Nat) (at_ : Nat → Int32), k + j = 8 → j < n1 → j < n2 → s < 2147483648 → AO at_ k C → (∀ i, i < k → C i < 2) → ∃ s' C' o, P0_nextBits_4 n1 (lI s) (nI (bv C k)) (nI k) = some (lI s', nI (bv C' 8)) ∧ P5_drawnNow_35 n2 at_ (lI s) (nI k) = some (o, lI s') ∧ s' < 2147483648 ∧ AO o 8 C' ∧ ∀ i, i < 8 → C' i < 2
  | 0, k, n1, n2, s, C, at_, hk, h1, h2, hs, ha, hC => by
    obtain ⟨n1, rfl⟩ : ∃ z, n1 = z + 1 := ⟨n1 - 1, by omega⟩
    obtain ⟨n2, rfl⟩ : ∃ z, n2 = z + 1 := ⟨n2 - 1, by omega⟩
    obtain rfl : k = 8 := by omega
    exact ⟨s, C, at_, by rw [P0_nextBits_4, if_pos (by decide)], by rw [P5_drawnNow_35, if_pos (by decide)], hs, ha, hC⟩
  | j + 1, k, n1, n2, s, C, at_, hk, h1, h2, hs, ha, hC => by
    obtain ⟨n1, rfl⟩ : ∃ z, n1 = z + 1 := ⟨n1 - 1, by omega⟩
    obtain ⟨n2, rfl⟩ : ∃ z, n2 = z + 1 := ⟨n2 - 1, by omega⟩
    have hl : nx s / 65536 % 2 < 2 := Nat.mod_lt _ (by omega)
    have hle : ¬ (8 : Int32) ≤ nI k := nI_ge (b := 8) (by omega) (by omega)
    rw [P0_nextBits_4, if_neg hle, P5_drawnNow_35, if_neg hle, l_nx hs, l_bit (nx_lt s), n_app _ _ hl, nI_1]
    unfold P5_drawOf
    rw [if_pos (by decide), ob, l_nx hs, show Int32.toInt64 2 = (2 : Int64) from rfl, l_bit (nx_lt s), if_pos (n_in (show k < 20 by omega) (by omega))]
    have ih := c_bits j (k + 1) n1 n2 (nx s) (ext C k (nx s / 65536 % 2)) (upd at_ k (nI (nx s / 65536 % 2))) (by omega) (by omega) (by omega) (nx_lt s) (ext_AO (by omega) ha) (ext_lt hl hC)
    rw [bv_ext] at ih
    simp only []
    rcases (show nx s / 65536 % 2 = 0 ∨ nx s / 65536 % 2 = 1 by omega) with e | e
    · rw [e] at ih ⊢
      rw [if_neg (show ¬ nI 0 = (1 : Int32) by decide), if_pos (n_in (show k < 20 by omega) (by omega)), n_cl (by omega)]
      exact ih
    · rw [e] at ih ⊢
      rw [if_pos (show nI 1 = (1 : Int32) by decide), n_cl (by omega)]
      exact ih
theorem m_lay00_loop {at_ : Nat → Int32} {N : Nat} (hN : N ≤ 20) : ∀ (j k n : Nat) (other : Nat → Int32), k + j = N → j < n → (∀ i, i < k → other i = at_ i) → ∃ o, P5_layOther_10 (nI N) at_ 0 0 n other (nI k) = some o ∧ (∀ i, i < N → o i = at_ i)
  | 0, k, n, other, hk, hn, h0 => by
    obtain ⟨n, rfl⟩ : ∃ z, n = z + 1 := ⟨n - 1, by omega⟩
    refine ⟨other, ?_, ?_⟩
    · rw [P5_layOther_10, if_pos (nI_le (by omega) (by omega))]
    · rw [show N = k by omega]
      exact h0
  | j + 1, k, n, other, hk, hn, h0 => by
    obtain ⟨n, rfl⟩ : ∃ z, n = z + 1 := ⟨n - 1, by omega⟩
    have v1 : vx (nI k) 20 := n_in (show k < 20 by omega) (by omega)
    rw [P5_layOther_10, if_neg (nI_ge (by omega) (by omega)), nI_1, if_pos rfl, if_pos v1, if_pos rfl, if_pos v1, n_cl (by omega)]
    refine m_lay00_loop hN j (k + 1) n _ (by omega) (by omega) (fun i hi => ?_)
    by_cases q : i = k
    · rw [q, pk_us]
    · rw [pk_un q]
      exact h0 i (by omega)
theorem m_lay00 {at_ other : Nat → Int32} {N : Nat} (hN : N ≤ 20) : ∃ o, P5_layOther (nI N) at_ other 0 0 = some (nI N, o) ∧ (∀ i, i < N → o i = at_ i) := by
  obtain ⟨o, h1, h2⟩ := m_lay00_loop (at_ := at_) hN N 0 FU other (by omega) (by unfold FU; omega) (fun i hi => by omega)
  refine ⟨o, ?_, h2⟩
  unfold P5_layOther
  rw [show (0 : Int32) = nI 0 from rfl, show P5_layOther_10 (nI N) at_ (nI 0) (nI 0) FU other (nI 0) = _ from h1]
  rfl
def z8 : Nat → Nat := fun _ => 0
theorem z8_LW : LW 8 z8 := ⟨by omega, by omega, fun i _ => by unfold z8; omega⟩
theorem z8_bv : bv z8 8 = 0 := bv_zero 8
theorem z8_clo : clo 8 z8 = false := by
  unfold clo
  rw [z8_bv]
  rfl
theorem z8_become : P3_become 0 8 = some (wrec 8 z8) := by
  have h := w_become z8_LW
  rw [z8_bv] at h
  exact h
theorem c_draw_loop {m : Nat} (hm : m ≤ 40) : ∀ (j k n1 n2 s : Nat) (L : Nat → Nat) (sz : Nat) (cl tr cr d1 d2 d3 d4 d5 d6 d7 e2 e3 e4 e5 e6 e7 os tA tB tC tD : Int32) (at_ other : Nat → Int32), k + j = m → j < n1 → j < n2 → s < 2147483648 → LW 8 L → sz ≤ 20 → (clo 8 L = true → sz = 8 ∧ AO at_ 8 L) → ∃ a b, P0_run_33 (nI m) n1 (lI s) cl tr cr d1 d2 d3 d4 d5 d6 d7 (nI (bv L 8)) e2 e3 e4 e5 e6 e7 (nI k) = some a ∧ P5_drawnNow_14 (nI m) n2 (nI sz) at_ os other tA tB tC tD (lI s) cl tr cr (b2 (clo 8 L)) (nI k) = some b ∧ a.1 = b.2.2.2.2.2.2.2.2.1 ∧ a.2.1 = b.2.2.2.2.2.2.2.2.2.1 ∧ a.2.2.1 = b.2.2.2.2.2.2.2.2.2.2.1 ∧ a.2.2.2.1 = b.2.2.2.2.2.2.2.2.2.2.2 ∧ ∃ z : Nat, z ≤ 20 ∧ b.1 = nI z
  | 0, k, n1, n2, s, L, sz, cl, tr, cr, d1, d2, d3, d4, d5, d6, d7, e2, e3, e4, e5, e6, e7, os, tA, tB, tC, tD, at_, other, hk, h1, h2, hs, hL, hz, hc => by
    obtain ⟨n1, rfl⟩ : ∃ z, n1 = z + 1 := ⟨n1 - 1, by omega⟩
    obtain ⟨n2, rfl⟩ : ∃ z, n2 = z + 1 := ⟨n2 - 1, by omega⟩
    refine ⟨_, _, by rw [P0_run_33, if_pos (nI_le (by omega) (by omega))], by rw [P5_drawnNow_14, if_pos (nI_le (by omega) (by omega))], rfl, rfl, rfl, rfl, sz, hz, rfl⟩
  | j + 1, k, n1, n2, s, L, sz, cl, tr, cr, d1, d2, d3, d4, d5, d6, d7, e2, e3, e4, e5, e6, e7, os, tA, tB, tC, tD, at_, other, hk, h1, h2, hs, hL, hz, hc => by
    obtain ⟨n1, rfl⟩ : ∃ z, n1 = z + 1 := ⟨n1 - 1, by omega⟩
    obtain ⟨n2, rfl⟩ : ∃ z, n2 = z + 1 := ⟨n2 - 1, by omega⟩
    obtain ⟨s', C, o, b1, b2', b3, b4, b5⟩ := c_bits 8 0 FU FU s (fun _ => 0) at_ (by omega) (by unfold FU; omega) (by unfold FU; omega) hs (fun i hi => by omega) (fun i hi => by omega)
    obtain ⟨o2, p1, p2⟩ := m_lay00 (at_ := at_) (other := other) hz
    have hC : LW 8 C := ⟨by omega, by omega, b5⟩
    rw [P0_run_33, if_neg (nI_ge (by omega) (by omega)), P5_drawnNow_14, if_neg (nI_ge (by omega) (by omega)), p1, ob, show P5_drawnNow_35 FU at_ (lI s) 0 = _ from b2', ob, show P3_become (nI (bv L 8)) 8 = some (wrec 8 L) from w_become hL, ob]
    unfold P0_nextBits
    rw [show P0_nextBits_4 FU (lI s) 0 0 = _ from b1, ob, ob]
    simp only []
    rw [show P3_become (nI (bv C 8)) 8 = some (wrec 8 C) from w_become hC, ob, show P5_isClosedNow 8 o = _ from m_isClosedNow hC b4, ob, nI_1]
    have ih := fun cl tr cr tA tB tC tD => c_draw_loop hm j (k + 1) n1 n2 s' C 8 cl tr cr (wrec 8 L).1 (wrec 8 L).2.1 (wrec 8 L).2.2.1 (wrec 8 L).2.2.2.1 (wrec 8 L).2.2.2.2.1 (wrec 8 L).2.2.2.2.2.1 (wrec 8 L).2.2.2.2.2.2 (wrec 8 C).2.1 (wrec 8 C).2.2.1 (wrec 8 C).2.2.2.1 (wrec 8 C).2.2.2.2.1 (wrec 8 C).2.2.2.2.2.1 (wrec 8 C).2.2.2.2.2.2 (nI sz) tA tB tC tD o o2 (by omega) (by omega) (by omega) b3 hC (by omega) (fun _ => ⟨rfl, b4⟩)
    unfold P0_tell
    rw [show P3_isClosed (wrec 8 C).1 (wrec 8 C).2.2.1 = _ from w_isClosed hC, ob]
    by_cases hcC : clo 8 C = true
    · rw [hcC] at ih ⊢
      rw [if_pos rfl, if_neg (show ¬ (1 : Int32) = 0 by decide), if_neg (show ¬ (1 : Int32) = 0 by decide), if_neg (show ¬ (1 : Int32) = 0 by decide), show P5_traceNow 8 o = _ from m_traceNow hC b4]
      unfold P3_traceSum
      rw [ob, ob, show P3_isClosed (wrec 8 L).1 (wrec 8 L).2.2.1 = _ from w_isClosed hL, ob, if_neg (show ¬ (1 : Int32) = 0 by decide)]
      by_cases hcL : clo 8 L = true
      · obtain ⟨rfl, hA⟩ := hc hcL
        rw [hcL, if_pos rfl, if_neg (show ¬ (1 : Int32) = 0 by decide), show P3_crossings (wrec 8 C).1 (wrec 8 C).2.1 (wrec 8 L).1 (wrec 8 L).2.1 = _ from w_crossings hC hL, ob, ob, if_neg (show ¬ b2 true = 0 by decide)]
        simp only []
        rw [show P5_crossNow 8 o (nI 8) o2 = _ from m_crossNow hC hL b4 (fun i hi => by rw [p2 i hi]; exact hA i hi), ob]
        exact ih _ _ _ _ _ _ _
      · rw [if_neg hcL, if_pos rfl, ob, if_pos (show b2 (clo 8 L) = 0 by unfold b2; rw [if_neg hcL]), n_a0]
        exact ih _ _ _ _ _ _ _
    · rw [if_neg hcC, if_pos rfl, if_pos rfl, if_pos rfl, if_pos rfl, ob, n_a0, n_a0, n_a0]
      rw [show b2 (clo 8 C) = 0 by unfold b2; rw [if_neg hcC]] at ih
      exact ih _ _ _ _ _ _ _
theorem sim_drawn {v_roadCount v_readings v_psize v_good v_pbits v_letters v_afterLetter v_disc v_rsize v_cycleCount v_closed v_traces v_crossings v_db_bits v_db_size v_db_allBits v_db_a v_db_b v_db_c v_db_d v_dn_bits v_dn_size v_dn_allBits v_dn_a v_dn_b v_dn_c v_dn_d : Int32} {v_s : Int64} {v_codes : Nat → Int32} {v_fo v_cy v_wv : Nat → Nat → Int32} {v_wn : Nat} {m_pageLength m_roads m_wordsRead m_disc m_forms m_cycles m_size m_otherSize m_tableA m_tableB m_tableC m_tableD : Int32} {m_seedNow : Int64} {m_page m_lengths m_signs m_formA m_formB m_formC m_nextOf m_cycleOf m_firstOf m_at m_other : Nat → Int32} (y0 : Int32) (y1 : Int32) (y2 : Int32) (h : SIM v_roadCount v_readings v_psize v_good v_pbits v_letters v_afterLetter v_codes v_disc v_rsize v_cycleCount v_fo v_cy v_wn v_wv m_pageLength m_page m_roads m_lengths m_signs m_wordsRead m_disc m_forms m_formA m_formB m_formC m_nextOf m_cycleOf m_cycles m_firstOf m_size) : ∃ (a : Int32 × Int64 × Int32 × Int32 × Int32 × Int32 × Int32 × Int32 × Int32 × Int32 × Int32 × Int32 × Int32 × Int32 × Int32 × Int32 × Int32 × Int32 × Int32) (b : Int32 × Int32 × (Nat → Int32) × Int32 × (Nat → Int32) × Int32 × Int32 × Int32 × Int32 × Int64), P4_drawn v_s v_closed v_traces v_crossings v_db_bits v_db_size v_db_allBits v_db_a v_db_b v_db_c v_db_d v_dn_bits v_dn_size v_dn_allBits v_dn_a v_dn_b v_dn_c v_dn_d y0 y1 y2 = some a ∧ P5_drawn m_size m_at m_otherSize m_other m_tableA m_tableB m_tableC m_tableD m_seedNow y0 y1 y2 = some b ∧ a.1 = b.1 ∧ SIM v_roadCount v_readings v_psize v_good v_pbits v_letters v_afterLetter v_codes v_disc v_rsize v_cycleCount v_fo v_cy v_wn v_wv m_pageLength m_page m_roads m_lengths m_signs m_wordsRead m_disc m_forms m_formA m_formB m_formC m_nextOf m_cycleOf m_cycles m_firstOf b.2.1 := by
  have h' := h
  obtain ⟨hP, hR, hV, hw, z, hz, rfl⟩ := h
  unfold P4_drawn P5_drawn
  rw [m_within, ob]
  by_cases c1 : y0 < 1
  · rw [if_pos c1, if_neg (show ¬ (1 ≤ y0 ∧ y0 ≤ 40) from fun q => absurd c1 (Int32.not_lt.mpr q.1)), if_pos rfl]
    exact ⟨_, _, rfl, rfl, rfl, h'⟩
  · by_cases c2 : 40 < y0
    · rw [if_neg c1, if_pos c2, if_neg (show ¬ (1 ≤ y0 ∧ y0 ≤ 40) from fun q => absurd c2 (Int32.not_lt.mpr q.2)), if_pos rfl]
      exact ⟨_, _, rfl, rfl, rfl, h'⟩
    · rw [if_neg c1, if_neg c2, if_pos (show 1 ≤ y0 ∧ y0 ≤ 40 from ⟨Int32.not_lt.mp c1, Int32.not_lt.mp c2⟩), if_neg (show ¬ (1 : Int32) = 0 by decide)]
      by_cases c3 : y1 < 0
      · rw [if_pos c3, if_pos c3]
        exact ⟨_, _, rfl, rfl, rfl, h'⟩
      · rw [if_neg c3, if_neg c3]
        obtain ⟨m, hm, rfl⟩ := nn (x := y0) (fun q => c1 (by
          have q1 := Int32.lt_iff_toInt_lt.mp q
          rw [show (0 : Int32).toInt = 0 from rfl] at q1
          exact Int32.lt_iff_toInt_lt.mpr (by rw [show (1 : Int32).toInt = 1 from rfl]; omega)))
        have m40 : m ≤ 40 := (nI_leI (b := 40) hm (by omega)).mp (Int32.not_lt.mp c2)
        obtain ⟨s, hs, rfl⟩ := nn c3
        have e64 : Int32.toInt64 (nI s) = lI s := by
          apply Int64.toInt_inj.mp
          rw [Int32.toInt_toInt64, nI_toInt hs]
          unfold lI
          rw [Int64.toInt_ofNat_of_lt (by omega)]
        have h0 := z8_LW
        have hc0 := z8_clo
        have ih := fun d1 d2 d3 d4 d5 d6 d7 os tA tB tC tD at_ other => c_draw_loop m40 m 0 FU FU s z8 z 0 0 0 d1 d2 d3 d4 d5 d6 d7 (wrec 8 z8).2.1 (wrec 8 z8).2.2.1 (wrec 8 z8).2.2.2.1 (wrec 8 z8).2.2.2.2.1 (wrec 8 z8).2.2.2.2.2.1 (wrec 8 z8).2.2.2.2.2.2 os tA tB tC tD at_ other (by omega) (by unfold FU; omega) (by unfold FU; omega) hs h0 hz (fun q => by rw [hc0] at q; cases q)
        obtain ⟨a, b, i1, i2, i3, i4, i5, i6, w, hw20, hwe⟩ := ih v_db_bits v_db_size v_db_allBits v_db_a v_db_b v_db_c v_db_d m_otherSize m_tableA m_tableB m_tableC m_tableD m_at m_other
        rw [hc0] at i2
        rcases wi y2 (m := 3) (by omega) with ⟨q, hq, rfl, hw3⟩ | ⟨hw3, hn⟩
        · rw [show P5_within (nI q) 0 3 = some 1 from hw3, ob, if_neg (show ¬ (1 : Int32) = 0 by decide), if_neg (n_neg (by omega)), if_pos (show nI q < (4 : Int32) from nI_lt (b := 4) (by omega) (by omega)), e64]
          unfold P0_run P5_drawnNow
          rw [e64, z8_become, ob]
          rw [show P0_run_33 (nI m) FU (lI s) 0 0 0 v_db_bits v_db_size v_db_allBits v_db_a v_db_b v_db_c v_db_d (wrec 8 z8).1 (wrec 8 z8).2.1 (wrec 8 z8).2.2.1 (wrec 8 z8).2.2.2.1 (wrec 8 z8).2.2.2.2.1 (wrec 8 z8).2.2.2.2.2.1 (wrec 8 z8).2.2.2.2.2.2 0 = _ from i1, ob]
          rw [show P5_drawnNow_14 (nI m) FU (nI z) m_at m_otherSize m_other m_tableA m_tableB m_tableC m_tableD (lI s) 0 0 0 0 0 = _ from i2, ob, ob]
          have fin : ∃ z : Nat, z ≤ 20 ∧ b.1 = nI z := ⟨w, hw20, hwe⟩
          rcases (show q = 0 ∨ q = 1 ∨ q = 2 ∨ q = 3 by omega) with rfl | rfl | rfl | rfl
          · exact ⟨_, _, rfl, rfl, i4, hP, hR, hV, hw, fin⟩
          · exact ⟨_, _, rfl, rfl, i5, hP, hR, hV, hw, fin⟩
          · exact ⟨_, _, rfl, rfl, i6, hP, hR, hV, hw, fin⟩
          · exact ⟨_, _, rfl, rfl, congrArg Int64.toInt32 i3, hP, hR, hV, hw, fin⟩
        · rw [show P5_within y2 0 3 = some 0 from hw3, ob, if_pos rfl]
          by_cases y0' : y2 < 0
          · rw [if_pos y0']
            exact ⟨_, _, rfl, rfl, rfl, h'⟩
          · obtain ⟨q, hq, rfl⟩ := nn y0'
            rw [if_neg y0', if_neg (show ¬ nI q < (4 : Int32) from fun w => hn q (by have := (nI_ltI (b := 4) hq (by omega)).mp w; omega) rfl)]
            exact ⟨_, _, rfl, rfl, rfl, h'⟩
