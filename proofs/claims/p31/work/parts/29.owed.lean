-- WHAT THE PURE SIDE OWES
theorem law_does {v_roadCount v_readings v_psize v_good v_pbits v_letters v_afterLetter v_rsize v_cycleCount : Int32} {v_zw v_zd v_zt v_codes : Nat → Int32} {v_wv : Nat → Nat → Int32} {v_wn : Nat} (h : INV v_zw v_zd v_roadCount v_readings v_psize v_good v_pbits v_letters v_afterLetter v_wn v_wv) (x y : Int32) : ∃ r : Int32 × (Nat → Int32) × (Nat → Int32) × (Nat → Int32) × Int32 × Int32 × Int32 × Int32 × Int32 × Int32 × Int32 × (Nat → Int32) × Nat × (Nat → Nat → Int32), P_does v_zw v_zd v_zt v_roadCount v_readings v_psize v_good v_pbits v_letters v_afterLetter v_codes v_rsize v_cycleCount v_wn v_wv x y = some r ∧ r.1 = 1 ∧ INV r.2.1 r.2.2.1 r.2.2.2.2.1 r.2.2.2.2.2.1 r.2.2.2.2.2.2.1 r.2.2.2.2.2.2.2.1 r.2.2.2.2.2.2.2.2.1 r.2.2.2.2.2.2.2.2.2.1 r.2.2.2.2.2.2.2.2.2.2.1 r.2.2.2.2.2.2.2.2.2.2.2.2.1 r.2.2.2.2.2.2.2.2.2.2.2.2.2 := by
  obtain ⟨n, h1, h2, rfl, rfl, rfl, rfl, rfl, rfl⟩ := h
  exact l_does h1 h2 x y
theorem law_stands {v_roadCount v_readings v_psize v_good v_pbits v_letters v_afterLetter v_rsize v_cycleCount : Int32} {v_zw v_zd v_zt : Nat → Int32} {v_wv : Nat → Nat → Int32} {v_wn : Nat} (h : INV v_zw v_zd v_roadCount v_readings v_psize v_good v_pbits v_letters v_afterLetter v_wn v_wv) : ∃ r : Int32 × (Nat → Int32), P_stands v_zw v_zt v_roadCount v_readings v_psize v_rsize v_cycleCount v_wn v_wv (v_zd 0) = some r ∧ r.1 = 1 := by
  obtain ⟨n, h1, h2, h3⟩ := h
  rw [h2]
  obtain ⟨o, ho⟩ := l_stands h1 v_zt v_readings v_psize v_rsize v_cycleCount
  exact ⟨_, ho, rfl⟩
theorem law_crosses {v_roadCount v_readings v_psize v_good v_pbits v_letters v_afterLetter : Int32} {v_zw v_zd : Nat → Int32} {v_wv : Nat → Nat → Int32} {v_wn : Nat} (h : INV v_zw v_zd v_roadCount v_readings v_psize v_good v_pbits v_letters v_afterLetter v_wn v_wv) : P_crosses v_zw v_roadCount v_wn v_wv (v_zd 0) = some 1 := by
  obtain ⟨n, h1, h2, h3⟩ := h
  rw [h2]
  exact l_crosses h1
theorem law_drawn {v_closed v_traces v_crossings v_db_bits v_db_size v_db_allBits v_db_a v_db_b v_db_c v_db_d v_dn_bits v_dn_size v_dn_allBits v_dn_a v_dn_b v_dn_c v_dn_d : Int32} {v_s : Int64} {v_zt : Nat → Int32} (x y : Int32) : ∃ r : Int32 × (Nat → Int32) × Int64 × Int32 × Int32 × Int32 × Int32 × Int32 × Int32 × Int32 × Int32 × Int32 × Int32 × Int32 × Int32 × Int32 × Int32 × Int32 × Int32 × Int32, P_drawn v_zt v_s v_closed v_traces v_crossings v_db_bits v_db_size v_db_allBits v_db_a v_db_b v_db_c v_db_d v_dn_bits v_dn_size v_dn_allBits v_dn_a v_dn_b v_dn_c v_dn_d (1 + jrem (jushr x 1) 40) (y &&& 2147483647) = some r ∧ r.1 = 1 := by
  obtain ⟨u, hu, eu⟩ := half x
  obtain ⟨v, hv, ev⟩ := any_nI y
  have e1 : 1 + jrem (jushr x 1) 40 = nI (1 + u % 40) := by
    rw [eu, show (40 : Int32) = nI 40 from rfl, n_rem hu (by omega) (by omega)]
    exact nI_add 1 _
  have e2 : y &&& 2147483647 = nI (v % 2147483648) := by
    rw [ev]
    exact n_mask v 31
  have m40 : 1 + u % 40 ≤ 40 := by omega
  have s31 : v % 2147483648 < 2147483648 := by omega
  obtain ⟨o, S, CL, TR, CR, r1, r2⟩ := d_run m40 s31 v_zt
  rw [e1, e2]
  unfold P_drawn
  rw [e64 s31, r1, ob]
  obtain ⟨q0, f0, g0⟩ := d_go (zs := v_s) (c1 := v_closed) (c2 := v_traces) (c3 := v_crossings) (d1 := v_db_bits) (d2 := v_db_size) (d3 := v_db_allBits) (d4 := v_db_a) (d5 := v_db_b) (d6 := v_db_c) (d7 := v_db_d) (e1 := v_dn_bits) (e2 := v_dn_size) (e3 := v_dn_allBits) (e4 := v_dn_a) (e5 := v_dn_b) (e6 := v_dn_c) (e7 := v_dn_d) (z := 0) (by omega) m40 s31 (Or.inl rfl) r2
  rw [f0, ob]
  dsimp only
  rw [if_pos (show q0.1 = CL from g0)]
  obtain ⟨q1, f1, g1⟩ := d_go (zs := q0.2.1) (c1 := q0.2.2.1) (c2 := q0.2.2.2.1) (c3 := q0.2.2.2.2.1) (d1 := q0.2.2.2.2.2.1) (d2 := q0.2.2.2.2.2.2.1) (d3 := q0.2.2.2.2.2.2.2.1) (d4 := q0.2.2.2.2.2.2.2.2.1) (d5 := q0.2.2.2.2.2.2.2.2.2.1) (d6 := q0.2.2.2.2.2.2.2.2.2.2.1) (d7 := q0.2.2.2.2.2.2.2.2.2.2.2.1) (e1 := q0.2.2.2.2.2.2.2.2.2.2.2.2.1) (e2 := q0.2.2.2.2.2.2.2.2.2.2.2.2.2.1) (e3 := q0.2.2.2.2.2.2.2.2.2.2.2.2.2.2.1) (e4 := q0.2.2.2.2.2.2.2.2.2.2.2.2.2.2.2.1) (e5 := q0.2.2.2.2.2.2.2.2.2.2.2.2.2.2.2.2.1) (e6 := q0.2.2.2.2.2.2.2.2.2.2.2.2.2.2.2.2.2.1) (e7 := q0.2.2.2.2.2.2.2.2.2.2.2.2.2.2.2.2.2.2) (z := 1) (by omega) m40 s31 (Or.inr (Or.inl rfl)) r2
  rw [f1, ob]
  rw [if_pos (show q1.1 = TR from g1)]
  obtain ⟨q2, f2, g2⟩ := d_go (zs := q1.2.1) (c1 := q1.2.2.1) (c2 := q1.2.2.2.1) (c3 := q1.2.2.2.2.1) (d1 := q1.2.2.2.2.2.1) (d2 := q1.2.2.2.2.2.2.1) (d3 := q1.2.2.2.2.2.2.2.1) (d4 := q1.2.2.2.2.2.2.2.2.1) (d5 := q1.2.2.2.2.2.2.2.2.2.1) (d6 := q1.2.2.2.2.2.2.2.2.2.2.1) (d7 := q1.2.2.2.2.2.2.2.2.2.2.2.1) (e1 := q1.2.2.2.2.2.2.2.2.2.2.2.2.1) (e2 := q1.2.2.2.2.2.2.2.2.2.2.2.2.2.1) (e3 := q1.2.2.2.2.2.2.2.2.2.2.2.2.2.2.1) (e4 := q1.2.2.2.2.2.2.2.2.2.2.2.2.2.2.2.1) (e5 := q1.2.2.2.2.2.2.2.2.2.2.2.2.2.2.2.2.1) (e6 := q1.2.2.2.2.2.2.2.2.2.2.2.2.2.2.2.2.2.1) (e7 := q1.2.2.2.2.2.2.2.2.2.2.2.2.2.2.2.2.2.2) (z := 2) (by omega) m40 s31 (Or.inr (Or.inr (Or.inl rfl))) r2
  rw [f2, ob]
  rw [if_pos (show q2.1 = CR from g2)]
  obtain ⟨q3, f3, g3⟩ := d_go (zs := q2.2.1) (c1 := q2.2.2.1) (c2 := q2.2.2.2.1) (c3 := q2.2.2.2.2.1) (d1 := q2.2.2.2.2.2.1) (d2 := q2.2.2.2.2.2.2.1) (d3 := q2.2.2.2.2.2.2.2.1) (d4 := q2.2.2.2.2.2.2.2.2.1) (d5 := q2.2.2.2.2.2.2.2.2.2.1) (d6 := q2.2.2.2.2.2.2.2.2.2.2.1) (d7 := q2.2.2.2.2.2.2.2.2.2.2.2.1) (e1 := q2.2.2.2.2.2.2.2.2.2.2.2.2.1) (e2 := q2.2.2.2.2.2.2.2.2.2.2.2.2.2.1) (e3 := q2.2.2.2.2.2.2.2.2.2.2.2.2.2.2.1) (e4 := q2.2.2.2.2.2.2.2.2.2.2.2.2.2.2.2.1) (e5 := q2.2.2.2.2.2.2.2.2.2.2.2.2.2.2.2.2.1) (e6 := q2.2.2.2.2.2.2.2.2.2.2.2.2.2.2.2.2.2.1) (e7 := q2.2.2.2.2.2.2.2.2.2.2.2.2.2.2.2.2.2.2) (z := 3) (by omega) m40 s31 (Or.inr (Or.inr (Or.inr rfl))) r2
  rw [f3, ob]
  rw [if_pos (show q3.1 = Int64.toInt32 S from g3)]
  obtain ⟨q4, f4, g4⟩ := d_no (zs := q3.2.1) (c1 := q3.2.2.1) (c2 := q3.2.2.2.1) (c3 := q3.2.2.2.2.1) (d1 := q3.2.2.2.2.2.1) (d2 := q3.2.2.2.2.2.2.1) (d3 := q3.2.2.2.2.2.2.2.1) (d4 := q3.2.2.2.2.2.2.2.2.1) (d5 := q3.2.2.2.2.2.2.2.2.2.1) (d6 := q3.2.2.2.2.2.2.2.2.2.2.1) (d7 := q3.2.2.2.2.2.2.2.2.2.2.2.1) (e1 := q3.2.2.2.2.2.2.2.2.2.2.2.2.1) (e2 := q3.2.2.2.2.2.2.2.2.2.2.2.2.2.1) (e3 := q3.2.2.2.2.2.2.2.2.2.2.2.2.2.2.1) (e4 := q3.2.2.2.2.2.2.2.2.2.2.2.2.2.2.2.1) (e5 := q3.2.2.2.2.2.2.2.2.2.2.2.2.2.2.2.2.1) (e6 := q3.2.2.2.2.2.2.2.2.2.2.2.2.2.2.2.2.2.1) (e7 := q3.2.2.2.2.2.2.2.2.2.2.2.2.2.2.2.2.2.2) (x := 0) (y := 0) (z := 0) (Or.inl (by decide))
  rw [f4, ob]
  rw [if_pos g4]
  obtain ⟨q5, f5, g5⟩ := d_no (zs := q4.2.1) (c1 := q4.2.2.1) (c2 := q4.2.2.2.1) (c3 := q4.2.2.2.2.1) (d1 := q4.2.2.2.2.2.1) (d2 := q4.2.2.2.2.2.2.1) (d3 := q4.2.2.2.2.2.2.2.1) (d4 := q4.2.2.2.2.2.2.2.2.1) (d5 := q4.2.2.2.2.2.2.2.2.2.1) (d6 := q4.2.2.2.2.2.2.2.2.2.2.1) (d7 := q4.2.2.2.2.2.2.2.2.2.2.2.1) (e1 := q4.2.2.2.2.2.2.2.2.2.2.2.2.1) (e2 := q4.2.2.2.2.2.2.2.2.2.2.2.2.2.1) (e3 := q4.2.2.2.2.2.2.2.2.2.2.2.2.2.2.1) (e4 := q4.2.2.2.2.2.2.2.2.2.2.2.2.2.2.2.1) (e5 := q4.2.2.2.2.2.2.2.2.2.2.2.2.2.2.2.2.1) (e6 := q4.2.2.2.2.2.2.2.2.2.2.2.2.2.2.2.2.2.1) (e7 := q4.2.2.2.2.2.2.2.2.2.2.2.2.2.2.2.2.2.2) (x := 41) (y := 0) (z := 0) (Or.inr (Or.inl (by decide)))
  rw [f5, ob]
  rw [if_pos g5]
  obtain ⟨q6, f6, g6⟩ := d_no (zs := q5.2.1) (c1 := q5.2.2.1) (c2 := q5.2.2.2.1) (c3 := q5.2.2.2.2.1) (d1 := q5.2.2.2.2.2.1) (d2 := q5.2.2.2.2.2.2.1) (d3 := q5.2.2.2.2.2.2.2.1) (d4 := q5.2.2.2.2.2.2.2.2.1) (d5 := q5.2.2.2.2.2.2.2.2.2.1) (d6 := q5.2.2.2.2.2.2.2.2.2.2.1) (d7 := q5.2.2.2.2.2.2.2.2.2.2.2.1) (e1 := q5.2.2.2.2.2.2.2.2.2.2.2.2.1) (e2 := q5.2.2.2.2.2.2.2.2.2.2.2.2.2.1) (e3 := q5.2.2.2.2.2.2.2.2.2.2.2.2.2.2.1) (e4 := q5.2.2.2.2.2.2.2.2.2.2.2.2.2.2.2.1) (e5 := q5.2.2.2.2.2.2.2.2.2.2.2.2.2.2.2.2.1) (e6 := q5.2.2.2.2.2.2.2.2.2.2.2.2.2.2.2.2.2.1) (e7 := q5.2.2.2.2.2.2.2.2.2.2.2.2.2.2.2.2.2.2) (x := 1) (y := (-1)) (z := 0) (Or.inr (Or.inr (Or.inl (by decide))))
  rw [f6, ob]
  rw [if_pos g6]
  obtain ⟨q7, f7, g7⟩ := d_no (zs := q6.2.1) (c1 := q6.2.2.1) (c2 := q6.2.2.2.1) (c3 := q6.2.2.2.2.1) (d1 := q6.2.2.2.2.2.1) (d2 := q6.2.2.2.2.2.2.1) (d3 := q6.2.2.2.2.2.2.2.1) (d4 := q6.2.2.2.2.2.2.2.2.1) (d5 := q6.2.2.2.2.2.2.2.2.2.1) (d6 := q6.2.2.2.2.2.2.2.2.2.2.1) (d7 := q6.2.2.2.2.2.2.2.2.2.2.2.1) (e1 := q6.2.2.2.2.2.2.2.2.2.2.2.2.1) (e2 := q6.2.2.2.2.2.2.2.2.2.2.2.2.2.1) (e3 := q6.2.2.2.2.2.2.2.2.2.2.2.2.2.2.1) (e4 := q6.2.2.2.2.2.2.2.2.2.2.2.2.2.2.2.1) (e5 := q6.2.2.2.2.2.2.2.2.2.2.2.2.2.2.2.2.1) (e6 := q6.2.2.2.2.2.2.2.2.2.2.2.2.2.2.2.2.2.1) (e7 := q6.2.2.2.2.2.2.2.2.2.2.2.2.2.2.2.2.2.2) (x := 1) (y := 1) (z := 4) (Or.inr (Or.inr (Or.inr (Or.inr (by decide)))))
  rw [f7, ob]
  rw [if_pos g7]
  exact ⟨_, rfl, rfl⟩
theorem law_init : INV (fun _ => 0) (fun _ => 0) 0 0 0 0 0 0 0 0 (fun _ _ => 0) := by
  exact ⟨0, ⟨by omega, by omega, rfl, fun k hk => by omega⟩, rfl, rfl, rfl, rfl, rfl, rfl, rfl⟩
