-- OPEN: what the pure side owes
def INV (v_zw v_zd : Nat → Int32) (v_roadCount v_readings v_psize v_good v_pbits v_letters v_afterLetter : Int32) (v_wn : Nat) (v_wv : Nat → Nat → Int32) : Prop := v_wn = 0 ∧ v_roadCount = 0 ∧ v_zd 0 = 0 ∧ v_readings = v_psize ∧ v_zw 0 = 0 ∧ v_good = v_pbits ∧ v_letters = v_afterLetter ∧ v_wv 0 0 = 0
theorem law_does {v_roadCount v_readings v_psize v_good v_pbits v_letters v_afterLetter v_rsize v_cycleCount : Int32} {v_zw v_zd v_zt v_codes : Nat → Int32} {v_wv : Nat → Nat → Int32} {v_wn : Nat} (h : INV v_zw v_zd v_roadCount v_readings v_psize v_good v_pbits v_letters v_afterLetter v_wn v_wv) (x y : Int32) : ∃ r : Int32 × (Nat → Int32) × (Nat → Int32) × (Nat → Int32) × Int32 × Int32 × Int32 × Int32 × Int32 × Int32 × Int32 × (Nat → Int32) × Nat × (Nat → Nat → Int32), P_does v_zw v_zd v_zt v_roadCount v_readings v_psize v_good v_pbits v_letters v_afterLetter v_codes v_rsize v_cycleCount v_wn v_wv x y = some r ∧ r.1 = 1 ∧ INV r.2.1 r.2.2.1 r.2.2.2.2.1 r.2.2.2.2.2.1 r.2.2.2.2.2.2.1 r.2.2.2.2.2.2.2.1 r.2.2.2.2.2.2.2.2.1 r.2.2.2.2.2.2.2.2.2.1 r.2.2.2.2.2.2.2.2.2.2.1 r.2.2.2.2.2.2.2.2.2.2.2.2.1 r.2.2.2.2.2.2.2.2.2.2.2.2.2 := by
  sorry

theorem law_stands {v_roadCount v_readings v_psize v_good v_pbits v_letters v_afterLetter v_rsize v_cycleCount : Int32} {v_zw v_zd v_zt : Nat → Int32} {v_wv : Nat → Nat → Int32} {v_wn : Nat} (h : INV v_zw v_zd v_roadCount v_readings v_psize v_good v_pbits v_letters v_afterLetter v_wn v_wv) : ∃ r : Int32 × (Nat → Int32), P_stands v_zw v_zt v_roadCount v_readings v_psize v_rsize v_cycleCount v_wn v_wv (v_zd 0) = some r ∧ r.1 = 1 := by
  sorry

theorem law_crosses {v_roadCount v_readings v_psize v_good v_pbits v_letters v_afterLetter : Int32} {v_zw v_zd : Nat → Int32} {v_wv : Nat → Nat → Int32} {v_wn : Nat} (h : INV v_zw v_zd v_roadCount v_readings v_psize v_good v_pbits v_letters v_afterLetter v_wn v_wv) : P_crosses v_zw v_roadCount v_wn v_wv (v_zd 0) = some 1 := by
  sorry

theorem law_drawn {v_closed v_traces v_crossings v_db_bits v_db_size v_db_allBits v_db_a v_db_b v_db_c v_db_d v_dn_bits v_dn_size v_dn_allBits v_dn_a v_dn_b v_dn_c v_dn_d : Int32} {v_s : Int64} {v_zt : Nat → Int32} (x y : Int32) : ∃ r : Int32 × (Nat → Int32) × Int64 × Int32 × Int32 × Int32 × Int32 × Int32 × Int32 × Int32 × Int32 × Int32 × Int32 × Int32 × Int32 × Int32 × Int32 × Int32 × Int32 × Int32, P_drawn v_zt v_s v_closed v_traces v_crossings v_db_bits v_db_size v_db_allBits v_db_a v_db_b v_db_c v_db_d v_dn_bits v_dn_size v_dn_allBits v_dn_a v_dn_b v_dn_c v_dn_d (1 + jrem (jushr x 1) 40) (y &&& 2147483647) = some r ∧ r.1 = 1 := by
  sorry

theorem law_init : INV (fun _ => 0) (fun _ => 0) 0 0 0 0 0 0 0 0 (fun _ _ => 0) := by
  sorry
