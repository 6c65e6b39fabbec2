section LC1
variable {p : Program} {l : Launch} {e : Env} {s : State} {m : MethodId} {args : Array Value} {below : List Frame} {meth : Method} {c : Code} {H : Heap} {locs : List Loc} {cells slots : Nat} {Q : State → Prop} {ls : Array Slot} {D : va_G}
variable {b L h5 : Nat} {xs : Nat → Int32} {x3 : Int32} {ad fa ca wad am : Nat → Nat} {cI cR cG cA : ClassId}
variable {v_roadCount : Int32}
variable {v_readings : Int32}
variable {v_psize : Int32}
variable {v_good : Int32}
variable {v_pbits : Int32}
variable {v_letters : Int32}
variable {v_afterLetter : Int32}
variable {v_codes : Nat → Int32}
variable {v_disc : Int32}
variable {v_rsize : Int32}
variable {v_cycleCount : Int32}
variable {v_fo : Nat → Nat → Int32}
variable {v_cy : Nat → Nat → Int32}
variable {v_s : Int64}
variable {v_closed : Int32}
variable {v_traces : Int32}
variable {v_crossings : Int32}
variable {v_db_bits : Int32}
variable {v_db_size : Int32}
variable {v_db_allBits : Int32}
variable {v_db_a : Int32}
variable {v_db_b : Int32}
variable {v_db_c : Int32}
variable {v_db_d : Int32}
variable {v_dn_bits : Int32}
variable {v_dn_size : Int32}
variable {v_dn_allBits : Int32}
variable {v_dn_a : Int32}
variable {v_dn_b : Int32}
variable {v_dn_c : Int32}
variable {v_dn_d : Int32}
variable {v_wn : Nat}
variable {v_wv : Nat → Nat → Int32}
variable {m_pageLength : Int32}
variable {m_page : Nat → Int32}
variable {m_roads : Int32}
variable {m_lengths : Nat → Int32}
variable {m_signs : Nat → Int32}
variable {m_wordsRead : Int32}
variable {m_disc : Int32}
variable {m_forms : Int32}
variable {m_formA : Nat → Int32}
variable {m_formB : Nat → Int32}
variable {m_formC : Nat → Int32}
variable {m_nextOf : Nat → Int32}
variable {m_cycleOf : Nat → Int32}
variable {m_cycles : Int32}
variable {m_firstOf : Nat → Int32}
variable {m_newLength : Int32}
variable {m_newSigns : Nat → Int32}
variable {m_mayRun : Int32}
variable {m_size : Int32}
variable {m_at : Nat → Int32}
variable {m_otherSize : Int32}
variable {m_other : Nat → Int32}
variable {m_tableA : Int32}
variable {m_tableB : Int32}
variable {m_tableC : Int32}
variable {m_tableD : Int32}
variable {m_a : Int32}
variable {m_b : Int32}
variable {m_c : Int32}
variable {m_grade : Int32}
variable {m_flowA : Int32}
variable {m_flowB : Int32}
variable {m_flowC : Int32}
variable {m_seedNow : Int64}
variable {m_h : Int64}
set_option maxHeartbeats 8000000 in
set_option maxRecDepth 100000 in
theorem law_blank (F : LF p m c s b L xs args) (hKx : va_K D vwCl (tyX cI cR cG) s) (hKm : va_K D vwCl [(cA, .int)] s) (hcs2 : cells + 1 ≤ room_1.cells ∧ slots + 7 ≤ room_1.slots) (hl : lv_has ls 4 [(0, .ref b), (1, .ref (ad 0)), (2, .ref h5), (3, .int x3)]) (hI : LI D s H locs ((WX ad fa ca wad cI cR cG v_roadCount v_readings v_psize v_good v_pbits v_letters v_afterLetter v_codes v_disc v_rsize v_cycleCount v_fo v_cy v_s v_closed v_traces v_crossings v_db_bits v_db_size v_db_allBits v_db_a v_db_b v_db_c v_db_d v_dn_bits v_dn_size v_dn_allBits v_dn_a v_dn_b v_dn_c v_dn_d v_wn v_wv) ++ (WM h5 am cA m_pageLength m_page m_roads m_lengths m_signs m_wordsRead m_disc m_forms m_formA m_formB m_formC m_nextOf m_cycleOf m_cycles m_firstOf m_newLength m_newSigns m_mayRun m_size m_at m_otherSize m_other m_tableA m_tableB m_tableC m_tableD m_a m_b m_c m_grade m_flowA m_flowB m_flowC m_seedNow m_h))) (hD : LD s (WX0 ad fa ca wad cI cR cG v_wn) (WM0 h5 am cA)) (hSIM : SIM v_roadCount v_readings v_psize v_good v_pbits v_letters v_afterLetter v_codes v_disc v_rsize v_cycleCount v_fo v_cy v_wn v_wv m_pageLength m_page m_roads m_lengths m_signs m_wordsRead m_disc m_forms m_formA m_formB m_formC m_nextOf m_cycleOf m_cycles m_firstOf m_size)
    (K : ∀ (v_roadCount' : Int32) (v_readings' : Int32) (v_psize' : Int32) (v_good' : Int32) (v_pbits' : Int32) (v_letters' : Int32) (v_afterLetter' : Int32) (v_codes' : Nat → Int32) (v_disc' : Int32) (v_rsize' : Int32) (v_cycleCount' : Int32) (v_fo' : Nat → Nat → Int32) (v_cy' : Nat → Nat → Int32) (v_s' : Int64) (v_closed' : Int32) (v_traces' : Int32) (v_crossings' : Int32) (v_db_bits' : Int32) (v_db_size' : Int32) (v_db_allBits' : Int32) (v_db_a' : Int32) (v_db_b' : Int32) (v_db_c' : Int32) (v_db_d' : Int32) (v_dn_bits' : Int32) (v_dn_size' : Int32) (v_dn_allBits' : Int32) (v_dn_a' : Int32) (v_dn_b' : Int32) (v_dn_c' : Int32) (v_dn_d' : Int32) (v_wn' : Nat) (v_wv' : Nat → Nat → Int32) (m_pageLength' : Int32) (m_page' : Nat → Int32) (m_roads' : Int32) (m_lengths' : Nat → Int32) (m_signs' : Nat → Int32) (m_wordsRead' : Int32) (m_disc' : Int32) (m_forms' : Int32) (m_formA' : Nat → Int32) (m_formB' : Nat → Int32) (m_formC' : Nat → Int32) (m_nextOf' : Nat → Int32) (m_cycleOf' : Nat → Int32) (m_cycles' : Int32) (m_firstOf' : Nat → Int32) (m_newLength' : Int32) (m_newSigns' : Nat → Int32) (m_mayRun' : Int32) (m_size' : Int32) (m_at' : Nat → Int32) (m_otherSize' : Int32) (m_other' : Nat → Int32) (m_tableA' : Int32) (m_tableB' : Int32) (m_tableC' : Int32) (m_tableD' : Int32) (m_a' : Int32) (m_b' : Int32) (m_c' : Int32) (m_grade' : Int32) (m_flowA' : Int32) (m_flowB' : Int32) (m_flowC' : Int32) (m_seedNow' : Int64) (m_h' : Int64) (wad : Nat → Nat) (H : Heap) (locs : List Loc), LI D s H locs ((WX ad fa ca wad cI cR cG (v_roadCount') (v_readings') (v_psize') (v_good') (v_pbits') (v_letters') (v_afterLetter') (v_codes') (v_disc') (v_rsize') (v_cycleCount') (v_fo') (v_cy') (v_s') (v_closed') (v_traces') (v_crossings') (v_db_bits') (v_db_size') (v_db_allBits') (v_db_a') (v_db_b') (v_db_c') (v_db_d') (v_dn_bits') (v_dn_size') (v_dn_allBits') (v_dn_a') (v_dn_b') (v_dn_c') (v_dn_d') (v_wn') (v_wv')) ++ (WM h5 am cA (m_pageLength') (m_page') (m_roads') (m_lengths') (m_signs') (m_wordsRead') (m_disc') (m_forms') (m_formA') (m_formB') (m_formC') (m_nextOf') (m_cycleOf') (m_cycles') (m_firstOf') (m_newLength') (m_newSigns') (m_mayRun') (m_size') (m_at') (m_otherSize') (m_other') (m_tableA') (m_tableB') (m_tableC') (m_tableD') (m_a') (m_b') (m_c') (m_grade') (m_flowA') (m_flowB') (m_flowC') (m_seedNow') (m_h'))) → LD s (WX0 ad fa ca wad cI cR cG (v_wn')) (WM0 h5 am cA) → SIM (v_roadCount') (v_readings') (v_psize') (v_good') (v_pbits') (v_letters') (v_afterLetter') (v_codes') (v_disc') (v_rsize') (v_cycleCount') (v_fo') (v_cy') (v_wn') (v_wv') (m_pageLength') (m_page') (m_roads') (m_lengths') (m_signs') (m_wordsRead') (m_disc') (m_forms') (m_formA') (m_formB') (m_formC') (m_nextOf') (m_cycleOf') (m_cycles') (m_firstOf') (m_size') → W p l e room_1 s m args below meth c H locs (cells + 1) (slots + 7) Q (F0 m 981 ls [])) : W p l e room_1 s m args below meth c H locs cells slots Q (F0 m 183 ls []) := by
  obtain ⟨C, hN, hX, hbl⟩ := F
  have hx := C.1
  have hb := C.2.1
  have hcs : cells ≤ room_1.cells ∧ slots ≤ room_1.slots := ⟨Nat.le_trans (Nat.le_add_right _ _) hcs2.1, Nat.le_trans (Nat.le_add_right _ _) hcs2.2⟩
  have hcs1 : cells + 1 ≤ room_1.cells ∧ slots + 7 ≤ room_1.slots := hcs2
  have hbA : ¬ AL s b := Nat.not_le.mpr hbl
  obtain ⟨a, b2, ha, hb2, hab, hS2⟩ := sim_blank hSIM
  refine lv_aload_n hx hb dL_law_183 rfl (lv_at hl 1 rfl) ?_
  refine jLE_i (wy := WM0 h5 am cA) (rest := []) C (c4_blank ha) gL_law_X4_blank hd4_blank hKx hN hD (by rfl) hI rcX rfl ⟨rfl, rfl⟩ ⟨Nat.le_of_ble_eq_true rfl, Nat.le_of_ble_eq_true rfl⟩ rfl hl.1 rfl (Nat.le_of_ble_eq_true rfl) hcs dL_law_184 (fun H locs hI => ?_)
  refine lv_aload_n hx hb dL_law_187 rfl (lv_at hl 2 rfl) ?_
  refine jRE_i (wy := WX0 ad fa ca wad cI cR cG v_wn) (rest := [.int a.1]) C (c5_blank hb2) gL_law_X5_blank hd5_blank hKm hN hD (by exact WX_map) hI rcM rfl ⟨rfl, rfl⟩ ⟨Nat.le_of_ble_eq_true rfl, Nat.le_of_ble_eq_true rfl⟩ rfl hl.1 rfl (Nat.le_of_ble_eq_true rfl) hcs dL_law_188 (fun H locs hI => ?_)
  refine lv_icmp_eq (tgt := 981) hx hb dL_law_191 rfl (fun _ => ?_) (fun c => absurd hab c)
  refine W.widen (k := cells + 1) (n := slots + 7) (Nat.le_add_right _ _) (Nat.le_add_right _ _) ?_
  exact K _ _ _ _ _ _ _ _ _ _ _ _ _ _ _ _ _ _ _ _ _ _ _ _ _ _ _ _ _ _ _ _ _ _ _ _ _ _ _ _ _ _ _ _ _ _ _ _ _ _ _ _ _ _ _ _ _ _ _ _ _ _ _ _ _ _ _ _ _ _ _ hI hD (hS2)
set_option maxHeartbeats 8000000 in
set_option maxRecDepth 100000 in
theorem law_word (F : LF p m c s b L xs args) (hKx : va_K D vwCl (tyX cI cR cG) s) (hKm : va_K D vwCl [(cA, .int)] s) (hcs2 : cells + 1 ≤ room_1.cells ∧ slots + 7 ≤ room_1.slots) (hl : lv_has ls 4 [(0, .ref b), (1, .ref (ad 0)), (2, .ref h5), (3, .int x3)]) (hI : LI D s H locs ((WX ad fa ca wad cI cR cG v_roadCount v_readings v_psize v_good v_pbits v_letters v_afterLetter v_codes v_disc v_rsize v_cycleCount v_fo v_cy v_s v_closed v_traces v_crossings v_db_bits v_db_size v_db_allBits v_db_a v_db_b v_db_c v_db_d v_dn_bits v_dn_size v_dn_allBits v_dn_a v_dn_b v_dn_c v_dn_d v_wn v_wv) ++ (WM h5 am cA m_pageLength m_page m_roads m_lengths m_signs m_wordsRead m_disc m_forms m_formA m_formB m_formC m_nextOf m_cycleOf m_cycles m_firstOf m_newLength m_newSigns m_mayRun m_size m_at m_otherSize m_other m_tableA m_tableB m_tableC m_tableD m_a m_b m_c m_grade m_flowA m_flowB m_flowC m_seedNow m_h))) (hD : LD s (WX0 ad fa ca wad cI cR cG v_wn) (WM0 h5 am cA)) (hSIM : SIM v_roadCount v_readings v_psize v_good v_pbits v_letters v_afterLetter v_codes v_disc v_rsize v_cycleCount v_fo v_cy v_wn v_wv m_pageLength m_page m_roads m_lengths m_signs m_wordsRead m_disc m_forms m_formA m_formB m_formC m_nextOf m_cycleOf m_cycles m_firstOf m_size)
    (K : ∀ (v_roadCount' : Int32) (v_readings' : Int32) (v_psize' : Int32) (v_good' : Int32) (v_pbits' : Int32) (v_letters' : Int32) (v_afterLetter' : Int32) (v_codes' : Nat → Int32) (v_disc' : Int32) (v_rsize' : Int32) (v_cycleCount' : Int32) (v_fo' : Nat → Nat → Int32) (v_cy' : Nat → Nat → Int32) (v_s' : Int64) (v_closed' : Int32) (v_traces' : Int32) (v_crossings' : Int32) (v_db_bits' : Int32) (v_db_size' : Int32) (v_db_allBits' : Int32) (v_db_a' : Int32) (v_db_b' : Int32) (v_db_c' : Int32) (v_db_d' : Int32) (v_dn_bits' : Int32) (v_dn_size' : Int32) (v_dn_allBits' : Int32) (v_dn_a' : Int32) (v_dn_b' : Int32) (v_dn_c' : Int32) (v_dn_d' : Int32) (v_wn' : Nat) (v_wv' : Nat → Nat → Int32) (m_pageLength' : Int32) (m_page' : Nat → Int32) (m_roads' : Int32) (m_lengths' : Nat → Int32) (m_signs' : Nat → Int32) (m_wordsRead' : Int32) (m_disc' : Int32) (m_forms' : Int32) (m_formA' : Nat → Int32) (m_formB' : Nat → Int32) (m_formC' : Nat → Int32) (m_nextOf' : Nat → Int32) (m_cycleOf' : Nat → Int32) (m_cycles' : Int32) (m_firstOf' : Nat → Int32) (m_newLength' : Int32) (m_newSigns' : Nat → Int32) (m_mayRun' : Int32) (m_size' : Int32) (m_at' : Nat → Int32) (m_otherSize' : Int32) (m_other' : Nat → Int32) (m_tableA' : Int32) (m_tableB' : Int32) (m_tableC' : Int32) (m_tableD' : Int32) (m_a' : Int32) (m_b' : Int32) (m_c' : Int32) (m_grade' : Int32) (m_flowA' : Int32) (m_flowB' : Int32) (m_flowC' : Int32) (m_seedNow' : Int64) (m_h' : Int64) (wad : Nat → Nat) (H : Heap) (locs : List Loc), LI D s H locs ((WX ad fa ca wad cI cR cG (v_roadCount') (v_readings') (v_psize') (v_good') (v_pbits') (v_letters') (v_afterLetter') (v_codes') (v_disc') (v_rsize') (v_cycleCount') (v_fo') (v_cy') (v_s') (v_closed') (v_traces') (v_crossings') (v_db_bits') (v_db_size') (v_db_allBits') (v_db_a') (v_db_b') (v_db_c') (v_db_d') (v_dn_bits') (v_dn_size') (v_dn_allBits') (v_dn_a') (v_dn_b') (v_dn_c') (v_dn_d') (v_wn') (v_wv')) ++ (WM h5 am cA (m_pageLength') (m_page') (m_roads') (m_lengths') (m_signs') (m_wordsRead') (m_disc') (m_forms') (m_formA') (m_formB') (m_formC') (m_nextOf') (m_cycleOf') (m_cycles') (m_firstOf') (m_newLength') (m_newSigns') (m_mayRun') (m_size') (m_at') (m_otherSize') (m_other') (m_tableA') (m_tableB') (m_tableC') (m_tableD') (m_a') (m_b') (m_c') (m_grade') (m_flowA') (m_flowB') (m_flowC') (m_seedNow') (m_h'))) → LD s (WX0 ad fa ca wad cI cR cG (v_wn')) (WM0 h5 am cA) → SIM (v_roadCount') (v_readings') (v_psize') (v_good') (v_pbits') (v_letters') (v_afterLetter') (v_codes') (v_disc') (v_rsize') (v_cycleCount') (v_fo') (v_cy') (v_wn') (v_wv') (m_pageLength') (m_page') (m_roads') (m_lengths') (m_signs') (m_wordsRead') (m_disc') (m_forms') (m_formA') (m_formB') (m_formC') (m_nextOf') (m_cycleOf') (m_cycles') (m_firstOf') (m_size') → W p l e room_1 s m args below meth c H locs (cells + 1) (slots + 7) Q (F0 m 981 ls [])) : W p l e room_1 s m args below meth c H locs cells slots Q (F0 m 209 ls []) := by
  obtain ⟨C, hN, hX, hbl⟩ := F
  have hx := C.1
  have hb := C.2.1
  have hcs : cells ≤ room_1.cells ∧ slots ≤ room_1.slots := ⟨Nat.le_trans (Nat.le_add_right _ _) hcs2.1, Nat.le_trans (Nat.le_add_right _ _) hcs2.2⟩
  have hcs1 : cells + 1 ≤ room_1.cells ∧ slots + 7 ≤ room_1.slots := hcs2
  have hbA : ¬ AL s b := Nat.not_le.mpr hbl
  obtain ⟨a, b2, ha, hb2, hab, hS2⟩ := sim_word hSIM
  refine lv_aload_n hx hb dL_law_209 rfl (lv_at hl 1 rfl) ?_
  refine jLG_i (wy := WM0 h5 am cA) (rest := []) C (c4_word ha) gL_law_X4_word hd4_word hKx hN hD (by rfl) hI rcX rfl ⟨rfl, rfl⟩ ⟨Nat.le_of_ble_eq_true rfl, Nat.le_of_ble_eq_true rfl⟩ rfl hl.1 rfl (Nat.le_of_ble_eq_true rfl) hcs2 dL_law_210 (fun wad H locs hD hI => ?_)
  refine lv_aload_n hx hb dL_law_213 rfl (lv_at hl 2 rfl) ?_
  refine jRE_i (wy := WX0 ad fa ca wad cI cR cG a.2.2.2.2.2.2.2.2.1) (rest := [.int a.1]) C (c5_word hb2) gL_law_X5_word hd5_word hKm hN hD (by exact WX_map) hI rcM rfl ⟨rfl, rfl⟩ ⟨Nat.le_of_ble_eq_true rfl, Nat.le_of_ble_eq_true rfl⟩ rfl hl.1 rfl (Nat.le_of_ble_eq_true rfl) hcs1 dL_law_214 (fun H locs hI => ?_)
  refine lv_icmp_eq (tgt := 981) hx hb dL_law_217 rfl (fun _ => ?_) (fun c => absurd hab c)
  exact K _ _ _ _ _ _ _ _ _ _ _ _ _ _ _ _ _ _ _ _ _ _ _ _ _ _ _ _ _ _ _ _ _ _ _ _ _ _ _ _ _ _ _ _ _ _ _ _ _ _ _ _ _ _ _ _ _ _ _ _ _ _ _ _ _ _ _ _ _ _ _ hI hD (hS2)
set_option maxHeartbeats 8000000 in
set_option maxRecDepth 100000 in
theorem law_sign (F : LF p m c s b L xs args) (hKx : va_K D vwCl (tyX cI cR cG) s) (hKm : va_K D vwCl [(cA, .int)] s) (hcs2 : cells + 1 ≤ room_1.cells ∧ slots + 7 ≤ room_1.slots) (hi1 : vp_in (x3 + 1) L) (hi2 : vp_in (x3 + 2) L) (hl : lv_has ls 4 [(0, .ref b), (1, .ref (ad 0)), (2, .ref h5), (3, .int x3)]) (hI : LI D s H locs ((WX ad fa ca wad cI cR cG v_roadCount v_readings v_psize v_good v_pbits v_letters v_afterLetter v_codes v_disc v_rsize v_cycleCount v_fo v_cy v_s v_closed v_traces v_crossings v_db_bits v_db_size v_db_allBits v_db_a v_db_b v_db_c v_db_d v_dn_bits v_dn_size v_dn_allBits v_dn_a v_dn_b v_dn_c v_dn_d v_wn v_wv) ++ (WM h5 am cA m_pageLength m_page m_roads m_lengths m_signs m_wordsRead m_disc m_forms m_formA m_formB m_formC m_nextOf m_cycleOf m_cycles m_firstOf m_newLength m_newSigns m_mayRun m_size m_at m_otherSize m_other m_tableA m_tableB m_tableC m_tableD m_a m_b m_c m_grade m_flowA m_flowB m_flowC m_seedNow m_h))) (hD : LD s (WX0 ad fa ca wad cI cR cG v_wn) (WM0 h5 am cA)) (hSIM : SIM v_roadCount v_readings v_psize v_good v_pbits v_letters v_afterLetter v_codes v_disc v_rsize v_cycleCount v_fo v_cy v_wn v_wv m_pageLength m_page m_roads m_lengths m_signs m_wordsRead m_disc m_forms m_formA m_formB m_formC m_nextOf m_cycleOf m_cycles m_firstOf m_size)
    (K : ∀ (v_roadCount' : Int32) (v_readings' : Int32) (v_psize' : Int32) (v_good' : Int32) (v_pbits' : Int32) (v_letters' : Int32) (v_afterLetter' : Int32) (v_codes' : Nat → Int32) (v_disc' : Int32) (v_rsize' : Int32) (v_cycleCount' : Int32) (v_fo' : Nat → Nat → Int32) (v_cy' : Nat → Nat → Int32) (v_s' : Int64) (v_closed' : Int32) (v_traces' : Int32) (v_crossings' : Int32) (v_db_bits' : Int32) (v_db_size' : Int32) (v_db_allBits' : Int32) (v_db_a' : Int32) (v_db_b' : Int32) (v_db_c' : Int32) (v_db_d' : Int32) (v_dn_bits' : Int32) (v_dn_size' : Int32) (v_dn_allBits' : Int32) (v_dn_a' : Int32) (v_dn_b' : Int32) (v_dn_c' : Int32) (v_dn_d' : Int32) (v_wn' : Nat) (v_wv' : Nat → Nat → Int32) (m_pageLength' : Int32) (m_page' : Nat → Int32) (m_roads' : Int32) (m_lengths' : Nat → Int32) (m_signs' : Nat → Int32) (m_wordsRead' : Int32) (m_disc' : Int32) (m_forms' : Int32) (m_formA' : Nat → Int32) (m_formB' : Nat → Int32) (m_formC' : Nat → Int32) (m_nextOf' : Nat → Int32) (m_cycleOf' : Nat → Int32) (m_cycles' : Int32) (m_firstOf' : Nat → Int32) (m_newLength' : Int32) (m_newSigns' : Nat → Int32) (m_mayRun' : Int32) (m_size' : Int32) (m_at' : Nat → Int32) (m_otherSize' : Int32) (m_other' : Nat → Int32) (m_tableA' : Int32) (m_tableB' : Int32) (m_tableC' : Int32) (m_tableD' : Int32) (m_a' : Int32) (m_b' : Int32) (m_c' : Int32) (m_grade' : Int32) (m_flowA' : Int32) (m_flowB' : Int32) (m_flowC' : Int32) (m_seedNow' : Int64) (m_h' : Int64) (wad : Nat → Nat) (H : Heap) (locs : List Loc), LI D s H locs ((WX ad fa ca wad cI cR cG (v_roadCount') (v_readings') (v_psize') (v_good') (v_pbits') (v_letters') (v_afterLetter') (v_codes') (v_disc') (v_rsize') (v_cycleCount') (v_fo') (v_cy') (v_s') (v_closed') (v_traces') (v_crossings') (v_db_bits') (v_db_size') (v_db_allBits') (v_db_a') (v_db_b') (v_db_c') (v_db_d') (v_dn_bits') (v_dn_size') (v_dn_allBits') (v_dn_a') (v_dn_b') (v_dn_c') (v_dn_d') (v_wn') (v_wv')) ++ (WM h5 am cA (m_pageLength') (m_page') (m_roads') (m_lengths') (m_signs') (m_wordsRead') (m_disc') (m_forms') (m_formA') (m_formB') (m_formC') (m_nextOf') (m_cycleOf') (m_cycles') (m_firstOf') (m_newLength') (m_newSigns') (m_mayRun') (m_size') (m_at') (m_otherSize') (m_other') (m_tableA') (m_tableB') (m_tableC') (m_tableD') (m_a') (m_b') (m_c') (m_grade') (m_flowA') (m_flowB') (m_flowC') (m_seedNow') (m_h'))) → LD s (WX0 ad fa ca wad cI cR cG (v_wn')) (WM0 h5 am cA) → SIM (v_roadCount') (v_readings') (v_psize') (v_good') (v_pbits') (v_letters') (v_afterLetter') (v_codes') (v_disc') (v_rsize') (v_cycleCount') (v_fo') (v_cy') (v_wn') (v_wv') (m_pageLength') (m_page') (m_roads') (m_lengths') (m_signs') (m_wordsRead') (m_disc') (m_forms') (m_formA') (m_formB') (m_formC') (m_nextOf') (m_cycleOf') (m_cycles') (m_firstOf') (m_size') → W p l e room_1 s m args below meth c H locs (cells + 1) (slots + 7) Q (F0 m 981 ls [])) : W p l e room_1 s m args below meth c H locs cells slots Q (F0 m 255 ls []) := by
  obtain ⟨C, hN, hX, hbl⟩ := F
  have hx := C.1
  have hb := C.2.1
  have hcs : cells ≤ room_1.cells ∧ slots ≤ room_1.slots := ⟨Nat.le_trans (Nat.le_add_right _ _) hcs2.1, Nat.le_trans (Nat.le_add_right _ _) hcs2.2⟩
  have hcs1 : cells + 1 ≤ room_1.cells ∧ slots + 7 ≤ room_1.slots := hcs2
  have hbA : ¬ AL s b := Nat.not_le.mpr hbl
  obtain ⟨a, b2, ha, hb2, hab, hS2⟩ := sim_sign (xs (x3 + 1).toNatClampNeg) (xs (x3 + 2).toNatClampNeg) hSIM
  refine lv_aload_n hx hb dL_law_255 rfl (lv_at hl 1 rfl) ?_
  refine lv_aload_n hx hb dL_law_256 rfl (lv_at hl 0 rfl) ?_
  refine lv_iload_n hx hb dL_law_257 rfl (lv_at hl 3 rfl) ?_
  refine lv_iconst (v := 1) hx hb dL_law_258 rfl ?_
  refine lv_iadd hx hb dL_law_259 ?_
  refine va_sld hx hb hX hbl hbA hI.2 hi1 dL_law_260 ?_
  refine lv_aload_n hx hb dL_law_261 rfl (lv_at hl 0 rfl) ?_
  refine lv_iload_n hx hb dL_law_262 rfl (lv_at hl 3 rfl) ?_
  refine lv_iconst (v := 2) hx hb dL_law_263 rfl ?_
  refine lv_iadd hx hb dL_law_264 ?_
  refine va_sld hx hb hX hbl hbA hI.2 hi2 dL_law_265 ?_
  refine jVS_i (rest := []) C (c4_sign ha) gL_law_X4_sign hd4_sign hKx hN (P_left hI.1) rcX rfl ⟨rfl, rfl⟩ ⟨Nat.le_of_ble_eq_true rfl, Nat.le_of_ble_eq_true rfl⟩ rfl hl.1 rfl (Nat.le_of_ble_eq_true rfl) hcs dL_law_266 ?_
  refine lv_aload_n hx hb dL_law_269 rfl (lv_at hl 2 rfl) ?_
  refine lv_aload_n hx hb dL_law_270 rfl (lv_at hl 0 rfl) ?_
  refine lv_iload_n hx hb dL_law_271 rfl (lv_at hl 3 rfl) ?_
  refine lv_iconst (v := 1) hx hb dL_law_272 rfl ?_
  refine lv_iadd hx hb dL_law_273 ?_
  refine va_sld hx hb hX hbl hbA hI.2 hi1 dL_law_274 ?_
  refine lv_aload_n hx hb dL_law_275 rfl (lv_at hl 0 rfl) ?_
  refine lv_iload_n hx hb dL_law_276 rfl (lv_at hl 3 rfl) ?_
  refine lv_iconst (v := 2) hx hb dL_law_277 rfl ?_
  refine lv_iadd hx hb dL_law_278 ?_
  refine va_sld hx hb hX hbl hbA hI.2 hi2 dL_law_279 ?_
  refine jVS_i (rest := [.int a]) C (c5_sign hb2) gL_law_X5_sign hd5_sign hKm hN (P_right hI.1) rcM rfl ⟨rfl, rfl⟩ ⟨Nat.le_of_ble_eq_true rfl, Nat.le_of_ble_eq_true rfl⟩ rfl hl.1 rfl (Nat.le_of_ble_eq_true rfl) hcs dL_law_280 ?_
  refine lv_icmp_eq (tgt := 981) hx hb dL_law_283 rfl (fun _ => ?_) (fun c => absurd hab c)
  refine W.widen (k := cells + 1) (n := slots + 7) (Nat.le_add_right _ _) (Nat.le_add_right _ _) ?_
  exact K _ _ _ _ _ _ _ _ _ _ _ _ _ _ _ _ _ _ _ _ _ _ _ _ _ _ _ _ _ _ _ _ _ _ _ _ _ _ _ _ _ _ _ _ _ _ _ _ _ _ _ _ _ _ _ _ _ _ _ _ _ _ _ _ _ _ _ _ _ _ _ hI hD (hS2)
set_option maxHeartbeats 8000000 in
set_option maxRecDepth 100000 in
theorem law_form (F : LF p m c s b L xs args) (hKx : va_K D vwCl (tyX cI cR cG) s) (hKm : va_K D vwCl [(cA, .int)] s) (hcs2 : cells + 1 ≤ room_1.cells ∧ slots + 7 ≤ room_1.slots) (hi1 : vp_in (x3 + 1) L) (hi2 : vp_in (x3 + 2) L) (hl : lv_has ls 4 [(0, .ref b), (1, .ref (ad 0)), (2, .ref h5), (3, .int x3)]) (hI : LI D s H locs ((WX ad fa ca wad cI cR cG v_roadCount v_readings v_psize v_good v_pbits v_letters v_afterLetter v_codes v_disc v_rsize v_cycleCount v_fo v_cy v_s v_closed v_traces v_crossings v_db_bits v_db_size v_db_allBits v_db_a v_db_b v_db_c v_db_d v_dn_bits v_dn_size v_dn_allBits v_dn_a v_dn_b v_dn_c v_dn_d v_wn v_wv) ++ (WM h5 am cA m_pageLength m_page m_roads m_lengths m_signs m_wordsRead m_disc m_forms m_formA m_formB m_formC m_nextOf m_cycleOf m_cycles m_firstOf m_newLength m_newSigns m_mayRun m_size m_at m_otherSize m_other m_tableA m_tableB m_tableC m_tableD m_a m_b m_c m_grade m_flowA m_flowB m_flowC m_seedNow m_h))) (hD : LD s (WX0 ad fa ca wad cI cR cG v_wn) (WM0 h5 am cA)) (hSIM : SIM v_roadCount v_readings v_psize v_good v_pbits v_letters v_afterLetter v_codes v_disc v_rsize v_cycleCount v_fo v_cy v_wn v_wv m_pageLength m_page m_roads m_lengths m_signs m_wordsRead m_disc m_forms m_formA m_formB m_formC m_nextOf m_cycleOf m_cycles m_firstOf m_size)
    (K : ∀ (v_roadCount' : Int32) (v_readings' : Int32) (v_psize' : Int32) (v_good' : Int32) (v_pbits' : Int32) (v_letters' : Int32) (v_afterLetter' : Int32) (v_codes' : Nat → Int32) (v_disc' : Int32) (v_rsize' : Int32) (v_cycleCount' : Int32) (v_fo' : Nat → Nat → Int32) (v_cy' : Nat → Nat → Int32) (v_s' : Int64) (v_closed' : Int32) (v_traces' : Int32) (v_crossings' : Int32) (v_db_bits' : Int32) (v_db_size' : Int32) (v_db_allBits' : Int32) (v_db_a' : Int32) (v_db_b' : Int32) (v_db_c' : Int32) (v_db_d' : Int32) (v_dn_bits' : Int32) (v_dn_size' : Int32) (v_dn_allBits' : Int32) (v_dn_a' : Int32) (v_dn_b' : Int32) (v_dn_c' : Int32) (v_dn_d' : Int32) (v_wn' : Nat) (v_wv' : Nat → Nat → Int32) (m_pageLength' : Int32) (m_page' : Nat → Int32) (m_roads' : Int32) (m_lengths' : Nat → Int32) (m_signs' : Nat → Int32) (m_wordsRead' : Int32) (m_disc' : Int32) (m_forms' : Int32) (m_formA' : Nat → Int32) (m_formB' : Nat → Int32) (m_formC' : Nat → Int32) (m_nextOf' : Nat → Int32) (m_cycleOf' : Nat → Int32) (m_cycles' : Int32) (m_firstOf' : Nat → Int32) (m_newLength' : Int32) (m_newSigns' : Nat → Int32) (m_mayRun' : Int32) (m_size' : Int32) (m_at' : Nat → Int32) (m_otherSize' : Int32) (m_other' : Nat → Int32) (m_tableA' : Int32) (m_tableB' : Int32) (m_tableC' : Int32) (m_tableD' : Int32) (m_a' : Int32) (m_b' : Int32) (m_c' : Int32) (m_grade' : Int32) (m_flowA' : Int32) (m_flowB' : Int32) (m_flowC' : Int32) (m_seedNow' : Int64) (m_h' : Int64) (wad : Nat → Nat) (H : Heap) (locs : List Loc), LI D s H locs ((WX ad fa ca wad cI cR cG (v_roadCount') (v_readings') (v_psize') (v_good') (v_pbits') (v_letters') (v_afterLetter') (v_codes') (v_disc') (v_rsize') (v_cycleCount') (v_fo') (v_cy') (v_s') (v_closed') (v_traces') (v_crossings') (v_db_bits') (v_db_size') (v_db_allBits') (v_db_a') (v_db_b') (v_db_c') (v_db_d') (v_dn_bits') (v_dn_size') (v_dn_allBits') (v_dn_a') (v_dn_b') (v_dn_c') (v_dn_d') (v_wn') (v_wv')) ++ (WM h5 am cA (m_pageLength') (m_page') (m_roads') (m_lengths') (m_signs') (m_wordsRead') (m_disc') (m_forms') (m_formA') (m_formB') (m_formC') (m_nextOf') (m_cycleOf') (m_cycles') (m_firstOf') (m_newLength') (m_newSigns') (m_mayRun') (m_size') (m_at') (m_otherSize') (m_other') (m_tableA') (m_tableB') (m_tableC') (m_tableD') (m_a') (m_b') (m_c') (m_grade') (m_flowA') (m_flowB') (m_flowC') (m_seedNow') (m_h'))) → LD s (WX0 ad fa ca wad cI cR cG (v_wn')) (WM0 h5 am cA) → SIM (v_roadCount') (v_readings') (v_psize') (v_good') (v_pbits') (v_letters') (v_afterLetter') (v_codes') (v_disc') (v_rsize') (v_cycleCount') (v_fo') (v_cy') (v_wn') (v_wv') (m_pageLength') (m_page') (m_roads') (m_lengths') (m_signs') (m_wordsRead') (m_disc') (m_forms') (m_formA') (m_formB') (m_formC') (m_nextOf') (m_cycleOf') (m_cycles') (m_firstOf') (m_size') → W p l e room_1 s m args below meth c H locs (cells + 1) (slots + 7) Q (F0 m 981 ls [])) : W p l e room_1 s m args below meth c H locs cells slots Q (F0 m 321 ls []) := by
  obtain ⟨C, hN, hX, hbl⟩ := F
  have hx := C.1
  have hb := C.2.1
  have hcs : cells ≤ room_1.cells ∧ slots ≤ room_1.slots := ⟨Nat.le_trans (Nat.le_add_right _ _) hcs2.1, Nat.le_trans (Nat.le_add_right _ _) hcs2.2⟩
  have hcs1 : cells + 1 ≤ room_1.cells ∧ slots + 7 ≤ room_1.slots := hcs2
  have hbA : ¬ AL s b := Nat.not_le.mpr hbl
  obtain ⟨a, b2, ha, hb2, hab, hS2⟩ := sim_form (xs (x3 + 1).toNatClampNeg) (xs (x3 + 2).toNatClampNeg) hSIM
  refine lv_aload_n hx hb dL_law_321 rfl (lv_at hl 1 rfl) ?_
  refine lv_aload_n hx hb dL_law_322 rfl (lv_at hl 0 rfl) ?_
  refine lv_iload_n hx hb dL_law_323 rfl (lv_at hl 3 rfl) ?_
  refine lv_iconst (v := 1) hx hb dL_law_324 rfl ?_
  refine lv_iadd hx hb dL_law_325 ?_
  refine va_sld hx hb hX hbl hbA hI.2 hi1 dL_law_326 ?_
  refine lv_aload_n hx hb dL_law_327 rfl (lv_at hl 0 rfl) ?_
  refine lv_iload_n hx hb dL_law_328 rfl (lv_at hl 3 rfl) ?_
  refine lv_iconst (v := 2) hx hb dL_law_329 rfl ?_
  refine lv_iadd hx hb dL_law_330 ?_
  refine va_sld hx hb hX hbl hbA hI.2 hi2 dL_law_331 ?_
  refine jVS_i (rest := []) C (c4_form ha) gL_law_X4_form hd4_form hKx hN (P_left hI.1) rcX rfl ⟨rfl, rfl⟩ ⟨Nat.le_of_ble_eq_true rfl, Nat.le_of_ble_eq_true rfl⟩ rfl hl.1 rfl (Nat.le_of_ble_eq_true rfl) hcs dL_law_332 ?_
  refine lv_aload_n hx hb dL_law_335 rfl (lv_at hl 2 rfl) ?_
  refine lv_aload_n hx hb dL_law_336 rfl (lv_at hl 0 rfl) ?_
  refine lv_iload_n hx hb dL_law_337 rfl (lv_at hl 3 rfl) ?_
  refine lv_iconst (v := 1) hx hb dL_law_338 rfl ?_
  refine lv_iadd hx hb dL_law_339 ?_
  refine va_sld hx hb hX hbl hbA hI.2 hi1 dL_law_340 ?_
  refine lv_aload_n hx hb dL_law_341 rfl (lv_at hl 0 rfl) ?_
  refine lv_iload_n hx hb dL_law_342 rfl (lv_at hl 3 rfl) ?_
  refine lv_iconst (v := 2) hx hb dL_law_343 rfl ?_
  refine lv_iadd hx hb dL_law_344 ?_
  refine va_sld hx hb hX hbl hbA hI.2 hi2 dL_law_345 ?_
  refine jRE_i (wy := WX0 ad fa ca wad cI cR cG v_wn) (rest := [.int a]) C (c5_form hb2) gL_law_X5_form hd5_form hKm hN hD (by exact WX_map) hI rcM rfl ⟨rfl, rfl⟩ ⟨Nat.le_of_ble_eq_true rfl, Nat.le_of_ble_eq_true rfl⟩ rfl hl.1 rfl (Nat.le_of_ble_eq_true rfl) hcs dL_law_346 (fun H locs hI => ?_)
  refine lv_icmp_eq (tgt := 981) hx hb dL_law_349 rfl (fun _ => ?_) (fun c => absurd hab c)
  refine W.widen (k := cells + 1) (n := slots + 7) (Nat.le_add_right _ _) (Nat.le_add_right _ _) ?_
  exact K _ _ _ _ _ _ _ _ _ _ _ _ _ _ _ _ _ _ _ _ _ _ _ _ _ _ _ _ _ _ _ _ _ _ _ _ _ _ _ _ _ _ _ _ _ _ _ _ _ _ _ _ _ _ _ _ _ _ _ _ _ _ _ _ _ _ _ _ _ _ _ hI hD (hS2)
set_option maxHeartbeats 8000000 in
set_option maxRecDepth 100000 in
theorem law_alike (F : LF p m c s b L xs args) (hKx : va_K D vwCl (tyX cI cR cG) s) (hKm : va_K D vwCl [(cA, .int)] s) (hcs2 : cells + 1 ≤ room_1.cells ∧ slots + 7 ≤ room_1.slots) (hi1 : vp_in (x3 + 1) L) (hi2 : vp_in (x3 + 2) L) (hl : lv_has ls 4 [(0, .ref b), (1, .ref (ad 0)), (2, .ref h5), (3, .int x3)]) (hI : LI D s H locs ((WX ad fa ca wad cI cR cG v_roadCount v_readings v_psize v_good v_pbits v_letters v_afterLetter v_codes v_disc v_rsize v_cycleCount v_fo v_cy v_s v_closed v_traces v_crossings v_db_bits v_db_size v_db_allBits v_db_a v_db_b v_db_c v_db_d v_dn_bits v_dn_size v_dn_allBits v_dn_a v_dn_b v_dn_c v_dn_d v_wn v_wv) ++ (WM h5 am cA m_pageLength m_page m_roads m_lengths m_signs m_wordsRead m_disc m_forms m_formA m_formB m_formC m_nextOf m_cycleOf m_cycles m_firstOf m_newLength m_newSigns m_mayRun m_size m_at m_otherSize m_other m_tableA m_tableB m_tableC m_tableD m_a m_b m_c m_grade m_flowA m_flowB m_flowC m_seedNow m_h))) (hD : LD s (WX0 ad fa ca wad cI cR cG v_wn) (WM0 h5 am cA)) (hSIM : SIM v_roadCount v_readings v_psize v_good v_pbits v_letters v_afterLetter v_codes v_disc v_rsize v_cycleCount v_fo v_cy v_wn v_wv m_pageLength m_page m_roads m_lengths m_signs m_wordsRead m_disc m_forms m_formA m_formB m_formC m_nextOf m_cycleOf m_cycles m_firstOf m_size)
    (K : ∀ (v_roadCount' : Int32) (v_readings' : Int32) (v_psize' : Int32) (v_good' : Int32) (v_pbits' : Int32) (v_letters' : Int32) (v_afterLetter' : Int32) (v_codes' : Nat → Int32) (v_disc' : Int32) (v_rsize' : Int32) (v_cycleCount' : Int32) (v_fo' : Nat → Nat → Int32) (v_cy' : Nat → Nat → Int32) (v_s' : Int64) (v_closed' : Int32) (v_traces' : Int32) (v_crossings' : Int32) (v_db_bits' : Int32) (v_db_size' : Int32) (v_db_allBits' : Int32) (v_db_a' : Int32) (v_db_b' : Int32) (v_db_c' : Int32) (v_db_d' : Int32) (v_dn_bits' : Int32) (v_dn_size' : Int32) (v_dn_allBits' : Int32) (v_dn_a' : Int32) (v_dn_b' : Int32) (v_dn_c' : Int32) (v_dn_d' : Int32) (v_wn' : Nat) (v_wv' : Nat → Nat → Int32) (m_pageLength' : Int32) (m_page' : Nat → Int32) (m_roads' : Int32) (m_lengths' : Nat → Int32) (m_signs' : Nat → Int32) (m_wordsRead' : Int32) (m_disc' : Int32) (m_forms' : Int32) (m_formA' : Nat → Int32) (m_formB' : Nat → Int32) (m_formC' : Nat → Int32) (m_nextOf' : Nat → Int32) (m_cycleOf' : Nat → Int32) (m_cycles' : Int32) (m_firstOf' : Nat → Int32) (m_newLength' : Int32) (m_newSigns' : Nat → Int32) (m_mayRun' : Int32) (m_size' : Int32) (m_at' : Nat → Int32) (m_otherSize' : Int32) (m_other' : Nat → Int32) (m_tableA' : Int32) (m_tableB' : Int32) (m_tableC' : Int32) (m_tableD' : Int32) (m_a' : Int32) (m_b' : Int32) (m_c' : Int32) (m_grade' : Int32) (m_flowA' : Int32) (m_flowB' : Int32) (m_flowC' : Int32) (m_seedNow' : Int64) (m_h' : Int64) (wad : Nat → Nat) (H : Heap) (locs : List Loc), LI D s H locs ((WX ad fa ca wad cI cR cG (v_roadCount') (v_readings') (v_psize') (v_good') (v_pbits') (v_letters') (v_afterLetter') (v_codes') (v_disc') (v_rsize') (v_cycleCount') (v_fo') (v_cy') (v_s') (v_closed') (v_traces') (v_crossings') (v_db_bits') (v_db_size') (v_db_allBits') (v_db_a') (v_db_b') (v_db_c') (v_db_d') (v_dn_bits') (v_dn_size') (v_dn_allBits') (v_dn_a') (v_dn_b') (v_dn_c') (v_dn_d') (v_wn') (v_wv')) ++ (WM h5 am cA (m_pageLength') (m_page') (m_roads') (m_lengths') (m_signs') (m_wordsRead') (m_disc') (m_forms') (m_formA') (m_formB') (m_formC') (m_nextOf') (m_cycleOf') (m_cycles') (m_firstOf') (m_newLength') (m_newSigns') (m_mayRun') (m_size') (m_at') (m_otherSize') (m_other') (m_tableA') (m_tableB') (m_tableC') (m_tableD') (m_a') (m_b') (m_c') (m_grade') (m_flowA') (m_flowB') (m_flowC') (m_seedNow') (m_h'))) → LD s (WX0 ad fa ca wad cI cR cG (v_wn')) (WM0 h5 am cA) → SIM (v_roadCount') (v_readings') (v_psize') (v_good') (v_pbits') (v_letters') (v_afterLetter') (v_codes') (v_disc') (v_rsize') (v_cycleCount') (v_fo') (v_cy') (v_wn') (v_wv') (m_pageLength') (m_page') (m_roads') (m_lengths') (m_signs') (m_wordsRead') (m_disc') (m_forms') (m_formA') (m_formB') (m_formC') (m_nextOf') (m_cycleOf') (m_cycles') (m_firstOf') (m_size') → W p l e room_1 s m args below meth c H locs (cells + 1) (slots + 7) Q (F0 m 981 ls [])) : W p l e room_1 s m args below meth c H locs cells slots Q (F0 m 387 ls []) := by
  obtain ⟨C, hN, hX, hbl⟩ := F
  have hx := C.1
  have hb := C.2.1
  have hcs : cells ≤ room_1.cells ∧ slots ≤ room_1.slots := ⟨Nat.le_trans (Nat.le_add_right _ _) hcs2.1, Nat.le_trans (Nat.le_add_right _ _) hcs2.2⟩
  have hcs1 : cells + 1 ≤ room_1.cells ∧ slots + 7 ≤ room_1.slots := hcs2
  have hbA : ¬ AL s b := Nat.not_le.mpr hbl
  obtain ⟨a, b2, ha, hb2, hab, hS2⟩ := sim_alike (xs (x3 + 1).toNatClampNeg) (xs (x3 + 2).toNatClampNeg) hSIM
  refine lv_aload_n hx hb dL_law_387 rfl (lv_at hl 1 rfl) ?_
  refine lv_aload_n hx hb dL_law_388 rfl (lv_at hl 0 rfl) ?_
  refine lv_iload_n hx hb dL_law_389 rfl (lv_at hl 3 rfl) ?_
  refine lv_iconst (v := 1) hx hb dL_law_390 rfl ?_
  refine lv_iadd hx hb dL_law_391 ?_
  refine va_sld hx hb hX hbl hbA hI.2 hi1 dL_law_392 ?_
  refine lv_aload_n hx hb dL_law_393 rfl (lv_at hl 0 rfl) ?_
  refine lv_iload_n hx hb dL_law_394 rfl (lv_at hl 3 rfl) ?_
  refine lv_iconst (v := 2) hx hb dL_law_395 rfl ?_
  refine lv_iadd hx hb dL_law_396 ?_
  refine va_sld hx hb hX hbl hbA hI.2 hi2 dL_law_397 ?_
  refine jVS_i (rest := []) C (c4_alike ha) gL_law_X4_alike hd4_alike hKx hN (P_left hI.1) rcX rfl ⟨rfl, rfl⟩ ⟨Nat.le_of_ble_eq_true rfl, Nat.le_of_ble_eq_true rfl⟩ rfl hl.1 rfl (Nat.le_of_ble_eq_true rfl) hcs dL_law_398 ?_
  refine lv_aload_n hx hb dL_law_401 rfl (lv_at hl 2 rfl) ?_
  refine lv_aload_n hx hb dL_law_402 rfl (lv_at hl 0 rfl) ?_
  refine lv_iload_n hx hb dL_law_403 rfl (lv_at hl 3 rfl) ?_
  refine lv_iconst (v := 1) hx hb dL_law_404 rfl ?_
  refine lv_iadd hx hb dL_law_405 ?_
  refine va_sld hx hb hX hbl hbA hI.2 hi1 dL_law_406 ?_
  refine lv_aload_n hx hb dL_law_407 rfl (lv_at hl 0 rfl) ?_
  refine lv_iload_n hx hb dL_law_408 rfl (lv_at hl 3 rfl) ?_
  refine lv_iconst (v := 2) hx hb dL_law_409 rfl ?_
  refine lv_iadd hx hb dL_law_410 ?_
  refine va_sld hx hb hX hbl hbA hI.2 hi2 dL_law_411 ?_
  refine jRE_i (wy := WX0 ad fa ca wad cI cR cG v_wn) (rest := [.int a]) C (c5_alike hb2) gL_law_X5_alike hd5_alike hKm hN hD (by exact WX_map) hI rcM rfl ⟨rfl, rfl⟩ ⟨Nat.le_of_ble_eq_true rfl, Nat.le_of_ble_eq_true rfl⟩ rfl hl.1 rfl (Nat.le_of_ble_eq_true rfl) hcs dL_law_412 (fun H locs hI => ?_)
  refine lv_icmp_eq (tgt := 981) hx hb dL_law_415 rfl (fun _ => ?_) (fun c => absurd hab c)
  refine W.widen (k := cells + 1) (n := slots + 7) (Nat.le_add_right _ _) (Nat.le_add_right _ _) ?_
  exact K _ _ _ _ _ _ _ _ _ _ _ _ _ _ _ _ _ _ _ _ _ _ _ _ _ _ _ _ _ _ _ _ _ _ _ _ _ _ _ _ _ _ _ _ _ _ _ _ _ _ _ _ _ _ _ _ _ _ _ _ _ _ _ _ _ _ _ _ _ _ _ hI hD (hS2)
set_option maxHeartbeats 8000000 in
set_option maxRecDepth 100000 in
theorem law_turn (F : LF p m c s b L xs args) (hKx : va_K D vwCl (tyX cI cR cG) s) (hKm : va_K D vwCl [(cA, .int)] s) (hcs2 : cells + 1 ≤ room_1.cells ∧ slots + 7 ≤ room_1.slots) (hi1 : vp_in (x3 + 1) L) (hi2 : vp_in (x3 + 2) L) (hl : lv_has ls 4 [(0, .ref b), (1, .ref (ad 0)), (2, .ref h5), (3, .int x3)]) (hI : LI D s H locs ((WX ad fa ca wad cI cR cG v_roadCount v_readings v_psize v_good v_pbits v_letters v_afterLetter v_codes v_disc v_rsize v_cycleCount v_fo v_cy v_s v_closed v_traces v_crossings v_db_bits v_db_size v_db_allBits v_db_a v_db_b v_db_c v_db_d v_dn_bits v_dn_size v_dn_allBits v_dn_a v_dn_b v_dn_c v_dn_d v_wn v_wv) ++ (WM h5 am cA m_pageLength m_page m_roads m_lengths m_signs m_wordsRead m_disc m_forms m_formA m_formB m_formC m_nextOf m_cycleOf m_cycles m_firstOf m_newLength m_newSigns m_mayRun m_size m_at m_otherSize m_other m_tableA m_tableB m_tableC m_tableD m_a m_b m_c m_grade m_flowA m_flowB m_flowC m_seedNow m_h))) (hD : LD s (WX0 ad fa ca wad cI cR cG v_wn) (WM0 h5 am cA)) (hSIM : SIM v_roadCount v_readings v_psize v_good v_pbits v_letters v_afterLetter v_codes v_disc v_rsize v_cycleCount v_fo v_cy v_wn v_wv m_pageLength m_page m_roads m_lengths m_signs m_wordsRead m_disc m_forms m_formA m_formB m_formC m_nextOf m_cycleOf m_cycles m_firstOf m_size)
    (K : ∀ (v_roadCount' : Int32) (v_readings' : Int32) (v_psize' : Int32) (v_good' : Int32) (v_pbits' : Int32) (v_letters' : Int32) (v_afterLetter' : Int32) (v_codes' : Nat → Int32) (v_disc' : Int32) (v_rsize' : Int32) (v_cycleCount' : Int32) (v_fo' : Nat → Nat → Int32) (v_cy' : Nat → Nat → Int32) (v_s' : Int64) (v_closed' : Int32) (v_traces' : Int32) (v_crossings' : Int32) (v_db_bits' : Int32) (v_db_size' : Int32) (v_db_allBits' : Int32) (v_db_a' : Int32) (v_db_b' : Int32) (v_db_c' : Int32) (v_db_d' : Int32) (v_dn_bits' : Int32) (v_dn_size' : Int32) (v_dn_allBits' : Int32) (v_dn_a' : Int32) (v_dn_b' : Int32) (v_dn_c' : Int32) (v_dn_d' : Int32) (v_wn' : Nat) (v_wv' : Nat → Nat → Int32) (m_pageLength' : Int32) (m_page' : Nat → Int32) (m_roads' : Int32) (m_lengths' : Nat → Int32) (m_signs' : Nat → Int32) (m_wordsRead' : Int32) (m_disc' : Int32) (m_forms' : Int32) (m_formA' : Nat → Int32) (m_formB' : Nat → Int32) (m_formC' : Nat → Int32) (m_nextOf' : Nat → Int32) (m_cycleOf' : Nat → Int32) (m_cycles' : Int32) (m_firstOf' : Nat → Int32) (m_newLength' : Int32) (m_newSigns' : Nat → Int32) (m_mayRun' : Int32) (m_size' : Int32) (m_at' : Nat → Int32) (m_otherSize' : Int32) (m_other' : Nat → Int32) (m_tableA' : Int32) (m_tableB' : Int32) (m_tableC' : Int32) (m_tableD' : Int32) (m_a' : Int32) (m_b' : Int32) (m_c' : Int32) (m_grade' : Int32) (m_flowA' : Int32) (m_flowB' : Int32) (m_flowC' : Int32) (m_seedNow' : Int64) (m_h' : Int64) (wad : Nat → Nat) (H : Heap) (locs : List Loc), LI D s H locs ((WX ad fa ca wad cI cR cG (v_roadCount') (v_readings') (v_psize') (v_good') (v_pbits') (v_letters') (v_afterLetter') (v_codes') (v_disc') (v_rsize') (v_cycleCount') (v_fo') (v_cy') (v_s') (v_closed') (v_traces') (v_crossings') (v_db_bits') (v_db_size') (v_db_allBits') (v_db_a') (v_db_b') (v_db_c') (v_db_d') (v_dn_bits') (v_dn_size') (v_dn_allBits') (v_dn_a') (v_dn_b') (v_dn_c') (v_dn_d') (v_wn') (v_wv')) ++ (WM h5 am cA (m_pageLength') (m_page') (m_roads') (m_lengths') (m_signs') (m_wordsRead') (m_disc') (m_forms') (m_formA') (m_formB') (m_formC') (m_nextOf') (m_cycleOf') (m_cycles') (m_firstOf') (m_newLength') (m_newSigns') (m_mayRun') (m_size') (m_at') (m_otherSize') (m_other') (m_tableA') (m_tableB') (m_tableC') (m_tableD') (m_a') (m_b') (m_c') (m_grade') (m_flowA') (m_flowB') (m_flowC') (m_seedNow') (m_h'))) → LD s (WX0 ad fa ca wad cI cR cG (v_wn')) (WM0 h5 am cA) → SIM (v_roadCount') (v_readings') (v_psize') (v_good') (v_pbits') (v_letters') (v_afterLetter') (v_codes') (v_disc') (v_rsize') (v_cycleCount') (v_fo') (v_cy') (v_wn') (v_wv') (m_pageLength') (m_page') (m_roads') (m_lengths') (m_signs') (m_wordsRead') (m_disc') (m_forms') (m_formA') (m_formB') (m_formC') (m_nextOf') (m_cycleOf') (m_cycles') (m_firstOf') (m_size') → W p l e room_1 s m args below meth c H locs (cells + 1) (slots + 7) Q (F0 m 981 ls [])) : W p l e room_1 s m args below meth c H locs cells slots Q (F0 m 453 ls []) := by
  obtain ⟨C, hN, hX, hbl⟩ := F
  have hx := C.1
  have hb := C.2.1
  have hcs : cells ≤ room_1.cells ∧ slots ≤ room_1.slots := ⟨Nat.le_trans (Nat.le_add_right _ _) hcs2.1, Nat.le_trans (Nat.le_add_right _ _) hcs2.2⟩
  have hcs1 : cells + 1 ≤ room_1.cells ∧ slots + 7 ≤ room_1.slots := hcs2
  have hbA : ¬ AL s b := Nat.not_le.mpr hbl
  obtain ⟨a, b2, ha, hb2, hab, hS2⟩ := sim_turn (xs (x3 + 1).toNatClampNeg) (xs (x3 + 2).toNatClampNeg) hSIM
  refine lv_aload_n hx hb dL_law_453 rfl (lv_at hl 1 rfl) ?_
  refine lv_aload_n hx hb dL_law_454 rfl (lv_at hl 0 rfl) ?_
  refine lv_iload_n hx hb dL_law_455 rfl (lv_at hl 3 rfl) ?_
  refine lv_iconst (v := 1) hx hb dL_law_456 rfl ?_
  refine lv_iadd hx hb dL_law_457 ?_
  refine va_sld hx hb hX hbl hbA hI.2 hi1 dL_law_458 ?_
  refine lv_aload_n hx hb dL_law_459 rfl (lv_at hl 0 rfl) ?_
  refine lv_iload_n hx hb dL_law_460 rfl (lv_at hl 3 rfl) ?_
  refine lv_iconst (v := 2) hx hb dL_law_461 rfl ?_
  refine lv_iadd hx hb dL_law_462 ?_
  refine va_sld hx hb hX hbl hbA hI.2 hi2 dL_law_463 ?_
  refine jLE_i (wy := WM0 h5 am cA) (rest := []) C (c4_turn ha) gL_law_X4_turn hd4_turn hKx hN hD (by rfl) hI rcX rfl ⟨rfl, rfl⟩ ⟨Nat.le_of_ble_eq_true rfl, Nat.le_of_ble_eq_true rfl⟩ rfl hl.1 rfl (Nat.le_of_ble_eq_true rfl) hcs dL_law_464 (fun H locs hI => ?_)
  refine lv_aload_n hx hb dL_law_467 rfl (lv_at hl 2 rfl) ?_
  refine lv_aload_n hx hb dL_law_468 rfl (lv_at hl 0 rfl) ?_
  refine lv_iload_n hx hb dL_law_469 rfl (lv_at hl 3 rfl) ?_
  refine lv_iconst (v := 1) hx hb dL_law_470 rfl ?_
  refine lv_iadd hx hb dL_law_471 ?_
  refine va_sld hx hb hX hbl hbA hI.2 hi1 dL_law_472 ?_
  refine lv_aload_n hx hb dL_law_473 rfl (lv_at hl 0 rfl) ?_
  refine lv_iload_n hx hb dL_law_474 rfl (lv_at hl 3 rfl) ?_
  refine lv_iconst (v := 2) hx hb dL_law_475 rfl ?_
  refine lv_iadd hx hb dL_law_476 ?_
  refine va_sld hx hb hX hbl hbA hI.2 hi2 dL_law_477 ?_
  refine jRE_i (wy := WX0 ad fa ca wad cI cR cG v_wn) (rest := [.int a.1]) C (c5_turn hb2) gL_law_X5_turn hd5_turn hKm hN hD (by exact WX_map) hI rcM rfl ⟨rfl, rfl⟩ ⟨Nat.le_of_ble_eq_true rfl, Nat.le_of_ble_eq_true rfl⟩ rfl hl.1 rfl (Nat.le_of_ble_eq_true rfl) hcs dL_law_478 (fun H locs hI => ?_)
  refine lv_icmp_eq (tgt := 981) hx hb dL_law_481 rfl (fun _ => ?_) (fun c => absurd hab c)
  refine W.widen (k := cells + 1) (n := slots + 7) (Nat.le_add_right _ _) (Nat.le_add_right _ _) ?_
  exact K _ _ _ _ _ _ _ _ _ _ _ _ _ _ _ _ _ _ _ _ _ _ _ _ _ _ _ _ _ _ _ _ _ _ _ _ _ _ _ _ _ _ _ _ _ _ _ _ _ _ _ _ _ _ _ _ _ _ _ _ _ _ _ _ _ _ _ _ _ _ _ hI hD (hS2)
set_option maxHeartbeats 8000000 in
set_option maxRecDepth 100000 in
theorem law_join (F : LF p m c s b L xs args) (hKx : va_K D vwCl (tyX cI cR cG) s) (hKm : va_K D vwCl [(cA, .int)] s) (hcs2 : cells + 1 ≤ room_1.cells ∧ slots + 7 ≤ room_1.slots) (hi1 : vp_in (x3 + 1) L) (hi2 : vp_in (x3 + 2) L) (hl : lv_has ls 4 [(0, .ref b), (1, .ref (ad 0)), (2, .ref h5), (3, .int x3)]) (hI : LI D s H locs ((WX ad fa ca wad cI cR cG v_roadCount v_readings v_psize v_good v_pbits v_letters v_afterLetter v_codes v_disc v_rsize v_cycleCount v_fo v_cy v_s v_closed v_traces v_crossings v_db_bits v_db_size v_db_allBits v_db_a v_db_b v_db_c v_db_d v_dn_bits v_dn_size v_dn_allBits v_dn_a v_dn_b v_dn_c v_dn_d v_wn v_wv) ++ (WM h5 am cA m_pageLength m_page m_roads m_lengths m_signs m_wordsRead m_disc m_forms m_formA m_formB m_formC m_nextOf m_cycleOf m_cycles m_firstOf m_newLength m_newSigns m_mayRun m_size m_at m_otherSize m_other m_tableA m_tableB m_tableC m_tableD m_a m_b m_c m_grade m_flowA m_flowB m_flowC m_seedNow m_h))) (hD : LD s (WX0 ad fa ca wad cI cR cG v_wn) (WM0 h5 am cA)) (hSIM : SIM v_roadCount v_readings v_psize v_good v_pbits v_letters v_afterLetter v_codes v_disc v_rsize v_cycleCount v_fo v_cy v_wn v_wv m_pageLength m_page m_roads m_lengths m_signs m_wordsRead m_disc m_forms m_formA m_formB m_formC m_nextOf m_cycleOf m_cycles m_firstOf m_size)
    (K : ∀ (v_roadCount' : Int32) (v_readings' : Int32) (v_psize' : Int32) (v_good' : Int32) (v_pbits' : Int32) (v_letters' : Int32) (v_afterLetter' : Int32) (v_codes' : Nat → Int32) (v_disc' : Int32) (v_rsize' : Int32) (v_cycleCount' : Int32) (v_fo' : Nat → Nat → Int32) (v_cy' : Nat → Nat → Int32) (v_s' : Int64) (v_closed' : Int32) (v_traces' : Int32) (v_crossings' : Int32) (v_db_bits' : Int32) (v_db_size' : Int32) (v_db_allBits' : Int32) (v_db_a' : Int32) (v_db_b' : Int32) (v_db_c' : Int32) (v_db_d' : Int32) (v_dn_bits' : Int32) (v_dn_size' : Int32) (v_dn_allBits' : Int32) (v_dn_a' : Int32) (v_dn_b' : Int32) (v_dn_c' : Int32) (v_dn_d' : Int32) (v_wn' : Nat) (v_wv' : Nat → Nat → Int32) (m_pageLength' : Int32) (m_page' : Nat → Int32) (m_roads' : Int32) (m_lengths' : Nat → Int32) (m_signs' : Nat → Int32) (m_wordsRead' : Int32) (m_disc' : Int32) (m_forms' : Int32) (m_formA' : Nat → Int32) (m_formB' : Nat → Int32) (m_formC' : Nat → Int32) (m_nextOf' : Nat → Int32) (m_cycleOf' : Nat → Int32) (m_cycles' : Int32) (m_firstOf' : Nat → Int32) (m_newLength' : Int32) (m_newSigns' : Nat → Int32) (m_mayRun' : Int32) (m_size' : Int32) (m_at' : Nat → Int32) (m_otherSize' : Int32) (m_other' : Nat → Int32) (m_tableA' : Int32) (m_tableB' : Int32) (m_tableC' : Int32) (m_tableD' : Int32) (m_a' : Int32) (m_b' : Int32) (m_c' : Int32) (m_grade' : Int32) (m_flowA' : Int32) (m_flowB' : Int32) (m_flowC' : Int32) (m_seedNow' : Int64) (m_h' : Int64) (wad : Nat → Nat) (H : Heap) (locs : List Loc), LI D s H locs ((WX ad fa ca wad cI cR cG (v_roadCount') (v_readings') (v_psize') (v_good') (v_pbits') (v_letters') (v_afterLetter') (v_codes') (v_disc') (v_rsize') (v_cycleCount') (v_fo') (v_cy') (v_s') (v_closed') (v_traces') (v_crossings') (v_db_bits') (v_db_size') (v_db_allBits') (v_db_a') (v_db_b') (v_db_c') (v_db_d') (v_dn_bits') (v_dn_size') (v_dn_allBits') (v_dn_a') (v_dn_b') (v_dn_c') (v_dn_d') (v_wn') (v_wv')) ++ (WM h5 am cA (m_pageLength') (m_page') (m_roads') (m_lengths') (m_signs') (m_wordsRead') (m_disc') (m_forms') (m_formA') (m_formB') (m_formC') (m_nextOf') (m_cycleOf') (m_cycles') (m_firstOf') (m_newLength') (m_newSigns') (m_mayRun') (m_size') (m_at') (m_otherSize') (m_other') (m_tableA') (m_tableB') (m_tableC') (m_tableD') (m_a') (m_b') (m_c') (m_grade') (m_flowA') (m_flowB') (m_flowC') (m_seedNow') (m_h'))) → LD s (WX0 ad fa ca wad cI cR cG (v_wn')) (WM0 h5 am cA) → SIM (v_roadCount') (v_readings') (v_psize') (v_good') (v_pbits') (v_letters') (v_afterLetter') (v_codes') (v_disc') (v_rsize') (v_cycleCount') (v_fo') (v_cy') (v_wn') (v_wv') (m_pageLength') (m_page') (m_roads') (m_lengths') (m_signs') (m_wordsRead') (m_disc') (m_forms') (m_formA') (m_formB') (m_formC') (m_nextOf') (m_cycleOf') (m_cycles') (m_firstOf') (m_size') → W p l e room_1 s m args below meth c H locs (cells + 1) (slots + 7) Q (F0 m 981 ls [])) : W p l e room_1 s m args below meth c H locs cells slots Q (F0 m 519 ls []) := by
  obtain ⟨C, hN, hX, hbl⟩ := F
  have hx := C.1
  have hb := C.2.1
  have hcs : cells ≤ room_1.cells ∧ slots ≤ room_1.slots := ⟨Nat.le_trans (Nat.le_add_right _ _) hcs2.1, Nat.le_trans (Nat.le_add_right _ _) hcs2.2⟩
  have hcs1 : cells + 1 ≤ room_1.cells ∧ slots + 7 ≤ room_1.slots := hcs2
  have hbA : ¬ AL s b := Nat.not_le.mpr hbl
  obtain ⟨a, b2, ha, hb2, hab, hS2⟩ := sim_join (xs (x3 + 1).toNatClampNeg) (xs (x3 + 2).toNatClampNeg) hSIM
  refine lv_aload_n hx hb dL_law_519 rfl (lv_at hl 1 rfl) ?_
  refine lv_aload_n hx hb dL_law_520 rfl (lv_at hl 0 rfl) ?_
  refine lv_iload_n hx hb dL_law_521 rfl (lv_at hl 3 rfl) ?_
  refine lv_iconst (v := 1) hx hb dL_law_522 rfl ?_
  refine lv_iadd hx hb dL_law_523 ?_
  refine va_sld hx hb hX hbl hbA hI.2 hi1 dL_law_524 ?_
  refine lv_aload_n hx hb dL_law_525 rfl (lv_at hl 0 rfl) ?_
  refine lv_iload_n hx hb dL_law_526 rfl (lv_at hl 3 rfl) ?_
  refine lv_iconst (v := 2) hx hb dL_law_527 rfl ?_
  refine lv_iadd hx hb dL_law_528 ?_
  refine va_sld hx hb hX hbl hbA hI.2 hi2 dL_law_529 ?_
  refine jLG_i (wy := WM0 h5 am cA) (rest := []) C (c4_join ha) gL_law_X4_join hd4_join hKx hN hD (by rfl) hI rcX rfl ⟨rfl, rfl⟩ ⟨Nat.le_of_ble_eq_true rfl, Nat.le_of_ble_eq_true rfl⟩ rfl hl.1 rfl (Nat.le_of_ble_eq_true rfl) hcs2 dL_law_530 (fun wad H locs hD hI => ?_)
  refine lv_aload_n hx hb dL_law_533 rfl (lv_at hl 2 rfl) ?_
  refine lv_aload_n hx hb dL_law_534 rfl (lv_at hl 0 rfl) ?_
  refine lv_iload_n hx hb dL_law_535 rfl (lv_at hl 3 rfl) ?_
  refine lv_iconst (v := 1) hx hb dL_law_536 rfl ?_
  refine lv_iadd hx hb dL_law_537 ?_
  refine va_sld hx hb hX hbl hbA hI.2 hi1 dL_law_538 ?_
  refine lv_aload_n hx hb dL_law_539 rfl (lv_at hl 0 rfl) ?_
  refine lv_iload_n hx hb dL_law_540 rfl (lv_at hl 3 rfl) ?_
  refine lv_iconst (v := 2) hx hb dL_law_541 rfl ?_
  refine lv_iadd hx hb dL_law_542 ?_
  refine va_sld hx hb hX hbl hbA hI.2 hi2 dL_law_543 ?_
  refine jRE_i (wy := WX0 ad fa ca wad cI cR cG a.2.2.1) (rest := [.int a.1]) C (c5_join hb2) gL_law_X5_join hd5_join hKm hN hD (by exact WX_map) hI rcM rfl ⟨rfl, rfl⟩ ⟨Nat.le_of_ble_eq_true rfl, Nat.le_of_ble_eq_true rfl⟩ rfl hl.1 rfl (Nat.le_of_ble_eq_true rfl) hcs1 dL_law_544 (fun H locs hI => ?_)
  refine lv_icmp_eq (tgt := 981) hx hb dL_law_547 rfl (fun _ => ?_) (fun c => absurd hab c)
  exact K _ _ _ _ _ _ _ _ _ _ _ _ _ _ _ _ _ _ _ _ _ _ _ _ _ _ _ _ _ _ _ _ _ _ _ _ _ _ _ _ _ _ _ _ _ _ _ _ _ _ _ _ _ _ _ _ _ _ _ _ _ _ _ _ _ _ _ _ _ _ _ hI hD (hS2)
set_option maxHeartbeats 8000000 in
set_option maxRecDepth 100000 in
theorem law_cut (F : LF p m c s b L xs args) (hKx : va_K D vwCl (tyX cI cR cG) s) (hKm : va_K D vwCl [(cA, .int)] s) (hcs2 : cells + 1 ≤ room_1.cells ∧ slots + 7 ≤ room_1.slots) (hi1 : vp_in (x3 + 1) L) (hi2 : vp_in (x3 + 2) L) (hl : lv_has ls 4 [(0, .ref b), (1, .ref (ad 0)), (2, .ref h5), (3, .int x3)]) (hI : LI D s H locs ((WX ad fa ca wad cI cR cG v_roadCount v_readings v_psize v_good v_pbits v_letters v_afterLetter v_codes v_disc v_rsize v_cycleCount v_fo v_cy v_s v_closed v_traces v_crossings v_db_bits v_db_size v_db_allBits v_db_a v_db_b v_db_c v_db_d v_dn_bits v_dn_size v_dn_allBits v_dn_a v_dn_b v_dn_c v_dn_d v_wn v_wv) ++ (WM h5 am cA m_pageLength m_page m_roads m_lengths m_signs m_wordsRead m_disc m_forms m_formA m_formB m_formC m_nextOf m_cycleOf m_cycles m_firstOf m_newLength m_newSigns m_mayRun m_size m_at m_otherSize m_other m_tableA m_tableB m_tableC m_tableD m_a m_b m_c m_grade m_flowA m_flowB m_flowC m_seedNow m_h))) (hD : LD s (WX0 ad fa ca wad cI cR cG v_wn) (WM0 h5 am cA)) (hSIM : SIM v_roadCount v_readings v_psize v_good v_pbits v_letters v_afterLetter v_codes v_disc v_rsize v_cycleCount v_fo v_cy v_wn v_wv m_pageLength m_page m_roads m_lengths m_signs m_wordsRead m_disc m_forms m_formA m_formB m_formC m_nextOf m_cycleOf m_cycles m_firstOf m_size)
    (K : ∀ (v_roadCount' : Int32) (v_readings' : Int32) (v_psize' : Int32) (v_good' : Int32) (v_pbits' : Int32) (v_letters' : Int32) (v_afterLetter' : Int32) (v_codes' : Nat → Int32) (v_disc' : Int32) (v_rsize' : Int32) (v_cycleCount' : Int32) (v_fo' : Nat → Nat → Int32) (v_cy' : Nat → Nat → Int32) (v_s' : Int64) (v_closed' : Int32) (v_traces' : Int32) (v_crossings' : Int32) (v_db_bits' : Int32) (v_db_size' : Int32) (v_db_allBits' : Int32) (v_db_a' : Int32) (v_db_b' : Int32) (v_db_c' : Int32) (v_db_d' : Int32) (v_dn_bits' : Int32) (v_dn_size' : Int32) (v_dn_allBits' : Int32) (v_dn_a' : Int32) (v_dn_b' : Int32) (v_dn_c' : Int32) (v_dn_d' : Int32) (v_wn' : Nat) (v_wv' : Nat → Nat → Int32) (m_pageLength' : Int32) (m_page' : Nat → Int32) (m_roads' : Int32) (m_lengths' : Nat → Int32) (m_signs' : Nat → Int32) (m_wordsRead' : Int32) (m_disc' : Int32) (m_forms' : Int32) (m_formA' : Nat → Int32) (m_formB' : Nat → Int32) (m_formC' : Nat → Int32) (m_nextOf' : Nat → Int32) (m_cycleOf' : Nat → Int32) (m_cycles' : Int32) (m_firstOf' : Nat → Int32) (m_newLength' : Int32) (m_newSigns' : Nat → Int32) (m_mayRun' : Int32) (m_size' : Int32) (m_at' : Nat → Int32) (m_otherSize' : Int32) (m_other' : Nat → Int32) (m_tableA' : Int32) (m_tableB' : Int32) (m_tableC' : Int32) (m_tableD' : Int32) (m_a' : Int32) (m_b' : Int32) (m_c' : Int32) (m_grade' : Int32) (m_flowA' : Int32) (m_flowB' : Int32) (m_flowC' : Int32) (m_seedNow' : Int64) (m_h' : Int64) (wad : Nat → Nat) (H : Heap) (locs : List Loc), LI D s H locs ((WX ad fa ca wad cI cR cG (v_roadCount') (v_readings') (v_psize') (v_good') (v_pbits') (v_letters') (v_afterLetter') (v_codes') (v_disc') (v_rsize') (v_cycleCount') (v_fo') (v_cy') (v_s') (v_closed') (v_traces') (v_crossings') (v_db_bits') (v_db_size') (v_db_allBits') (v_db_a') (v_db_b') (v_db_c') (v_db_d') (v_dn_bits') (v_dn_size') (v_dn_allBits') (v_dn_a') (v_dn_b') (v_dn_c') (v_dn_d') (v_wn') (v_wv')) ++ (WM h5 am cA (m_pageLength') (m_page') (m_roads') (m_lengths') (m_signs') (m_wordsRead') (m_disc') (m_forms') (m_formA') (m_formB') (m_formC') (m_nextOf') (m_cycleOf') (m_cycles') (m_firstOf') (m_newLength') (m_newSigns') (m_mayRun') (m_size') (m_at') (m_otherSize') (m_other') (m_tableA') (m_tableB') (m_tableC') (m_tableD') (m_a') (m_b') (m_c') (m_grade') (m_flowA') (m_flowB') (m_flowC') (m_seedNow') (m_h'))) → LD s (WX0 ad fa ca wad cI cR cG (v_wn')) (WM0 h5 am cA) → SIM (v_roadCount') (v_readings') (v_psize') (v_good') (v_pbits') (v_letters') (v_afterLetter') (v_codes') (v_disc') (v_rsize') (v_cycleCount') (v_fo') (v_cy') (v_wn') (v_wv') (m_pageLength') (m_page') (m_roads') (m_lengths') (m_signs') (m_wordsRead') (m_disc') (m_forms') (m_formA') (m_formB') (m_formC') (m_nextOf') (m_cycleOf') (m_cycles') (m_firstOf') (m_size') → W p l e room_1 s m args below meth c H locs (cells + 1) (slots + 7) Q (F0 m 981 ls [])) : W p l e room_1 s m args below meth c H locs cells slots Q (F0 m 585 ls []) := by
  obtain ⟨C, hN, hX, hbl⟩ := F
  have hx := C.1
  have hb := C.2.1
  have hcs : cells ≤ room_1.cells ∧ slots ≤ room_1.slots := ⟨Nat.le_trans (Nat.le_add_right _ _) hcs2.1, Nat.le_trans (Nat.le_add_right _ _) hcs2.2⟩
  have hcs1 : cells + 1 ≤ room_1.cells ∧ slots + 7 ≤ room_1.slots := hcs2
  have hbA : ¬ AL s b := Nat.not_le.mpr hbl
  obtain ⟨a, b2, ha, hb2, hab, hS2⟩ := sim_cut (xs (x3 + 1).toNatClampNeg) (xs (x3 + 2).toNatClampNeg) hSIM
  refine lv_aload_n hx hb dL_law_585 rfl (lv_at hl 1 rfl) ?_
  refine lv_aload_n hx hb dL_law_586 rfl (lv_at hl 0 rfl) ?_
  refine lv_iload_n hx hb dL_law_587 rfl (lv_at hl 3 rfl) ?_
  refine lv_iconst (v := 1) hx hb dL_law_588 rfl ?_
  refine lv_iadd hx hb dL_law_589 ?_
  refine va_sld hx hb hX hbl hbA hI.2 hi1 dL_law_590 ?_
  refine lv_aload_n hx hb dL_law_591 rfl (lv_at hl 0 rfl) ?_
  refine lv_iload_n hx hb dL_law_592 rfl (lv_at hl 3 rfl) ?_
  refine lv_iconst (v := 2) hx hb dL_law_593 rfl ?_
  refine lv_iadd hx hb dL_law_594 ?_
  refine va_sld hx hb hX hbl hbA hI.2 hi2 dL_law_595 ?_
  refine jLG_i (wy := WM0 h5 am cA) (rest := []) C (c4_cut ha) gL_law_X4_cut hd4_cut hKx hN hD (by rfl) hI rcX rfl ⟨rfl, rfl⟩ ⟨Nat.le_of_ble_eq_true rfl, Nat.le_of_ble_eq_true rfl⟩ rfl hl.1 rfl (Nat.le_of_ble_eq_true rfl) hcs2 dL_law_596 (fun wad H locs hD hI => ?_)
  refine lv_aload_n hx hb dL_law_599 rfl (lv_at hl 2 rfl) ?_
  refine lv_aload_n hx hb dL_law_600 rfl (lv_at hl 0 rfl) ?_
  refine lv_iload_n hx hb dL_law_601 rfl (lv_at hl 3 rfl) ?_
  refine lv_iconst (v := 1) hx hb dL_law_602 rfl ?_
  refine lv_iadd hx hb dL_law_603 ?_
  refine va_sld hx hb hX hbl hbA hI.2 hi1 dL_law_604 ?_
  refine lv_aload_n hx hb dL_law_605 rfl (lv_at hl 0 rfl) ?_
  refine lv_iload_n hx hb dL_law_606 rfl (lv_at hl 3 rfl) ?_
  refine lv_iconst (v := 2) hx hb dL_law_607 rfl ?_
  refine lv_iadd hx hb dL_law_608 ?_
  refine va_sld hx hb hX hbl hbA hI.2 hi2 dL_law_609 ?_
  refine jRE_i (wy := WX0 ad fa ca wad cI cR cG a.2.2.1) (rest := [.int a.1]) C (c5_cut hb2) gL_law_X5_cut hd5_cut hKm hN hD (by exact WX_map) hI rcM rfl ⟨rfl, rfl⟩ ⟨Nat.le_of_ble_eq_true rfl, Nat.le_of_ble_eq_true rfl⟩ rfl hl.1 rfl (Nat.le_of_ble_eq_true rfl) hcs1 dL_law_610 (fun H locs hI => ?_)
  refine lv_icmp_eq (tgt := 981) hx hb dL_law_613 rfl (fun _ => ?_) (fun c => absurd hab c)
  exact K _ _ _ _ _ _ _ _ _ _ _ _ _ _ _ _ _ _ _ _ _ _ _ _ _ _ _ _ _ _ _ _ _ _ _ _ _ _ _ _ _ _ _ _ _ _ _ _ _ _ _ _ _ _ _ _ _ _ _ _ _ _ _ _ _ _ _ _ _ _ _ hI hD (hS2)
set_option maxHeartbeats 8000000 in
set_option maxRecDepth 100000 in
theorem law_river (F : LF p m c s b L xs args) (hKx : va_K D vwCl (tyX cI cR cG) s) (hKm : va_K D vwCl [(cA, .int)] s) (hcs2 : cells + 1 ≤ room_1.cells ∧ slots + 7 ≤ room_1.slots) (hi1 : vp_in (x3 + 1) L) (hl : lv_has ls 4 [(0, .ref b), (1, .ref (ad 0)), (2, .ref h5), (3, .int x3)]) (hI : LI D s H locs ((WX ad fa ca wad cI cR cG v_roadCount v_readings v_psize v_good v_pbits v_letters v_afterLetter v_codes v_disc v_rsize v_cycleCount v_fo v_cy v_s v_closed v_traces v_crossings v_db_bits v_db_size v_db_allBits v_db_a v_db_b v_db_c v_db_d v_dn_bits v_dn_size v_dn_allBits v_dn_a v_dn_b v_dn_c v_dn_d v_wn v_wv) ++ (WM h5 am cA m_pageLength m_page m_roads m_lengths m_signs m_wordsRead m_disc m_forms m_formA m_formB m_formC m_nextOf m_cycleOf m_cycles m_firstOf m_newLength m_newSigns m_mayRun m_size m_at m_otherSize m_other m_tableA m_tableB m_tableC m_tableD m_a m_b m_c m_grade m_flowA m_flowB m_flowC m_seedNow m_h))) (hD : LD s (WX0 ad fa ca wad cI cR cG v_wn) (WM0 h5 am cA)) (hSIM : SIM v_roadCount v_readings v_psize v_good v_pbits v_letters v_afterLetter v_codes v_disc v_rsize v_cycleCount v_fo v_cy v_wn v_wv m_pageLength m_page m_roads m_lengths m_signs m_wordsRead m_disc m_forms m_formA m_formB m_formC m_nextOf m_cycleOf m_cycles m_firstOf m_size)
    (K : ∀ (v_roadCount' : Int32) (v_readings' : Int32) (v_psize' : Int32) (v_good' : Int32) (v_pbits' : Int32) (v_letters' : Int32) (v_afterLetter' : Int32) (v_codes' : Nat → Int32) (v_disc' : Int32) (v_rsize' : Int32) (v_cycleCount' : Int32) (v_fo' : Nat → Nat → Int32) (v_cy' : Nat → Nat → Int32) (v_s' : Int64) (v_closed' : Int32) (v_traces' : Int32) (v_crossings' : Int32) (v_db_bits' : Int32) (v_db_size' : Int32) (v_db_allBits' : Int32) (v_db_a' : Int32) (v_db_b' : Int32) (v_db_c' : Int32) (v_db_d' : Int32) (v_dn_bits' : Int32) (v_dn_size' : Int32) (v_dn_allBits' : Int32) (v_dn_a' : Int32) (v_dn_b' : Int32) (v_dn_c' : Int32) (v_dn_d' : Int32) (v_wn' : Nat) (v_wv' : Nat → Nat → Int32) (m_pageLength' : Int32) (m_page' : Nat → Int32) (m_roads' : Int32) (m_lengths' : Nat → Int32) (m_signs' : Nat → Int32) (m_wordsRead' : Int32) (m_disc' : Int32) (m_forms' : Int32) (m_formA' : Nat → Int32) (m_formB' : Nat → Int32) (m_formC' : Nat → Int32) (m_nextOf' : Nat → Int32) (m_cycleOf' : Nat → Int32) (m_cycles' : Int32) (m_firstOf' : Nat → Int32) (m_newLength' : Int32) (m_newSigns' : Nat → Int32) (m_mayRun' : Int32) (m_size' : Int32) (m_at' : Nat → Int32) (m_otherSize' : Int32) (m_other' : Nat → Int32) (m_tableA' : Int32) (m_tableB' : Int32) (m_tableC' : Int32) (m_tableD' : Int32) (m_a' : Int32) (m_b' : Int32) (m_c' : Int32) (m_grade' : Int32) (m_flowA' : Int32) (m_flowB' : Int32) (m_flowC' : Int32) (m_seedNow' : Int64) (m_h' : Int64) (wad : Nat → Nat) (H : Heap) (locs : List Loc), LI D s H locs ((WX ad fa ca wad cI cR cG (v_roadCount') (v_readings') (v_psize') (v_good') (v_pbits') (v_letters') (v_afterLetter') (v_codes') (v_disc') (v_rsize') (v_cycleCount') (v_fo') (v_cy') (v_s') (v_closed') (v_traces') (v_crossings') (v_db_bits') (v_db_size') (v_db_allBits') (v_db_a') (v_db_b') (v_db_c') (v_db_d') (v_dn_bits') (v_dn_size') (v_dn_allBits') (v_dn_a') (v_dn_b') (v_dn_c') (v_dn_d') (v_wn') (v_wv')) ++ (WM h5 am cA (m_pageLength') (m_page') (m_roads') (m_lengths') (m_signs') (m_wordsRead') (m_disc') (m_forms') (m_formA') (m_formB') (m_formC') (m_nextOf') (m_cycleOf') (m_cycles') (m_firstOf') (m_newLength') (m_newSigns') (m_mayRun') (m_size') (m_at') (m_otherSize') (m_other') (m_tableA') (m_tableB') (m_tableC') (m_tableD') (m_a') (m_b') (m_c') (m_grade') (m_flowA') (m_flowB') (m_flowC') (m_seedNow') (m_h'))) → LD s (WX0 ad fa ca wad cI cR cG (v_wn')) (WM0 h5 am cA) → SIM (v_roadCount') (v_readings') (v_psize') (v_good') (v_pbits') (v_letters') (v_afterLetter') (v_codes') (v_disc') (v_rsize') (v_cycleCount') (v_fo') (v_cy') (v_wn') (v_wv') (m_pageLength') (m_page') (m_roads') (m_lengths') (m_signs') (m_wordsRead') (m_disc') (m_forms') (m_formA') (m_formB') (m_formC') (m_nextOf') (m_cycleOf') (m_cycles') (m_firstOf') (m_size') → W p l e room_1 s m args below meth c H locs (cells + 1) (slots + 7) Q (F0 m 981 ls [])) : W p l e room_1 s m args below meth c H locs cells slots Q (F0 m 631 ls []) := by
  obtain ⟨C, hN, hX, hbl⟩ := F
  have hx := C.1
  have hb := C.2.1
  have hcs : cells ≤ room_1.cells ∧ slots ≤ room_1.slots := ⟨Nat.le_trans (Nat.le_add_right _ _) hcs2.1, Nat.le_trans (Nat.le_add_right _ _) hcs2.2⟩
  have hcs1 : cells + 1 ≤ room_1.cells ∧ slots + 7 ≤ room_1.slots := hcs2
  have hbA : ¬ AL s b := Nat.not_le.mpr hbl
  obtain ⟨a, b2, ha, hb2, hab, hS2⟩ := sim_river (xs (x3 + 1).toNatClampNeg) hSIM
  refine lv_aload_n hx hb dL_law_631 rfl (lv_at hl 1 rfl) ?_
  refine lv_aload_n hx hb dL_law_632 rfl (lv_at hl 0 rfl) ?_
  refine lv_iload_n hx hb dL_law_633 rfl (lv_at hl 3 rfl) ?_
  refine lv_iconst (v := 1) hx hb dL_law_634 rfl ?_
  refine lv_iadd hx hb dL_law_635 ?_
  refine va_sld hx hb hX hbl hbA hI.2 hi1 dL_law_636 ?_
  refine jLE_i (wy := WM0 h5 am cA) (rest := []) C (c4_river ha) gL_law_X4_river hd4_river hKx hN hD (by rfl) hI rcX rfl ⟨rfl, rfl⟩ ⟨Nat.le_of_ble_eq_true rfl, Nat.le_of_ble_eq_true rfl⟩ rfl hl.1 rfl (Nat.le_of_ble_eq_true rfl) hcs dL_law_637 (fun H locs hI => ?_)
  refine lv_aload_n hx hb dL_law_640 rfl (lv_at hl 2 rfl) ?_
  refine lv_aload_n hx hb dL_law_641 rfl (lv_at hl 0 rfl) ?_
  refine lv_iload_n hx hb dL_law_642 rfl (lv_at hl 3 rfl) ?_
  refine lv_iconst (v := 1) hx hb dL_law_643 rfl ?_
  refine lv_iadd hx hb dL_law_644 ?_
  refine va_sld hx hb hX hbl hbA hI.2 hi1 dL_law_645 ?_
  refine jRE_i (wy := WX0 ad fa ca wad cI cR cG v_wn) (rest := [.int a.1]) C (c5_river hb2) gL_law_X5_river hd5_river hKm hN hD (by exact WX_map) hI rcM rfl ⟨rfl, rfl⟩ ⟨Nat.le_of_ble_eq_true rfl, Nat.le_of_ble_eq_true rfl⟩ rfl hl.1 rfl (Nat.le_of_ble_eq_true rfl) hcs dL_law_646 (fun H locs hI => ?_)
  refine lv_icmp_eq (tgt := 981) hx hb dL_law_649 rfl (fun _ => ?_) (fun c => absurd hab c)
  refine W.widen (k := cells + 1) (n := slots + 7) (Nat.le_add_right _ _) (Nat.le_add_right _ _) ?_
  exact K _ _ _ _ _ _ _ _ _ _ _ _ _ _ _ _ _ _ _ _ _ _ _ _ _ _ _ _ _ _ _ _ _ _ _ _ _ _ _ _ _ _ _ _ _ _ _ _ _ _ _ _ _ _ _ _ _ _ _ _ _ _ _ _ _ _ _ _ _ _ _ hI hD (hS2)
set_option maxHeartbeats 8000000 in
set_option maxRecDepth 100000 in
theorem law_cycle (F : LF p m c s b L xs args) (hKx : va_K D vwCl (tyX cI cR cG) s) (hKm : va_K D vwCl [(cA, .int)] s) (hcs2 : cells + 1 ≤ room_1.cells ∧ slots + 7 ≤ room_1.slots) (hi1 : vp_in (x3 + 1) L) (hi2 : vp_in (x3 + 2) L) (hl : lv_has ls 4 [(0, .ref b), (1, .ref (ad 0)), (2, .ref h5), (3, .int x3)]) (hI : LI D s H locs ((WX ad fa ca wad cI cR cG v_roadCount v_readings v_psize v_good v_pbits v_letters v_afterLetter v_codes v_disc v_rsize v_cycleCount v_fo v_cy v_s v_closed v_traces v_crossings v_db_bits v_db_size v_db_allBits v_db_a v_db_b v_db_c v_db_d v_dn_bits v_dn_size v_dn_allBits v_dn_a v_dn_b v_dn_c v_dn_d v_wn v_wv) ++ (WM h5 am cA m_pageLength m_page m_roads m_lengths m_signs m_wordsRead m_disc m_forms m_formA m_formB m_formC m_nextOf m_cycleOf m_cycles m_firstOf m_newLength m_newSigns m_mayRun m_size m_at m_otherSize m_other m_tableA m_tableB m_tableC m_tableD m_a m_b m_c m_grade m_flowA m_flowB m_flowC m_seedNow m_h))) (hD : LD s (WX0 ad fa ca wad cI cR cG v_wn) (WM0 h5 am cA)) (hSIM : SIM v_roadCount v_readings v_psize v_good v_pbits v_letters v_afterLetter v_codes v_disc v_rsize v_cycleCount v_fo v_cy v_wn v_wv m_pageLength m_page m_roads m_lengths m_signs m_wordsRead m_disc m_forms m_formA m_formB m_formC m_nextOf m_cycleOf m_cycles m_firstOf m_size)
    (K : ∀ (v_roadCount' : Int32) (v_readings' : Int32) (v_psize' : Int32) (v_good' : Int32) (v_pbits' : Int32) (v_letters' : Int32) (v_afterLetter' : Int32) (v_codes' : Nat → Int32) (v_disc' : Int32) (v_rsize' : Int32) (v_cycleCount' : Int32) (v_fo' : Nat → Nat → Int32) (v_cy' : Nat → Nat → Int32) (v_s' : Int64) (v_closed' : Int32) (v_traces' : Int32) (v_crossings' : Int32) (v_db_bits' : Int32) (v_db_size' : Int32) (v_db_allBits' : Int32) (v_db_a' : Int32) (v_db_b' : Int32) (v_db_c' : Int32) (v_db_d' : Int32) (v_dn_bits' : Int32) (v_dn_size' : Int32) (v_dn_allBits' : Int32) (v_dn_a' : Int32) (v_dn_b' : Int32) (v_dn_c' : Int32) (v_dn_d' : Int32) (v_wn' : Nat) (v_wv' : Nat → Nat → Int32) (m_pageLength' : Int32) (m_page' : Nat → Int32) (m_roads' : Int32) (m_lengths' : Nat → Int32) (m_signs' : Nat → Int32) (m_wordsRead' : Int32) (m_disc' : Int32) (m_forms' : Int32) (m_formA' : Nat → Int32) (m_formB' : Nat → Int32) (m_formC' : Nat → Int32) (m_nextOf' : Nat → Int32) (m_cycleOf' : Nat → Int32) (m_cycles' : Int32) (m_firstOf' : Nat → Int32) (m_newLength' : Int32) (m_newSigns' : Nat → Int32) (m_mayRun' : Int32) (m_size' : Int32) (m_at' : Nat → Int32) (m_otherSize' : Int32) (m_other' : Nat → Int32) (m_tableA' : Int32) (m_tableB' : Int32) (m_tableC' : Int32) (m_tableD' : Int32) (m_a' : Int32) (m_b' : Int32) (m_c' : Int32) (m_grade' : Int32) (m_flowA' : Int32) (m_flowB' : Int32) (m_flowC' : Int32) (m_seedNow' : Int64) (m_h' : Int64) (wad : Nat → Nat) (H : Heap) (locs : List Loc), LI D s H locs ((WX ad fa ca wad cI cR cG (v_roadCount') (v_readings') (v_psize') (v_good') (v_pbits') (v_letters') (v_afterLetter') (v_codes') (v_disc') (v_rsize') (v_cycleCount') (v_fo') (v_cy') (v_s') (v_closed') (v_traces') (v_crossings') (v_db_bits') (v_db_size') (v_db_allBits') (v_db_a') (v_db_b') (v_db_c') (v_db_d') (v_dn_bits') (v_dn_size') (v_dn_allBits') (v_dn_a') (v_dn_b') (v_dn_c') (v_dn_d') (v_wn') (v_wv')) ++ (WM h5 am cA (m_pageLength') (m_page') (m_roads') (m_lengths') (m_signs') (m_wordsRead') (m_disc') (m_forms') (m_formA') (m_formB') (m_formC') (m_nextOf') (m_cycleOf') (m_cycles') (m_firstOf') (m_newLength') (m_newSigns') (m_mayRun') (m_size') (m_at') (m_otherSize') (m_other') (m_tableA') (m_tableB') (m_tableC') (m_tableD') (m_a') (m_b') (m_c') (m_grade') (m_flowA') (m_flowB') (m_flowC') (m_seedNow') (m_h'))) → LD s (WX0 ad fa ca wad cI cR cG (v_wn')) (WM0 h5 am cA) → SIM (v_roadCount') (v_readings') (v_psize') (v_good') (v_pbits') (v_letters') (v_afterLetter') (v_codes') (v_disc') (v_rsize') (v_cycleCount') (v_fo') (v_cy') (v_wn') (v_wv') (m_pageLength') (m_page') (m_roads') (m_lengths') (m_signs') (m_wordsRead') (m_disc') (m_forms') (m_formA') (m_formB') (m_formC') (m_nextOf') (m_cycleOf') (m_cycles') (m_firstOf') (m_size') → W p l e room_1 s m args below meth c H locs (cells + 1) (slots + 7) Q (F0 m 981 ls [])) : W p l e room_1 s m args below meth c H locs cells slots Q (F0 m 687 ls []) := by
  obtain ⟨C, hN, hX, hbl⟩ := F
  have hx := C.1
  have hb := C.2.1
  have hcs : cells ≤ room_1.cells ∧ slots ≤ room_1.slots := ⟨Nat.le_trans (Nat.le_add_right _ _) hcs2.1, Nat.le_trans (Nat.le_add_right _ _) hcs2.2⟩
  have hcs1 : cells + 1 ≤ room_1.cells ∧ slots + 7 ≤ room_1.slots := hcs2
  have hbA : ¬ AL s b := Nat.not_le.mpr hbl
  obtain ⟨a, b2, ha, hb2, hab, hS2⟩ := sim_cycle (xs (x3 + 1).toNatClampNeg) (xs (x3 + 2).toNatClampNeg) hSIM
  refine lv_aload_n hx hb dL_law_687 rfl (lv_at hl 1 rfl) ?_
  refine lv_aload_n hx hb dL_law_688 rfl (lv_at hl 0 rfl) ?_
  refine lv_iload_n hx hb dL_law_689 rfl (lv_at hl 3 rfl) ?_
  refine lv_iconst (v := 1) hx hb dL_law_690 rfl ?_
  refine lv_iadd hx hb dL_law_691 ?_
  refine va_sld hx hb hX hbl hbA hI.2 hi1 dL_law_692 ?_
  refine lv_aload_n hx hb dL_law_693 rfl (lv_at hl 0 rfl) ?_
  refine lv_iload_n hx hb dL_law_694 rfl (lv_at hl 3 rfl) ?_
  refine lv_iconst (v := 2) hx hb dL_law_695 rfl ?_
  refine lv_iadd hx hb dL_law_696 ?_
  refine va_sld hx hb hX hbl hbA hI.2 hi2 dL_law_697 ?_
  refine jVS_i (rest := []) C (c4_cycle ha) gL_law_X4_cycle hd4_cycle hKx hN (P_left hI.1) rcX rfl ⟨rfl, rfl⟩ ⟨Nat.le_of_ble_eq_true rfl, Nat.le_of_ble_eq_true rfl⟩ rfl hl.1 rfl (Nat.le_of_ble_eq_true rfl) hcs dL_law_698 ?_
  refine lv_aload_n hx hb dL_law_701 rfl (lv_at hl 2 rfl) ?_
  refine lv_aload_n hx hb dL_law_702 rfl (lv_at hl 0 rfl) ?_
  refine lv_iload_n hx hb dL_law_703 rfl (lv_at hl 3 rfl) ?_
  refine lv_iconst (v := 1) hx hb dL_law_704 rfl ?_
  refine lv_iadd hx hb dL_law_705 ?_
  refine va_sld hx hb hX hbl hbA hI.2 hi1 dL_law_706 ?_
  refine lv_aload_n hx hb dL_law_707 rfl (lv_at hl 0 rfl) ?_
  refine lv_iload_n hx hb dL_law_708 rfl (lv_at hl 3 rfl) ?_
  refine lv_iconst (v := 2) hx hb dL_law_709 rfl ?_
  refine lv_iadd hx hb dL_law_710 ?_
  refine va_sld hx hb hX hbl hbA hI.2 hi2 dL_law_711 ?_
  refine jVS_i (rest := [.int a]) C (c5_cycle hb2) gL_law_X5_cycle hd5_cycle hKm hN (P_right hI.1) rcM rfl ⟨rfl, rfl⟩ ⟨Nat.le_of_ble_eq_true rfl, Nat.le_of_ble_eq_true rfl⟩ rfl hl.1 rfl (Nat.le_of_ble_eq_true rfl) hcs dL_law_712 ?_
  refine lv_icmp_eq (tgt := 981) hx hb dL_law_715 rfl (fun _ => ?_) (fun c => absurd hab c)
  refine W.widen (k := cells + 1) (n := slots + 7) (Nat.le_add_right _ _) (Nat.le_add_right _ _) ?_
  exact K _ _ _ _ _ _ _ _ _ _ _ _ _ _ _ _ _ _ _ _ _ _ _ _ _ _ _ _ _ _ _ _ _ _ _ _ _ _ _ _ _ _ _ _ _ _ _ _ _ _ _ _ _ _ _ _ _ _ _ _ _ _ _ _ _ _ _ _ _ _ _ hI hD (hS2)
set_option maxHeartbeats 8000000 in
set_option maxRecDepth 100000 in
theorem law_trace (F : LF p m c s b L xs args) (hKx : va_K D vwCl (tyX cI cR cG) s) (hKm : va_K D vwCl [(cA, .int)] s) (hcs2 : cells + 1 ≤ room_1.cells ∧ slots + 7 ≤ room_1.slots) (hi1 : vp_in (x3 + 1) L) (hi2 : vp_in (x3 + 2) L) (hl : lv_has ls 4 [(0, .ref b), (1, .ref (ad 0)), (2, .ref h5), (3, .int x3)]) (hI : LI D s H locs ((WX ad fa ca wad cI cR cG v_roadCount v_readings v_psize v_good v_pbits v_letters v_afterLetter v_codes v_disc v_rsize v_cycleCount v_fo v_cy v_s v_closed v_traces v_crossings v_db_bits v_db_size v_db_allBits v_db_a v_db_b v_db_c v_db_d v_dn_bits v_dn_size v_dn_allBits v_dn_a v_dn_b v_dn_c v_dn_d v_wn v_wv) ++ (WM h5 am cA m_pageLength m_page m_roads m_lengths m_signs m_wordsRead m_disc m_forms m_formA m_formB m_formC m_nextOf m_cycleOf m_cycles m_firstOf m_newLength m_newSigns m_mayRun m_size m_at m_otherSize m_other m_tableA m_tableB m_tableC m_tableD m_a m_b m_c m_grade m_flowA m_flowB m_flowC m_seedNow m_h))) (hD : LD s (WX0 ad fa ca wad cI cR cG v_wn) (WM0 h5 am cA)) (hSIM : SIM v_roadCount v_readings v_psize v_good v_pbits v_letters v_afterLetter v_codes v_disc v_rsize v_cycleCount v_fo v_cy v_wn v_wv m_pageLength m_page m_roads m_lengths m_signs m_wordsRead m_disc m_forms m_formA m_formB m_formC m_nextOf m_cycleOf m_cycles m_firstOf m_size)
    (K : ∀ (v_roadCount' : Int32) (v_readings' : Int32) (v_psize' : Int32) (v_good' : Int32) (v_pbits' : Int32) (v_letters' : Int32) (v_afterLetter' : Int32) (v_codes' : Nat → Int32) (v_disc' : Int32) (v_rsize' : Int32) (v_cycleCount' : Int32) (v_fo' : Nat → Nat → Int32) (v_cy' : Nat → Nat → Int32) (v_s' : Int64) (v_closed' : Int32) (v_traces' : Int32) (v_crossings' : Int32) (v_db_bits' : Int32) (v_db_size' : Int32) (v_db_allBits' : Int32) (v_db_a' : Int32) (v_db_b' : Int32) (v_db_c' : Int32) (v_db_d' : Int32) (v_dn_bits' : Int32) (v_dn_size' : Int32) (v_dn_allBits' : Int32) (v_dn_a' : Int32) (v_dn_b' : Int32) (v_dn_c' : Int32) (v_dn_d' : Int32) (v_wn' : Nat) (v_wv' : Nat → Nat → Int32) (m_pageLength' : Int32) (m_page' : Nat → Int32) (m_roads' : Int32) (m_lengths' : Nat → Int32) (m_signs' : Nat → Int32) (m_wordsRead' : Int32) (m_disc' : Int32) (m_forms' : Int32) (m_formA' : Nat → Int32) (m_formB' : Nat → Int32) (m_formC' : Nat → Int32) (m_nextOf' : Nat → Int32) (m_cycleOf' : Nat → Int32) (m_cycles' : Int32) (m_firstOf' : Nat → Int32) (m_newLength' : Int32) (m_newSigns' : Nat → Int32) (m_mayRun' : Int32) (m_size' : Int32) (m_at' : Nat → Int32) (m_otherSize' : Int32) (m_other' : Nat → Int32) (m_tableA' : Int32) (m_tableB' : Int32) (m_tableC' : Int32) (m_tableD' : Int32) (m_a' : Int32) (m_b' : Int32) (m_c' : Int32) (m_grade' : Int32) (m_flowA' : Int32) (m_flowB' : Int32) (m_flowC' : Int32) (m_seedNow' : Int64) (m_h' : Int64) (wad : Nat → Nat) (H : Heap) (locs : List Loc), LI D s H locs ((WX ad fa ca wad cI cR cG (v_roadCount') (v_readings') (v_psize') (v_good') (v_pbits') (v_letters') (v_afterLetter') (v_codes') (v_disc') (v_rsize') (v_cycleCount') (v_fo') (v_cy') (v_s') (v_closed') (v_traces') (v_crossings') (v_db_bits') (v_db_size') (v_db_allBits') (v_db_a') (v_db_b') (v_db_c') (v_db_d') (v_dn_bits') (v_dn_size') (v_dn_allBits') (v_dn_a') (v_dn_b') (v_dn_c') (v_dn_d') (v_wn') (v_wv')) ++ (WM h5 am cA (m_pageLength') (m_page') (m_roads') (m_lengths') (m_signs') (m_wordsRead') (m_disc') (m_forms') (m_formA') (m_formB') (m_formC') (m_nextOf') (m_cycleOf') (m_cycles') (m_firstOf') (m_newLength') (m_newSigns') (m_mayRun') (m_size') (m_at') (m_otherSize') (m_other') (m_tableA') (m_tableB') (m_tableC') (m_tableD') (m_a') (m_b') (m_c') (m_grade') (m_flowA') (m_flowB') (m_flowC') (m_seedNow') (m_h'))) → LD s (WX0 ad fa ca wad cI cR cG (v_wn')) (WM0 h5 am cA) → SIM (v_roadCount') (v_readings') (v_psize') (v_good') (v_pbits') (v_letters') (v_afterLetter') (v_codes') (v_disc') (v_rsize') (v_cycleCount') (v_fo') (v_cy') (v_wn') (v_wv') (m_pageLength') (m_page') (m_roads') (m_lengths') (m_signs') (m_wordsRead') (m_disc') (m_forms') (m_formA') (m_formB') (m_formC') (m_nextOf') (m_cycleOf') (m_cycles') (m_firstOf') (m_size') → W p l e room_1 s m args below meth c H locs (cells + 1) (slots + 7) Q (F0 m 981 ls [])) : W p l e room_1 s m args below meth c H locs cells slots Q (F0 m 753 ls []) := by
  obtain ⟨C, hN, hX, hbl⟩ := F
  have hx := C.1
  have hb := C.2.1
  have hcs : cells ≤ room_1.cells ∧ slots ≤ room_1.slots := ⟨Nat.le_trans (Nat.le_add_right _ _) hcs2.1, Nat.le_trans (Nat.le_add_right _ _) hcs2.2⟩
  have hcs1 : cells + 1 ≤ room_1.cells ∧ slots + 7 ≤ room_1.slots := hcs2
  have hbA : ¬ AL s b := Nat.not_le.mpr hbl
  obtain ⟨a, b2, ha, hb2, hab, hS2⟩ := sim_trace (xs (x3 + 1).toNatClampNeg) (xs (x3 + 2).toNatClampNeg) hSIM
  refine lv_aload_n hx hb dL_law_753 rfl (lv_at hl 1 rfl) ?_
  refine lv_aload_n hx hb dL_law_754 rfl (lv_at hl 0 rfl) ?_
  refine lv_iload_n hx hb dL_law_755 rfl (lv_at hl 3 rfl) ?_
  refine lv_iconst (v := 1) hx hb dL_law_756 rfl ?_
  refine lv_iadd hx hb dL_law_757 ?_
  refine va_sld hx hb hX hbl hbA hI.2 hi1 dL_law_758 ?_
  refine lv_aload_n hx hb dL_law_759 rfl (lv_at hl 0 rfl) ?_
  refine lv_iload_n hx hb dL_law_760 rfl (lv_at hl 3 rfl) ?_
  refine lv_iconst (v := 2) hx hb dL_law_761 rfl ?_
  refine lv_iadd hx hb dL_law_762 ?_
  refine va_sld hx hb hX hbl hbA hI.2 hi2 dL_law_763 ?_
  refine jVS_i (rest := []) C (c4_trace ha) gL_law_X4_trace hd4_trace hKx hN (P_left hI.1) rcX rfl ⟨rfl, rfl⟩ ⟨Nat.le_of_ble_eq_true rfl, Nat.le_of_ble_eq_true rfl⟩ rfl hl.1 rfl (Nat.le_of_ble_eq_true rfl) hcs dL_law_764 ?_
  refine lv_aload_n hx hb dL_law_767 rfl (lv_at hl 2 rfl) ?_
  refine lv_aload_n hx hb dL_law_768 rfl (lv_at hl 0 rfl) ?_
  refine lv_iload_n hx hb dL_law_769 rfl (lv_at hl 3 rfl) ?_
  refine lv_iconst (v := 1) hx hb dL_law_770 rfl ?_
  refine lv_iadd hx hb dL_law_771 ?_
  refine va_sld hx hb hX hbl hbA hI.2 hi1 dL_law_772 ?_
  refine lv_aload_n hx hb dL_law_773 rfl (lv_at hl 0 rfl) ?_
  refine lv_iload_n hx hb dL_law_774 rfl (lv_at hl 3 rfl) ?_
  refine lv_iconst (v := 2) hx hb dL_law_775 rfl ?_
  refine lv_iadd hx hb dL_law_776 ?_
  refine va_sld hx hb hX hbl hbA hI.2 hi2 dL_law_777 ?_
  refine jVS_i (rest := [.int a]) C (c5_trace hb2) gL_law_X5_trace hd5_trace hKm hN (P_right hI.1) rcM rfl ⟨rfl, rfl⟩ ⟨Nat.le_of_ble_eq_true rfl, Nat.le_of_ble_eq_true rfl⟩ rfl hl.1 rfl (Nat.le_of_ble_eq_true rfl) hcs dL_law_778 ?_
  refine lv_icmp_eq (tgt := 981) hx hb dL_law_781 rfl (fun _ => ?_) (fun c => absurd hab c)
  refine W.widen (k := cells + 1) (n := slots + 7) (Nat.le_add_right _ _) (Nat.le_add_right _ _) ?_
  exact K _ _ _ _ _ _ _ _ _ _ _ _ _ _ _ _ _ _ _ _ _ _ _ _ _ _ _ _ _ _ _ _ _ _ _ _ _ _ _ _ _ _ _ _ _ _ _ _ _ _ _ _ _ _ _ _ _ _ _ _ _ _ _ _ _ _ _ _ _ _ _ hI hD (hS2)
set_option maxHeartbeats 8000000 in
set_option maxRecDepth 100000 in
theorem law_lay (F : LF p m c s b L xs args) (hKx : va_K D vwCl (tyX cI cR cG) s) (hKm : va_K D vwCl [(cA, .int)] s) (hcs2 : cells + 1 ≤ room_1.cells ∧ slots + 7 ≤ room_1.slots) (hi1 : vp_in (x3 + 1) L) (hl : lv_has ls 4 [(0, .ref b), (1, .ref (ad 0)), (2, .ref h5), (3, .int x3)]) (hI : LI D s H locs ((WX ad fa ca wad cI cR cG v_roadCount v_readings v_psize v_good v_pbits v_letters v_afterLetter v_codes v_disc v_rsize v_cycleCount v_fo v_cy v_s v_closed v_traces v_crossings v_db_bits v_db_size v_db_allBits v_db_a v_db_b v_db_c v_db_d v_dn_bits v_dn_size v_dn_allBits v_dn_a v_dn_b v_dn_c v_dn_d v_wn v_wv) ++ (WM h5 am cA m_pageLength m_page m_roads m_lengths m_signs m_wordsRead m_disc m_forms m_formA m_formB m_formC m_nextOf m_cycleOf m_cycles m_firstOf m_newLength m_newSigns m_mayRun m_size m_at m_otherSize m_other m_tableA m_tableB m_tableC m_tableD m_a m_b m_c m_grade m_flowA m_flowB m_flowC m_seedNow m_h))) (hD : LD s (WX0 ad fa ca wad cI cR cG v_wn) (WM0 h5 am cA)) (hSIM : SIM v_roadCount v_readings v_psize v_good v_pbits v_letters v_afterLetter v_codes v_disc v_rsize v_cycleCount v_fo v_cy v_wn v_wv m_pageLength m_page m_roads m_lengths m_signs m_wordsRead m_disc m_forms m_formA m_formB m_formC m_nextOf m_cycleOf m_cycles m_firstOf m_size)
    (K : ∀ (v_roadCount' : Int32) (v_readings' : Int32) (v_psize' : Int32) (v_good' : Int32) (v_pbits' : Int32) (v_letters' : Int32) (v_afterLetter' : Int32) (v_codes' : Nat → Int32) (v_disc' : Int32) (v_rsize' : Int32) (v_cycleCount' : Int32) (v_fo' : Nat → Nat → Int32) (v_cy' : Nat → Nat → Int32) (v_s' : Int64) (v_closed' : Int32) (v_traces' : Int32) (v_crossings' : Int32) (v_db_bits' : Int32) (v_db_size' : Int32) (v_db_allBits' : Int32) (v_db_a' : Int32) (v_db_b' : Int32) (v_db_c' : Int32) (v_db_d' : Int32) (v_dn_bits' : Int32) (v_dn_size' : Int32) (v_dn_allBits' : Int32) (v_dn_a' : Int32) (v_dn_b' : Int32) (v_dn_c' : Int32) (v_dn_d' : Int32) (v_wn' : Nat) (v_wv' : Nat → Nat → Int32) (m_pageLength' : Int32) (m_page' : Nat → Int32) (m_roads' : Int32) (m_lengths' : Nat → Int32) (m_signs' : Nat → Int32) (m_wordsRead' : Int32) (m_disc' : Int32) (m_forms' : Int32) (m_formA' : Nat → Int32) (m_formB' : Nat → Int32) (m_formC' : Nat → Int32) (m_nextOf' : Nat → Int32) (m_cycleOf' : Nat → Int32) (m_cycles' : Int32) (m_firstOf' : Nat → Int32) (m_newLength' : Int32) (m_newSigns' : Nat → Int32) (m_mayRun' : Int32) (m_size' : Int32) (m_at' : Nat → Int32) (m_otherSize' : Int32) (m_other' : Nat → Int32) (m_tableA' : Int32) (m_tableB' : Int32) (m_tableC' : Int32) (m_tableD' : Int32) (m_a' : Int32) (m_b' : Int32) (m_c' : Int32) (m_grade' : Int32) (m_flowA' : Int32) (m_flowB' : Int32) (m_flowC' : Int32) (m_seedNow' : Int64) (m_h' : Int64) (wad : Nat → Nat) (H : Heap) (locs : List Loc), LI D s H locs ((WX ad fa ca wad cI cR cG (v_roadCount') (v_readings') (v_psize') (v_good') (v_pbits') (v_letters') (v_afterLetter') (v_codes') (v_disc') (v_rsize') (v_cycleCount') (v_fo') (v_cy') (v_s') (v_closed') (v_traces') (v_crossings') (v_db_bits') (v_db_size') (v_db_allBits') (v_db_a') (v_db_b') (v_db_c') (v_db_d') (v_dn_bits') (v_dn_size') (v_dn_allBits') (v_dn_a') (v_dn_b') (v_dn_c') (v_dn_d') (v_wn') (v_wv')) ++ (WM h5 am cA (m_pageLength') (m_page') (m_roads') (m_lengths') (m_signs') (m_wordsRead') (m_disc') (m_forms') (m_formA') (m_formB') (m_formC') (m_nextOf') (m_cycleOf') (m_cycles') (m_firstOf') (m_newLength') (m_newSigns') (m_mayRun') (m_size') (m_at') (m_otherSize') (m_other') (m_tableA') (m_tableB') (m_tableC') (m_tableD') (m_a') (m_b') (m_c') (m_grade') (m_flowA') (m_flowB') (m_flowC') (m_seedNow') (m_h'))) → LD s (WX0 ad fa ca wad cI cR cG (v_wn')) (WM0 h5 am cA) → SIM (v_roadCount') (v_readings') (v_psize') (v_good') (v_pbits') (v_letters') (v_afterLetter') (v_codes') (v_disc') (v_rsize') (v_cycleCount') (v_fo') (v_cy') (v_wn') (v_wv') (m_pageLength') (m_page') (m_roads') (m_lengths') (m_signs') (m_wordsRead') (m_disc') (m_forms') (m_formA') (m_formB') (m_formC') (m_nextOf') (m_cycleOf') (m_cycles') (m_firstOf') (m_size') → W p l e room_1 s m args below meth c H locs (cells + 1) (slots + 7) Q (F0 m 981 ls [])) : W p l e room_1 s m args below meth c H locs cells slots Q (F0 m 855 ls []) := by
  obtain ⟨C, hN, hX, hbl⟩ := F
  have hx := C.1
  have hb := C.2.1
  have hcs : cells ≤ room_1.cells ∧ slots ≤ room_1.slots := ⟨Nat.le_trans (Nat.le_add_right _ _) hcs2.1, Nat.le_trans (Nat.le_add_right _ _) hcs2.2⟩
  have hcs1 : cells + 1 ≤ room_1.cells ∧ slots + 7 ≤ room_1.slots := hcs2
  have hbA : ¬ AL s b := Nat.not_le.mpr hbl
  obtain ⟨a, b2, ha, hb2, hab, hS2⟩ := sim_lay (xs (x3 + 1).toNatClampNeg) hSIM
  refine lv_aload_n hx hb dL_law_855 rfl (lv_at hl 1 rfl) ?_
  refine lv_aload_n hx hb dL_law_856 rfl (lv_at hl 0 rfl) ?_
  refine lv_iload_n hx hb dL_law_857 rfl (lv_at hl 3 rfl) ?_
  refine lv_iconst (v := 1) hx hb dL_law_858 rfl ?_
  refine lv_iadd hx hb dL_law_859 ?_
  refine va_sld hx hb hX hbl hbA hI.2 hi1 dL_law_860 ?_
  refine jLG_i (wy := WM0 h5 am cA) (rest := []) C (c4_lay ha) gL_law_X4_lay hd4_lay hKx hN hD (by rfl) hI rcX rfl ⟨rfl, rfl⟩ ⟨Nat.le_of_ble_eq_true rfl, Nat.le_of_ble_eq_true rfl⟩ rfl hl.1 rfl (Nat.le_of_ble_eq_true rfl) hcs2 dL_law_861 (fun wad H locs hD hI => ?_)
  refine lv_aload_n hx hb dL_law_864 rfl (lv_at hl 2 rfl) ?_
  refine lv_aload_n hx hb dL_law_865 rfl (lv_at hl 0 rfl) ?_
  refine lv_iload_n hx hb dL_law_866 rfl (lv_at hl 3 rfl) ?_
  refine lv_iconst (v := 1) hx hb dL_law_867 rfl ?_
  refine lv_iadd hx hb dL_law_868 ?_
  refine va_sld hx hb hX hbl hbA hI.2 hi1 dL_law_869 ?_
  refine jRE_i (wy := WX0 ad fa ca wad cI cR cG a.2.2.1) (rest := [.int a.1]) C (c5_lay hb2) gL_law_X5_lay hd5_lay hKm hN hD (by exact WX_map) hI rcM rfl ⟨rfl, rfl⟩ ⟨Nat.le_of_ble_eq_true rfl, Nat.le_of_ble_eq_true rfl⟩ rfl hl.1 rfl (Nat.le_of_ble_eq_true rfl) hcs1 dL_law_870 (fun H locs hI => ?_)
  refine lv_icmp_eq (tgt := 981) hx hb dL_law_873 rfl (fun _ => ?_) (fun c => absurd hab c)
  exact K _ _ _ _ _ _ _ _ _ _ _ _ _ _ _ _ _ _ _ _ _ _ _ _ _ _ _ _ _ _ _ _ _ _ _ _ _ _ _ _ _ _ _ _ _ _ _ _ _ _ _ _ _ _ _ _ _ _ _ _ _ _ _ _ _ _ _ _ _ _ _ hI hD (hS2)
set_option maxHeartbeats 8000000 in
set_option maxRecDepth 100000 in
theorem law_drawn (F : LF p m c s b L xs args) (hKx : va_K D vwCl (tyX cI cR cG) s) (hKm : va_K D vwCl [(cA, .int)] s) (hcs2 : cells + 1 ≤ room_1.cells ∧ slots + 7 ≤ room_1.slots) (hi1 : vp_in (x3 + 1) L) (hi2 : vp_in (x3 + 2) L) (hi3 : vp_in (x3 + 3) L) (hl : lv_has ls 4 [(0, .ref b), (1, .ref (ad 0)), (2, .ref h5), (3, .int x3)]) (hI : LI D s H locs ((WX ad fa ca wad cI cR cG v_roadCount v_readings v_psize v_good v_pbits v_letters v_afterLetter v_codes v_disc v_rsize v_cycleCount v_fo v_cy v_s v_closed v_traces v_crossings v_db_bits v_db_size v_db_allBits v_db_a v_db_b v_db_c v_db_d v_dn_bits v_dn_size v_dn_allBits v_dn_a v_dn_b v_dn_c v_dn_d v_wn v_wv) ++ (WM h5 am cA m_pageLength m_page m_roads m_lengths m_signs m_wordsRead m_disc m_forms m_formA m_formB m_formC m_nextOf m_cycleOf m_cycles m_firstOf m_newLength m_newSigns m_mayRun m_size m_at m_otherSize m_other m_tableA m_tableB m_tableC m_tableD m_a m_b m_c m_grade m_flowA m_flowB m_flowC m_seedNow m_h))) (hD : LD s (WX0 ad fa ca wad cI cR cG v_wn) (WM0 h5 am cA)) (hSIM : SIM v_roadCount v_readings v_psize v_good v_pbits v_letters v_afterLetter v_codes v_disc v_rsize v_cycleCount v_fo v_cy v_wn v_wv m_pageLength m_page m_roads m_lengths m_signs m_wordsRead m_disc m_forms m_formA m_formB m_formC m_nextOf m_cycleOf m_cycles m_firstOf m_size)
    (K : ∀ (v_roadCount' : Int32) (v_readings' : Int32) (v_psize' : Int32) (v_good' : Int32) (v_pbits' : Int32) (v_letters' : Int32) (v_afterLetter' : Int32) (v_codes' : Nat → Int32) (v_disc' : Int32) (v_rsize' : Int32) (v_cycleCount' : Int32) (v_fo' : Nat → Nat → Int32) (v_cy' : Nat → Nat → Int32) (v_s' : Int64) (v_closed' : Int32) (v_traces' : Int32) (v_crossings' : Int32) (v_db_bits' : Int32) (v_db_size' : Int32) (v_db_allBits' : Int32) (v_db_a' : Int32) (v_db_b' : Int32) (v_db_c' : Int32) (v_db_d' : Int32) (v_dn_bits' : Int32) (v_dn_size' : Int32) (v_dn_allBits' : Int32) (v_dn_a' : Int32) (v_dn_b' : Int32) (v_dn_c' : Int32) (v_dn_d' : Int32) (v_wn' : Nat) (v_wv' : Nat → Nat → Int32) (m_pageLength' : Int32) (m_page' : Nat → Int32) (m_roads' : Int32) (m_lengths' : Nat → Int32) (m_signs' : Nat → Int32) (m_wordsRead' : Int32) (m_disc' : Int32) (m_forms' : Int32) (m_formA' : Nat → Int32) (m_formB' : Nat → Int32) (m_formC' : Nat → Int32) (m_nextOf' : Nat → Int32) (m_cycleOf' : Nat → Int32) (m_cycles' : Int32) (m_firstOf' : Nat → Int32) (m_newLength' : Int32) (m_newSigns' : Nat → Int32) (m_mayRun' : Int32) (m_size' : Int32) (m_at' : Nat → Int32) (m_otherSize' : Int32) (m_other' : Nat → Int32) (m_tableA' : Int32) (m_tableB' : Int32) (m_tableC' : Int32) (m_tableD' : Int32) (m_a' : Int32) (m_b' : Int32) (m_c' : Int32) (m_grade' : Int32) (m_flowA' : Int32) (m_flowB' : Int32) (m_flowC' : Int32) (m_seedNow' : Int64) (m_h' : Int64) (wad : Nat → Nat) (H : Heap) (locs : List Loc), LI D s H locs ((WX ad fa ca wad cI cR cG (v_roadCount') (v_readings') (v_psize') (v_good') (v_pbits') (v_letters') (v_afterLetter') (v_codes') (v_disc') (v_rsize') (v_cycleCount') (v_fo') (v_cy') (v_s') (v_closed') (v_traces') (v_crossings') (v_db_bits') (v_db_size') (v_db_allBits') (v_db_a') (v_db_b') (v_db_c') (v_db_d') (v_dn_bits') (v_dn_size') (v_dn_allBits') (v_dn_a') (v_dn_b') (v_dn_c') (v_dn_d') (v_wn') (v_wv')) ++ (WM h5 am cA (m_pageLength') (m_page') (m_roads') (m_lengths') (m_signs') (m_wordsRead') (m_disc') (m_forms') (m_formA') (m_formB') (m_formC') (m_nextOf') (m_cycleOf') (m_cycles') (m_firstOf') (m_newLength') (m_newSigns') (m_mayRun') (m_size') (m_at') (m_otherSize') (m_other') (m_tableA') (m_tableB') (m_tableC') (m_tableD') (m_a') (m_b') (m_c') (m_grade') (m_flowA') (m_flowB') (m_flowC') (m_seedNow') (m_h'))) → LD s (WX0 ad fa ca wad cI cR cG (v_wn')) (WM0 h5 am cA) → SIM (v_roadCount') (v_readings') (v_psize') (v_good') (v_pbits') (v_letters') (v_afterLetter') (v_codes') (v_disc') (v_rsize') (v_cycleCount') (v_fo') (v_cy') (v_wn') (v_wv') (m_pageLength') (m_page') (m_roads') (m_lengths') (m_signs') (m_wordsRead') (m_disc') (m_forms') (m_formA') (m_formB') (m_formC') (m_nextOf') (m_cycleOf') (m_cycles') (m_firstOf') (m_size') → W p l e room_1 s m args below meth c H locs (cells + 1) (slots + 7) Q (F0 m 981 ls [])) : W p l e room_1 s m args below meth c H locs cells slots Q (F0 m 901 ls []) := by
  obtain ⟨C, hN, hX, hbl⟩ := F
  have hx := C.1
  have hb := C.2.1
  have hcs : cells ≤ room_1.cells ∧ slots ≤ room_1.slots := ⟨Nat.le_trans (Nat.le_add_right _ _) hcs2.1, Nat.le_trans (Nat.le_add_right _ _) hcs2.2⟩
  have hcs1 : cells + 1 ≤ room_1.cells ∧ slots + 7 ≤ room_1.slots := hcs2
  have hbA : ¬ AL s b := Nat.not_le.mpr hbl
  obtain ⟨a, b2, ha, hb2, hab, hS2⟩ := sim_drawn (xs (x3 + 1).toNatClampNeg) (xs (x3 + 2).toNatClampNeg) (xs (x3 + 3).toNatClampNeg) hSIM
  refine lv_aload_n hx hb dL_law_901 rfl (lv_at hl 1 rfl) ?_
  refine lv_aload_n hx hb dL_law_902 rfl (lv_at hl 0 rfl) ?_
  refine lv_iload_n hx hb dL_law_903 rfl (lv_at hl 3 rfl) ?_
  refine lv_iconst (v := 1) hx hb dL_law_904 rfl ?_
  refine lv_iadd hx hb dL_law_905 ?_
  refine va_sld hx hb hX hbl hbA hI.2 hi1 dL_law_906 ?_
  refine lv_aload_n hx hb dL_law_907 rfl (lv_at hl 0 rfl) ?_
  refine lv_iload_n hx hb dL_law_908 rfl (lv_at hl 3 rfl) ?_
  refine lv_iconst (v := 2) hx hb dL_law_909 rfl ?_
  refine lv_iadd hx hb dL_law_910 ?_
  refine va_sld hx hb hX hbl hbA hI.2 hi2 dL_law_911 ?_
  refine lv_aload_n hx hb dL_law_912 rfl (lv_at hl 0 rfl) ?_
  refine lv_iload_n hx hb dL_law_913 rfl (lv_at hl 3 rfl) ?_
  refine lv_iconst (v := 3) hx hb dL_law_914 rfl ?_
  refine lv_iadd hx hb dL_law_915 ?_
  refine va_sld hx hb hX hbl hbA hI.2 hi3 dL_law_916 ?_
  refine jLE_i (wy := WM0 h5 am cA) (rest := []) C (c4_drawn ha) gL_law_X4_drawn hd4_drawn hKx hN hD (by rfl) hI rcX rfl ⟨rfl, rfl⟩ ⟨Nat.le_of_ble_eq_true rfl, Nat.le_of_ble_eq_true rfl⟩ rfl hl.1 rfl (Nat.le_of_ble_eq_true rfl) hcs dL_law_917 (fun H locs hI => ?_)
  refine lv_aload_n hx hb dL_law_920 rfl (lv_at hl 2 rfl) ?_
  refine lv_aload_n hx hb dL_law_921 rfl (lv_at hl 0 rfl) ?_
  refine lv_iload_n hx hb dL_law_922 rfl (lv_at hl 3 rfl) ?_
  refine lv_iconst (v := 1) hx hb dL_law_923 rfl ?_
  refine lv_iadd hx hb dL_law_924 ?_
  refine va_sld hx hb hX hbl hbA hI.2 hi1 dL_law_925 ?_
  refine lv_aload_n hx hb dL_law_926 rfl (lv_at hl 0 rfl) ?_
  refine lv_iload_n hx hb dL_law_927 rfl (lv_at hl 3 rfl) ?_
  refine lv_iconst (v := 2) hx hb dL_law_928 rfl ?_
  refine lv_iadd hx hb dL_law_929 ?_
  refine va_sld hx hb hX hbl hbA hI.2 hi2 dL_law_930 ?_
  refine lv_aload_n hx hb dL_law_931 rfl (lv_at hl 0 rfl) ?_
  refine lv_iload_n hx hb dL_law_932 rfl (lv_at hl 3 rfl) ?_
  refine lv_iconst (v := 3) hx hb dL_law_933 rfl ?_
  refine lv_iadd hx hb dL_law_934 ?_
  refine va_sld hx hb hX hbl hbA hI.2 hi3 dL_law_935 ?_
  refine jRE_i (wy := WX0 ad fa ca wad cI cR cG v_wn) (rest := [.int a.1]) C (c5_drawn hb2) gL_law_X5_drawn hd5_drawn hKm hN hD (by exact WX_map) hI rcM rfl ⟨rfl, rfl⟩ ⟨Nat.le_of_ble_eq_true rfl, Nat.le_of_ble_eq_true rfl⟩ rfl hl.1 rfl (Nat.le_of_ble_eq_true rfl) hcs dL_law_936 (fun H locs hI => ?_)
  refine lv_icmp_eq (tgt := 981) hx hb dL_law_939 rfl (fun _ => ?_) (fun c => absurd hab c)
  refine W.widen (k := cells + 1) (n := slots + 7) (Nat.le_add_right _ _) (Nat.le_add_right _ _) ?_
  exact K _ _ _ _ _ _ _ _ _ _ _ _ _ _ _ _ _ _ _ _ _ _ _ _ _ _ _ _ _ _ _ _ _ _ _ _ _ _ _ _ _ _ _ _ _ _ _ _ _ _ _ _ _ _ _ _ _ _ _ _ _ _ _ _ _ _ _ _ _ _ _ hI hD (hS2)
set_option maxHeartbeats 8000000 in
set_option maxRecDepth 100000 in
theorem law_digest (F : LF p m c s b L xs args) (hKx : va_K D vwCl (tyX cI cR cG) s) (hKm : va_K D vwCl [(cA, .int)] s) (hcs2 : cells + 1 ≤ room_1.cells ∧ slots + 7 ≤ room_1.slots) (hl : lv_has ls 4 [(0, .ref b), (1, .ref (ad 0)), (2, .ref h5), (3, .int x3)]) (hI : LI D s H locs ((WX ad fa ca wad cI cR cG v_roadCount v_readings v_psize v_good v_pbits v_letters v_afterLetter v_codes v_disc v_rsize v_cycleCount v_fo v_cy v_s v_closed v_traces v_crossings v_db_bits v_db_size v_db_allBits v_db_a v_db_b v_db_c v_db_d v_dn_bits v_dn_size v_dn_allBits v_dn_a v_dn_b v_dn_c v_dn_d v_wn v_wv) ++ (WM h5 am cA m_pageLength m_page m_roads m_lengths m_signs m_wordsRead m_disc m_forms m_formA m_formB m_formC m_nextOf m_cycleOf m_cycles m_firstOf m_newLength m_newSigns m_mayRun m_size m_at m_otherSize m_other m_tableA m_tableB m_tableC m_tableD m_a m_b m_c m_grade m_flowA m_flowB m_flowC m_seedNow m_h))) (hD : LD s (WX0 ad fa ca wad cI cR cG v_wn) (WM0 h5 am cA)) (hSIM : SIM v_roadCount v_readings v_psize v_good v_pbits v_letters v_afterLetter v_codes v_disc v_rsize v_cycleCount v_fo v_cy v_wn v_wv m_pageLength m_page m_roads m_lengths m_signs m_wordsRead m_disc m_forms m_formA m_formB m_formC m_nextOf m_cycleOf m_cycles m_firstOf m_size)
    (K : ∀ (v_roadCount' : Int32) (v_readings' : Int32) (v_psize' : Int32) (v_good' : Int32) (v_pbits' : Int32) (v_letters' : Int32) (v_afterLetter' : Int32) (v_codes' : Nat → Int32) (v_disc' : Int32) (v_rsize' : Int32) (v_cycleCount' : Int32) (v_fo' : Nat → Nat → Int32) (v_cy' : Nat → Nat → Int32) (v_s' : Int64) (v_closed' : Int32) (v_traces' : Int32) (v_crossings' : Int32) (v_db_bits' : Int32) (v_db_size' : Int32) (v_db_allBits' : Int32) (v_db_a' : Int32) (v_db_b' : Int32) (v_db_c' : Int32) (v_db_d' : Int32) (v_dn_bits' : Int32) (v_dn_size' : Int32) (v_dn_allBits' : Int32) (v_dn_a' : Int32) (v_dn_b' : Int32) (v_dn_c' : Int32) (v_dn_d' : Int32) (v_wn' : Nat) (v_wv' : Nat → Nat → Int32) (m_pageLength' : Int32) (m_page' : Nat → Int32) (m_roads' : Int32) (m_lengths' : Nat → Int32) (m_signs' : Nat → Int32) (m_wordsRead' : Int32) (m_disc' : Int32) (m_forms' : Int32) (m_formA' : Nat → Int32) (m_formB' : Nat → Int32) (m_formC' : Nat → Int32) (m_nextOf' : Nat → Int32) (m_cycleOf' : Nat → Int32) (m_cycles' : Int32) (m_firstOf' : Nat → Int32) (m_newLength' : Int32) (m_newSigns' : Nat → Int32) (m_mayRun' : Int32) (m_size' : Int32) (m_at' : Nat → Int32) (m_otherSize' : Int32) (m_other' : Nat → Int32) (m_tableA' : Int32) (m_tableB' : Int32) (m_tableC' : Int32) (m_tableD' : Int32) (m_a' : Int32) (m_b' : Int32) (m_c' : Int32) (m_grade' : Int32) (m_flowA' : Int32) (m_flowB' : Int32) (m_flowC' : Int32) (m_seedNow' : Int64) (m_h' : Int64) (wad : Nat → Nat) (H : Heap) (locs : List Loc), LI D s H locs ((WX ad fa ca wad cI cR cG (v_roadCount') (v_readings') (v_psize') (v_good') (v_pbits') (v_letters') (v_afterLetter') (v_codes') (v_disc') (v_rsize') (v_cycleCount') (v_fo') (v_cy') (v_s') (v_closed') (v_traces') (v_crossings') (v_db_bits') (v_db_size') (v_db_allBits') (v_db_a') (v_db_b') (v_db_c') (v_db_d') (v_dn_bits') (v_dn_size') (v_dn_allBits') (v_dn_a') (v_dn_b') (v_dn_c') (v_dn_d') (v_wn') (v_wv')) ++ (WM h5 am cA (m_pageLength') (m_page') (m_roads') (m_lengths') (m_signs') (m_wordsRead') (m_disc') (m_forms') (m_formA') (m_formB') (m_formC') (m_nextOf') (m_cycleOf') (m_cycles') (m_firstOf') (m_newLength') (m_newSigns') (m_mayRun') (m_size') (m_at') (m_otherSize') (m_other') (m_tableA') (m_tableB') (m_tableC') (m_tableD') (m_a') (m_b') (m_c') (m_grade') (m_flowA') (m_flowB') (m_flowC') (m_seedNow') (m_h'))) → LD s (WX0 ad fa ca wad cI cR cG (v_wn')) (WM0 h5 am cA) → SIM (v_roadCount') (v_readings') (v_psize') (v_good') (v_pbits') (v_letters') (v_afterLetter') (v_codes') (v_disc') (v_rsize') (v_cycleCount') (v_fo') (v_cy') (v_wn') (v_wv') (m_pageLength') (m_page') (m_roads') (m_lengths') (m_signs') (m_wordsRead') (m_disc') (m_forms') (m_formA') (m_formB') (m_formC') (m_nextOf') (m_cycleOf') (m_cycles') (m_firstOf') (m_size') → W p l e room_1 s m args below meth c H locs (cells + 1) (slots + 7) Q (F0 m 981 ls [])) : W p l e room_1 s m args below meth c H locs cells slots Q (F0 m 967 ls []) := by
  obtain ⟨C, hN, hX, hbl⟩ := F
  have hx := C.1
  have hb := C.2.1
  have hcs : cells ≤ room_1.cells ∧ slots ≤ room_1.slots := ⟨Nat.le_trans (Nat.le_add_right _ _) hcs2.1, Nat.le_trans (Nat.le_add_right _ _) hcs2.2⟩
  have hcs1 : cells + 1 ≤ room_1.cells ∧ slots + 7 ≤ room_1.slots := hcs2
  have hbA : ¬ AL s b := Nat.not_le.mpr hbl
  obtain ⟨a, b2, ha, hb2, hab, hS2⟩ := sim_digest hSIM
  refine lv_aload_n hx hb dL_law_967 rfl (lv_at hl 1 rfl) ?_
  refine jVS_l (rest := []) C (c4_digest ha) gL_law_X4_digest hd4_digest hKx hN (P_left hI.1) rcX rfl ⟨rfl, rfl⟩ ⟨Nat.le_of_ble_eq_true rfl, Nat.le_of_ble_eq_true rfl⟩ rfl hl.1 rfl (Nat.le_of_ble_eq_true rfl) hcs dL_law_968 ?_
  refine lv_aload_n hx hb dL_law_971 rfl (lv_at hl 2 rfl) ?_
  refine jRE_l (wy := WX0 ad fa ca wad cI cR cG v_wn) (rest := [.long a]) C (c5_digest hb2) gL_law_X5_digest hd5_digest hKm hN hD (by exact WX_map) hI rcM rfl ⟨rfl, rfl⟩ ⟨Nat.le_of_ble_eq_true rfl, Nat.le_of_ble_eq_true rfl⟩ rfl hl.1 rfl (Nat.le_of_ble_eq_true rfl) hcs dL_law_972 (fun H locs hI => ?_)
  refine W.lcmp hx hb dL_law_975 ?_
  refine lv_if_eq (tgt := 981) hx hb dL_law_976 rfl (fun _ => ?_) (fun c => absurd (by rw [hab]; exact lgc_self _) c)
  refine W.widen (k := cells + 1) (n := slots + 7) (Nat.le_add_right _ _) (Nat.le_add_right _ _) ?_
  exact K _ _ _ _ _ _ _ _ _ _ _ _ _ _ _ _ _ _ _ _ _ _ _ _ _ _ _ _ _ _ _ _ _ _ _ _ _ _ _ _ _ _ _ _ _ _ _ _ _ _ _ _ _ _ _ _ _ _ _ _ _ _ _ _ _ _ _ _ _ _ _ hI hD (hS2)
end LC1
