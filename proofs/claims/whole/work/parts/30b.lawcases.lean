section LC0
variable {p : Program} {l : Launch} {e : Env} {s : State} {m : MethodId} {args : Array Value} {below : List Frame} {meth : Method} {c : Code} {H : Heap} {locs : List Loc} {cells slots : Nat} {Q : State → Prop} {ls : Array Slot} {D : va_G}
variable {b L h5 : Nat} {xs : Nat → Int32} {x3 : Int32} {ad fa ca wad am : Nat → Nat} {cI cR cG cA : ClassId}
variable {v_roadCount : Int32}
variable {v_readings : Int32}
variable {v_psize : Int32}
variable {v_good : Int32}
variable {v_pbits : Int32}
variable {v_letters : Int32}
variable {v_afterLetter : Int32}
variable {v_codes : Nat → Int32}
variable {v_disc : Int32}
variable {v_rsize : Int32}
variable {v_cycleCount : Int32}
variable {v_fo : Nat → Nat → Int32}
variable {v_cy : Nat → Nat → Int32}
variable {v_s : Int64}
variable {v_closed : Int32}
variable {v_traces : Int32}
variable {v_crossings : Int32}
variable {v_db_bits : Int32}
variable {v_db_size : Int32}
variable {v_db_allBits : Int32}
variable {v_db_a : Int32}
variable {v_db_b : Int32}
variable {v_db_c : Int32}
variable {v_db_d : Int32}
variable {v_dn_bits : Int32}
variable {v_dn_size : Int32}
variable {v_dn_allBits : Int32}
variable {v_dn_a : Int32}
variable {v_dn_b : Int32}
variable {v_dn_c : Int32}
variable {v_dn_d : Int32}
variable {v_wn : Nat}
variable {v_wv : Nat → Nat → Int32}
variable {m_pageLength : Int32}
variable {m_page : Nat → Int32}
variable {m_roads : Int32}
variable {m_lengths : Nat → Int32}
variable {m_signs : Nat → Int32}
variable {m_wordsRead : Int32}
variable {m_disc : Int32}
variable {m_forms : Int32}
variable {m_formA : Nat → Int32}
variable {m_formB : Nat → Int32}
variable {m_formC : Nat → Int32}
variable {m_nextOf : Nat → Int32}
variable {m_cycleOf : Nat → Int32}
variable {m_cycles : Int32}
variable {m_firstOf : Nat → Int32}
variable {m_newLength : Int32}
variable {m_newSigns : Nat → Int32}
variable {m_mayRun : Int32}
variable {m_size : Int32}
variable {m_at : Nat → Int32}
variable {m_otherSize : Int32}
variable {m_other : Nat → Int32}
variable {m_tableA : Int32}
variable {m_tableB : Int32}
variable {m_tableC : Int32}
variable {m_tableD : Int32}
variable {m_a : Int32}
variable {m_b : Int32}
variable {m_c : Int32}
variable {m_grade : Int32}
variable {m_flowA : Int32}
variable {m_flowB : Int32}
variable {m_flowC : Int32}
variable {m_seedNow : Int64}
variable {m_h : Int64}
set_option maxHeartbeats 8000000 in
set_option maxRecDepth 100000 in
theorem law_letter (F : LF p m c s b L xs args) (hKx : va_K D vwCl (tyX cI cR cG) s) (hKm : va_K D vwCl [(cA, .int)] s) (hcs2 : cells + 1 ≤ room_1.cells ∧ slots + 7 ≤ room_1.slots) (hi1 : vp_in (x3 + 1) L) (hl : lv_has ls 4 [(0, .ref b), (1, .ref (ad 0)), (2, .ref h5), (3, .int x3)]) (hI : LI D s H locs ((WX ad fa ca wad cI cR cG v_roadCount v_readings v_psize v_good v_pbits v_letters v_afterLetter v_codes v_disc v_rsize v_cycleCount v_fo v_cy v_s v_closed v_traces v_crossings v_db_bits v_db_size v_db_allBits v_db_a v_db_b v_db_c v_db_d v_dn_bits v_dn_size v_dn_allBits v_dn_a v_dn_b v_dn_c v_dn_d v_wn v_wv) ++ (WM h5 am cA m_pageLength m_page m_roads m_lengths m_signs m_wordsRead m_disc m_forms m_formA m_formB m_formC m_nextOf m_cycleOf m_cycles m_firstOf m_newLength m_newSigns m_mayRun m_size m_at m_otherSize m_other m_tableA m_tableB m_tableC m_tableD m_a m_b m_c m_grade m_flowA m_flowB m_flowC m_seedNow m_h))) (hD : LD s (WX0 ad fa ca wad cI cR cG v_wn) (WM0 h5 am cA)) (hSIM : SIM v_roadCount v_readings v_psize v_good v_pbits v_letters v_afterLetter v_codes v_disc v_rsize v_cycleCount v_fo v_cy v_wn v_wv m_pageLength m_page m_roads m_lengths m_signs m_wordsRead m_disc m_forms m_formA m_formB m_formC m_nextOf m_cycleOf m_cycles m_firstOf m_size)
    (K : ∀ (v_roadCount' : Int32) (v_readings' : Int32) (v_psize' : Int32) (v_good' : Int32) (v_pbits' : Int32) (v_letters' : Int32) (v_afterLetter' : Int32) (v_codes' : Nat → Int32) (v_disc' : Int32) (v_rsize' : Int32) (v_cycleCount' : Int32) (v_fo' : Nat → Nat → Int32) (v_cy' : Nat → Nat → Int32) (v_s' : Int64) (v_closed' : Int32) (v_traces' : Int32) (v_crossings' : Int32) (v_db_bits' : Int32) (v_db_size' : Int32) (v_db_allBits' : Int32) (v_db_a' : Int32) (v_db_b' : Int32) (v_db_c' : Int32) (v_db_d' : Int32) (v_dn_bits' : Int32) (v_dn_size' : Int32) (v_dn_allBits' : Int32) (v_dn_a' : Int32) (v_dn_b' : Int32) (v_dn_c' : Int32) (v_dn_d' : Int32) (v_wn' : Nat) (v_wv' : Nat → Nat → Int32) (m_pageLength' : Int32) (m_page' : Nat → Int32) (m_roads' : Int32) (m_lengths' : Nat → Int32) (m_signs' : Nat → Int32) (m_wordsRead' : Int32) (m_disc' : Int32) (m_forms' : Int32) (m_formA' : Nat → Int32) (m_formB' : Nat → Int32) (m_formC' : Nat → Int32) (m_nextOf' : Nat → Int32) (m_cycleOf' : Nat → Int32) (m_cycles' : Int32) (m_firstOf' : Nat → Int32) (m_newLength' : Int32) (m_newSigns' : Nat → Int32) (m_mayRun' : Int32) (m_size' : Int32) (m_at' : Nat → Int32) (m_otherSize' : Int32) (m_other' : Nat → Int32) (m_tableA' : Int32) (m_tableB' : Int32) (m_tableC' : Int32) (m_tableD' : Int32) (m_a' : Int32) (m_b' : Int32) (m_c' : Int32) (m_grade' : Int32) (m_flowA' : Int32) (m_flowB' : Int32) (m_flowC' : Int32) (m_seedNow' : Int64) (m_h' : Int64) (wad : Nat → Nat) (H : Heap) (locs : List Loc), LI D s H locs ((WX ad fa ca wad cI cR cG (v_roadCount') (v_readings') (v_psize') (v_good') (v_pbits') (v_letters') (v_afterLetter') (v_codes') (v_disc') (v_rsize') (v_cycleCount') (v_fo') (v_cy') (v_s') (v_closed') (v_traces') (v_crossings') (v_db_bits') (v_db_size') (v_db_allBits') (v_db_a') (v_db_b') (v_db_c') (v_db_d') (v_dn_bits') (v_dn_size') (v_dn_allBits') (v_dn_a') (v_dn_b') (v_dn_c') (v_dn_d') (v_wn') (v_wv')) ++ (WM h5 am cA (m_pageLength') (m_page') (m_roads') (m_lengths') (m_signs') (m_wordsRead') (m_disc') (m_forms') (m_formA') (m_formB') (m_formC') (m_nextOf') (m_cycleOf') (m_cycles') (m_firstOf') (m_newLength') (m_newSigns') (m_mayRun') (m_size') (m_at') (m_otherSize') (m_other') (m_tableA') (m_tableB') (m_tableC') (m_tableD') (m_a') (m_b') (m_c') (m_grade') (m_flowA') (m_flowB') (m_flowC') (m_seedNow') (m_h'))) → LD s (WX0 ad fa ca wad cI cR cG (v_wn')) (WM0 h5 am cA) → SIM (v_roadCount') (v_readings') (v_psize') (v_good') (v_pbits') (v_letters') (v_afterLetter') (v_codes') (v_disc') (v_rsize') (v_cycleCount') (v_fo') (v_cy') (v_wn') (v_wv') (m_pageLength') (m_page') (m_roads') (m_lengths') (m_signs') (m_wordsRead') (m_disc') (m_forms') (m_formA') (m_formB') (m_formC') (m_nextOf') (m_cycleOf') (m_cycles') (m_firstOf') (m_size') → W p l e room_1 s m args below meth c H locs (cells + 1) (slots + 7) Q (F0 m 981 ls [])) : W p l e room_1 s m args below meth c H locs cells slots Q (F0 m 160 ls []) := by
  obtain ⟨C, hN, hX, hbl⟩ := F
  have hx := C.1
  have hb := C.2.1
  have hcs : cells ≤ room_1.cells ∧ slots ≤ room_1.slots := ⟨Nat.le_trans (Nat.le_add_right _ _) hcs2.1, Nat.le_trans (Nat.le_add_right _ _) hcs2.2⟩
  have hcs1 : cells + 1 ≤ room_1.cells ∧ slots + 7 ≤ room_1.slots := hcs2
  have hbA : ¬ AL s b := Nat.not_le.mpr hbl
  obtain ⟨a, b2, ha, hb2, hab, hS2⟩ := sim_letter (xs (x3 + 1).toNatClampNeg) hSIM
  refine lv_aload_n hx hb dL_law_160 rfl (lv_at hl 1 rfl) ?_
  refine lv_aload_n hx hb dL_law_161 rfl (lv_at hl 0 rfl) ?_
  refine lv_iload_n hx hb dL_law_162 rfl (lv_at hl 3 rfl) ?_
  refine lv_iconst (v := 1) hx hb dL_law_163 rfl ?_
  refine lv_iadd hx hb dL_law_164 ?_
  refine va_sld hx hb hX hbl hbA hI.2 hi1 dL_law_165 ?_
  refine jLE_i (wy := WM0 h5 am cA) (rest := []) C (c4_letter ha) gL_law_X4_letter hd4_letter hKx hN hD (by rfl) hI rcX rfl ⟨rfl, rfl⟩ ⟨Nat.le_of_ble_eq_true rfl, Nat.le_of_ble_eq_true rfl⟩ rfl hl.1 rfl (Nat.le_of_ble_eq_true rfl) hcs dL_law_166 (fun H locs hI => ?_)
  refine lv_aload_n hx hb dL_law_169 rfl (lv_at hl 2 rfl) ?_
  refine lv_aload_n hx hb dL_law_170 rfl (lv_at hl 0 rfl) ?_
  refine lv_iload_n hx hb dL_law_171 rfl (lv_at hl 3 rfl) ?_
  refine lv_iconst (v := 1) hx hb dL_law_172 rfl ?_
  refine lv_iadd hx hb dL_law_173 ?_
  refine va_sld hx hb hX hbl hbA hI.2 hi1 dL_law_174 ?_
  refine jRE_i (wy := WX0 ad fa ca wad cI cR cG v_wn) (rest := [.int a.1]) C (c5_letter hb2) gL_law_X5_letter hd5_letter hKm hN hD (by exact WX_map) hI rcM rfl ⟨rfl, rfl⟩ ⟨Nat.le_of_ble_eq_true rfl, Nat.le_of_ble_eq_true rfl⟩ rfl hl.1 rfl (Nat.le_of_ble_eq_true rfl) hcs dL_law_175 (fun H locs hI => ?_)
  refine lv_icmp_eq (tgt := 981) hx hb dL_law_178 rfl (fun _ => ?_) (fun c => absurd hab c)
  refine W.widen (k := cells + 1) (n := slots + 7) (Nat.le_add_right _ _) (Nat.le_add_right _ _) ?_
  exact K _ _ _ _ _ _ _ _ _ _ _ _ _ _ _ _ _ _ _ _ _ _ _ _ _ _ _ _ _ _ _ _ _ _ _ _ _ _ _ _ _ _ _ _ _ _ _ _ _ _ _ _ _ _ _ _ _ _ _ _ _ _ _ _ _ _ _ _ _ _ _ hI hD (hS2)
set_option maxHeartbeats 8000000 in
set_option maxRecDepth 100000 in
theorem law_fault (F : LF p m c s b L xs args) (hKx : va_K D vwCl (tyX cI cR cG) s) (hKm : va_K D vwCl [(cA, .int)] s) (hcs2 : cells + 1 ≤ room_1.cells ∧ slots + 7 ≤ room_1.slots) (hl : lv_has ls 4 [(0, .ref b), (1, .ref (ad 0)), (2, .ref h5), (3, .int x3)]) (hI : LI D s H locs ((WX ad fa ca wad cI cR cG v_roadCount v_readings v_psize v_good v_pbits v_letters v_afterLetter v_codes v_disc v_rsize v_cycleCount v_fo v_cy v_s v_closed v_traces v_crossings v_db_bits v_db_size v_db_allBits v_db_a v_db_b v_db_c v_db_d v_dn_bits v_dn_size v_dn_allBits v_dn_a v_dn_b v_dn_c v_dn_d v_wn v_wv) ++ (WM h5 am cA m_pageLength m_page m_roads m_lengths m_signs m_wordsRead m_disc m_forms m_formA m_formB m_formC m_nextOf m_cycleOf m_cycles m_firstOf m_newLength m_newSigns m_mayRun m_size m_at m_otherSize m_other m_tableA m_tableB m_tableC m_tableD m_a m_b m_c m_grade m_flowA m_flowB m_flowC m_seedNow m_h))) (hD : LD s (WX0 ad fa ca wad cI cR cG v_wn) (WM0 h5 am cA)) (hSIM : SIM v_roadCount v_readings v_psize v_good v_pbits v_letters v_afterLetter v_codes v_disc v_rsize v_cycleCount v_fo v_cy v_wn v_wv m_pageLength m_page m_roads m_lengths m_signs m_wordsRead m_disc m_forms m_formA m_formB m_formC m_nextOf m_cycleOf m_cycles m_firstOf m_size)
    (K : ∀ (v_roadCount' : Int32) (v_readings' : Int32) (v_psize' : Int32) (v_good' : Int32) (v_pbits' : Int32) (v_letters' : Int32) (v_afterLetter' : Int32) (v_codes' : Nat → Int32) (v_disc' : Int32) (v_rsize' : Int32) (v_cycleCount' : Int32) (v_fo' : Nat → Nat → Int32) (v_cy' : Nat → Nat → Int32) (v_s' : Int64) (v_closed' : Int32) (v_traces' : Int32) (v_crossings' : Int32) (v_db_bits' : Int32) (v_db_size' : Int32) (v_db_allBits' : Int32) (v_db_a' : Int32) (v_db_b' : Int32) (v_db_c' : Int32) (v_db_d' : Int32) (v_dn_bits' : Int32) (v_dn_size' : Int32) (v_dn_allBits' : Int32) (v_dn_a' : Int32) (v_dn_b' : Int32) (v_dn_c' : Int32) (v_dn_d' : Int32) (v_wn' : Nat) (v_wv' : Nat → Nat → Int32) (m_pageLength' : Int32) (m_page' : Nat → Int32) (m_roads' : Int32) (m_lengths' : Nat → Int32) (m_signs' : Nat → Int32) (m_wordsRead' : Int32) (m_disc' : Int32) (m_forms' : Int32) (m_formA' : Nat → Int32) (m_formB' : Nat → Int32) (m_formC' : Nat → Int32) (m_nextOf' : Nat → Int32) (m_cycleOf' : Nat → Int32) (m_cycles' : Int32) (m_firstOf' : Nat → Int32) (m_newLength' : Int32) (m_newSigns' : Nat → Int32) (m_mayRun' : Int32) (m_size' : Int32) (m_at' : Nat → Int32) (m_otherSize' : Int32) (m_other' : Nat → Int32) (m_tableA' : Int32) (m_tableB' : Int32) (m_tableC' : Int32) (m_tableD' : Int32) (m_a' : Int32) (m_b' : Int32) (m_c' : Int32) (m_grade' : Int32) (m_flowA' : Int32) (m_flowB' : Int32) (m_flowC' : Int32) (m_seedNow' : Int64) (m_h' : Int64) (wad : Nat → Nat) (H : Heap) (locs : List Loc), LI D s H locs ((WX ad fa ca wad cI cR cG (v_roadCount') (v_readings') (v_psize') (v_good') (v_pbits') (v_letters') (v_afterLetter') (v_codes') (v_disc') (v_rsize') (v_cycleCount') (v_fo') (v_cy') (v_s') (v_closed') (v_traces') (v_crossings') (v_db_bits') (v_db_size') (v_db_allBits') (v_db_a') (v_db_b') (v_db_c') (v_db_d') (v_dn_bits') (v_dn_size') (v_dn_allBits') (v_dn_a') (v_dn_b') (v_dn_c') (v_dn_d') (v_wn') (v_wv')) ++ (WM h5 am cA (m_pageLength') (m_page') (m_roads') (m_lengths') (m_signs') (m_wordsRead') (m_disc') (m_forms') (m_formA') (m_formB') (m_formC') (m_nextOf') (m_cycleOf') (m_cycles') (m_firstOf') (m_newLength') (m_newSigns') (m_mayRun') (m_size') (m_at') (m_otherSize') (m_other') (m_tableA') (m_tableB') (m_tableC') (m_tableD') (m_a') (m_b') (m_c') (m_grade') (m_flowA') (m_flowB') (m_flowC') (m_seedNow') (m_h'))) → LD s (WX0 ad fa ca wad cI cR cG (v_wn')) (WM0 h5 am cA) → SIM (v_roadCount') (v_readings') (v_psize') (v_good') (v_pbits') (v_letters') (v_afterLetter') (v_codes') (v_disc') (v_rsize') (v_cycleCount') (v_fo') (v_cy') (v_wn') (v_wv') (m_pageLength') (m_page') (m_roads') (m_lengths') (m_signs') (m_wordsRead') (m_disc') (m_forms') (m_formA') (m_formB') (m_formC') (m_nextOf') (m_cycleOf') (m_cycles') (m_firstOf') (m_size') → W p l e room_1 s m args below meth c H locs (cells + 1) (slots + 7) Q (F0 m 981 ls [])) : W p l e room_1 s m args below meth c H locs cells slots Q (F0 m 196 ls []) := by
  obtain ⟨C, hN, hX, hbl⟩ := F
  have hx := C.1
  have hb := C.2.1
  have hcs : cells ≤ room_1.cells ∧ slots ≤ room_1.slots := ⟨Nat.le_trans (Nat.le_add_right _ _) hcs2.1, Nat.le_trans (Nat.le_add_right _ _) hcs2.2⟩
  have hcs1 : cells + 1 ≤ room_1.cells ∧ slots + 7 ≤ room_1.slots := hcs2
  have hbA : ¬ AL s b := Nat.not_le.mpr hbl
  obtain ⟨a, b2, ha, hb2, hab, hS2⟩ := sim_fault hSIM
  refine lv_aload_n hx hb dL_law_196 rfl (lv_at hl 1 rfl) ?_
  refine jVS_i (rest := []) C (c4_fault ha) gL_law_X4_fault hd4_fault hKx hN (P_left hI.1) rcX rfl ⟨rfl, rfl⟩ ⟨Nat.le_of_ble_eq_true rfl, Nat.le_of_ble_eq_true rfl⟩ rfl hl.1 rfl (Nat.le_of_ble_eq_true rfl) hcs dL_law_197 ?_
  refine lv_aload_n hx hb dL_law_200 rfl (lv_at hl 2 rfl) ?_
  refine jRE_i (wy := WX0 ad fa ca wad cI cR cG v_wn) (rest := [.int a]) C (c5_fault hb2) gL_law_X5_fault hd5_fault hKm hN hD (by exact WX_map) hI rcM rfl ⟨rfl, rfl⟩ ⟨Nat.le_of_ble_eq_true rfl, Nat.le_of_ble_eq_true rfl⟩ rfl hl.1 rfl (Nat.le_of_ble_eq_true rfl) hcs dL_law_201 (fun H locs hI => ?_)
  refine lv_icmp_eq (tgt := 981) hx hb dL_law_204 rfl (fun _ => ?_) (fun c => absurd hab c)
  refine W.widen (k := cells + 1) (n := slots + 7) (Nat.le_add_right _ _) (Nat.le_add_right _ _) ?_
  exact K _ _ _ _ _ _ _ _ _ _ _ _ _ _ _ _ _ _ _ _ _ _ _ _ _ _ _ _ _ _ _ _ _ _ _ _ _ _ _ _ _ _ _ _ _ _ _ _ _ _ _ _ _ _ _ _ _ _ _ _ _ _ _ _ _ _ _ _ _ _ _ hI hD (hS2)
set_option maxHeartbeats 8000000 in
set_option maxRecDepth 100000 in
theorem law_road (F : LF p m c s b L xs args) (hKx : va_K D vwCl (tyX cI cR cG) s) (hKm : va_K D vwCl [(cA, .int)] s) (hcs2 : cells + 1 ≤ room_1.cells ∧ slots + 7 ≤ room_1.slots) (hi1 : vp_in (x3 + 1) L) (hi2 : vp_in (x3 + 2) L) (hl : lv_has ls 4 [(0, .ref b), (1, .ref (ad 0)), (2, .ref h5), (3, .int x3)]) (hI : LI D s H locs ((WX ad fa ca wad cI cR cG v_roadCount v_readings v_psize v_good v_pbits v_letters v_afterLetter v_codes v_disc v_rsize v_cycleCount v_fo v_cy v_s v_closed v_traces v_crossings v_db_bits v_db_size v_db_allBits v_db_a v_db_b v_db_c v_db_d v_dn_bits v_dn_size v_dn_allBits v_dn_a v_dn_b v_dn_c v_dn_d v_wn v_wv) ++ (WM h5 am cA m_pageLength m_page m_roads m_lengths m_signs m_wordsRead m_disc m_forms m_formA m_formB m_formC m_nextOf m_cycleOf m_cycles m_firstOf m_newLength m_newSigns m_mayRun m_size m_at m_otherSize m_other m_tableA m_tableB m_tableC m_tableD m_a m_b m_c m_grade m_flowA m_flowB m_flowC m_seedNow m_h))) (hD : LD s (WX0 ad fa ca wad cI cR cG v_wn) (WM0 h5 am cA)) (hSIM : SIM v_roadCount v_readings v_psize v_good v_pbits v_letters v_afterLetter v_codes v_disc v_rsize v_cycleCount v_fo v_cy v_wn v_wv m_pageLength m_page m_roads m_lengths m_signs m_wordsRead m_disc m_forms m_formA m_formB m_formC m_nextOf m_cycleOf m_cycles m_firstOf m_size)
    (K : ∀ (v_roadCount' : Int32) (v_readings' : Int32) (v_psize' : Int32) (v_good' : Int32) (v_pbits' : Int32) (v_letters' : Int32) (v_afterLetter' : Int32) (v_codes' : Nat → Int32) (v_disc' : Int32) (v_rsize' : Int32) (v_cycleCount' : Int32) (v_fo' : Nat → Nat → Int32) (v_cy' : Nat → Nat → Int32) (v_s' : Int64) (v_closed' : Int32) (v_traces' : Int32) (v_crossings' : Int32) (v_db_bits' : Int32) (v_db_size' : Int32) (v_db_allBits' : Int32) (v_db_a' : Int32) (v_db_b' : Int32) (v_db_c' : Int32) (v_db_d' : Int32) (v_dn_bits' : Int32) (v_dn_size' : Int32) (v_dn_allBits' : Int32) (v_dn_a' : Int32) (v_dn_b' : Int32) (v_dn_c' : Int32) (v_dn_d' : Int32) (v_wn' : Nat) (v_wv' : Nat → Nat → Int32) (m_pageLength' : Int32) (m_page' : Nat → Int32) (m_roads' : Int32) (m_lengths' : Nat → Int32) (m_signs' : Nat → Int32) (m_wordsRead' : Int32) (m_disc' : Int32) (m_forms' : Int32) (m_formA' : Nat → Int32) (m_formB' : Nat → Int32) (m_formC' : Nat → Int32) (m_nextOf' : Nat → Int32) (m_cycleOf' : Nat → Int32) (m_cycles' : Int32) (m_firstOf' : Nat → Int32) (m_newLength' : Int32) (m_newSigns' : Nat → Int32) (m_mayRun' : Int32) (m_size' : Int32) (m_at' : Nat → Int32) (m_otherSize' : Int32) (m_other' : Nat → Int32) (m_tableA' : Int32) (m_tableB' : Int32) (m_tableC' : Int32) (m_tableD' : Int32) (m_a' : Int32) (m_b' : Int32) (m_c' : Int32) (m_grade' : Int32) (m_flowA' : Int32) (m_flowB' : Int32) (m_flowC' : Int32) (m_seedNow' : Int64) (m_h' : Int64) (wad : Nat → Nat) (H : Heap) (locs : List Loc), LI D s H locs ((WX ad fa ca wad cI cR cG (v_roadCount') (v_readings') (v_psize') (v_good') (v_pbits') (v_letters') (v_afterLetter') (v_codes') (v_disc') (v_rsize') (v_cycleCount') (v_fo') (v_cy') (v_s') (v_closed') (v_traces') (v_crossings') (v_db_bits') (v_db_size') (v_db_allBits') (v_db_a') (v_db_b') (v_db_c') (v_db_d') (v_dn_bits') (v_dn_size') (v_dn_allBits') (v_dn_a') (v_dn_b') (v_dn_c') (v_dn_d') (v_wn') (v_wv')) ++ (WM h5 am cA (m_pageLength') (m_page') (m_roads') (m_lengths') (m_signs') (m_wordsRead') (m_disc') (m_forms') (m_formA') (m_formB') (m_formC') (m_nextOf') (m_cycleOf') (m_cycles') (m_firstOf') (m_newLength') (m_newSigns') (m_mayRun') (m_size') (m_at') (m_otherSize') (m_other') (m_tableA') (m_tableB') (m_tableC') (m_tableD') (m_a') (m_b') (m_c') (m_grade') (m_flowA') (m_flowB') (m_flowC') (m_seedNow') (m_h'))) → LD s (WX0 ad fa ca wad cI cR cG (v_wn')) (WM0 h5 am cA) → SIM (v_roadCount') (v_readings') (v_psize') (v_good') (v_pbits') (v_letters') (v_afterLetter') (v_codes') (v_disc') (v_rsize') (v_cycleCount') (v_fo') (v_cy') (v_wn') (v_wv') (m_pageLength') (m_page') (m_roads') (m_lengths') (m_signs') (m_wordsRead') (m_disc') (m_forms') (m_formA') (m_formB') (m_formC') (m_nextOf') (m_cycleOf') (m_cycles') (m_firstOf') (m_size') → W p l e room_1 s m args below meth c H locs (cells + 1) (slots + 7) Q (F0 m 981 ls [])) : W p l e room_1 s m args below meth c H locs cells slots Q (F0 m 222 ls []) := by
  obtain ⟨C, hN, hX, hbl⟩ := F
  have hx := C.1
  have hb := C.2.1
  have hcs : cells ≤ room_1.cells ∧ slots ≤ room_1.slots := ⟨Nat.le_trans (Nat.le_add_right _ _) hcs2.1, Nat.le_trans (Nat.le_add_right _ _) hcs2.2⟩
  have hcs1 : cells + 1 ≤ room_1.cells ∧ slots + 7 ≤ room_1.slots := hcs2
  have hbA : ¬ AL s b := Nat.not_le.mpr hbl
  obtain ⟨a, b2, ha, hb2, hab, hS2⟩ := sim_road (xs (x3 + 1).toNatClampNeg) (xs (x3 + 2).toNatClampNeg) hSIM
  refine lv_aload_n hx hb dL_law_222 rfl (lv_at hl 1 rfl) ?_
  refine lv_aload_n hx hb dL_law_223 rfl (lv_at hl 0 rfl) ?_
  refine lv_iload_n hx hb dL_law_224 rfl (lv_at hl 3 rfl) ?_
  refine lv_iconst (v := 1) hx hb dL_law_225 rfl ?_
  refine lv_iadd hx hb dL_law_226 ?_
  refine va_sld hx hb hX hbl hbA hI.2 hi1 dL_law_227 ?_
  refine lv_aload_n hx hb dL_law_228 rfl (lv_at hl 0 rfl) ?_
  refine lv_iload_n hx hb dL_law_229 rfl (lv_at hl 3 rfl) ?_
  refine lv_iconst (v := 2) hx hb dL_law_230 rfl ?_
  refine lv_iadd hx hb dL_law_231 ?_
  refine va_sld hx hb hX hbl hbA hI.2 hi2 dL_law_232 ?_
  refine jVS_i (rest := []) C (c4_road ha) gL_law_X4_road hd4_road hKx hN (P_left hI.1) rcX rfl ⟨rfl, rfl⟩ ⟨Nat.le_of_ble_eq_true rfl, Nat.le_of_ble_eq_true rfl⟩ rfl hl.1 rfl (Nat.le_of_ble_eq_true rfl) hcs dL_law_233 ?_
  refine lv_aload_n hx hb dL_law_236 rfl (lv_at hl 2 rfl) ?_
  refine lv_aload_n hx hb dL_law_237 rfl (lv_at hl 0 rfl) ?_
  refine lv_iload_n hx hb dL_law_238 rfl (lv_at hl 3 rfl) ?_
  refine lv_iconst (v := 1) hx hb dL_law_239 rfl ?_
  refine lv_iadd hx hb dL_law_240 ?_
  refine va_sld hx hb hX hbl hbA hI.2 hi1 dL_law_241 ?_
  refine lv_aload_n hx hb dL_law_242 rfl (lv_at hl 0 rfl) ?_
  refine lv_iload_n hx hb dL_law_243 rfl (lv_at hl 3 rfl) ?_
  refine lv_iconst (v := 2) hx hb dL_law_244 rfl ?_
  refine lv_iadd hx hb dL_law_245 ?_
  refine va_sld hx hb hX hbl hbA hI.2 hi2 dL_law_246 ?_
  refine jRE_i (wy := WX0 ad fa ca wad cI cR cG v_wn) (rest := [.int a]) C (c5_road hb2) gL_law_X5_road hd5_road hKm hN hD (by exact WX_map) hI rcM rfl ⟨rfl, rfl⟩ ⟨Nat.le_of_ble_eq_true rfl, Nat.le_of_ble_eq_true rfl⟩ rfl hl.1 rfl (Nat.le_of_ble_eq_true rfl) hcs dL_law_247 (fun H locs hI => ?_)
  refine lv_icmp_eq (tgt := 981) hx hb dL_law_250 rfl (fun _ => ?_) (fun c => absurd hab c)
  refine W.widen (k := cells + 1) (n := slots + 7) (Nat.le_add_right _ _) (Nat.le_add_right _ _) ?_
  exact K _ _ _ _ _ _ _ _ _ _ _ _ _ _ _ _ _ _ _ _ _ _ _ _ _ _ _ _ _ _ _ _ _ _ _ _ _ _ _ _ _ _ _ _ _ _ _ _ _ _ _ _ _ _ _ _ _ _ _ _ _ _ _ _ _ _ _ _ _ _ _ hI hD (hS2)
set_option maxHeartbeats 8000000 in
set_option maxRecDepth 100000 in
theorem law_table (F : LF p m c s b L xs args) (hKx : va_K D vwCl (tyX cI cR cG) s) (hKm : va_K D vwCl [(cA, .int)] s) (hcs2 : cells + 1 ≤ room_1.cells ∧ slots + 7 ≤ room_1.slots) (hi1 : vp_in (x3 + 1) L) (hi2 : vp_in (x3 + 2) L) (hl : lv_has ls 4 [(0, .ref b), (1, .ref (ad 0)), (2, .ref h5), (3, .int x3)]) (hI : LI D s H locs ((WX ad fa ca wad cI cR cG v_roadCount v_readings v_psize v_good v_pbits v_letters v_afterLetter v_codes v_disc v_rsize v_cycleCount v_fo v_cy v_s v_closed v_traces v_crossings v_db_bits v_db_size v_db_allBits v_db_a v_db_b v_db_c v_db_d v_dn_bits v_dn_size v_dn_allBits v_dn_a v_dn_b v_dn_c v_dn_d v_wn v_wv) ++ (WM h5 am cA m_pageLength m_page m_roads m_lengths m_signs m_wordsRead m_disc m_forms m_formA m_formB m_formC m_nextOf m_cycleOf m_cycles m_firstOf m_newLength m_newSigns m_mayRun m_size m_at m_otherSize m_other m_tableA m_tableB m_tableC m_tableD m_a m_b m_c m_grade m_flowA m_flowB m_flowC m_seedNow m_h))) (hD : LD s (WX0 ad fa ca wad cI cR cG v_wn) (WM0 h5 am cA)) (hSIM : SIM v_roadCount v_readings v_psize v_good v_pbits v_letters v_afterLetter v_codes v_disc v_rsize v_cycleCount v_fo v_cy v_wn v_wv m_pageLength m_page m_roads m_lengths m_signs m_wordsRead m_disc m_forms m_formA m_formB m_formC m_nextOf m_cycleOf m_cycles m_firstOf m_size)
    (K : ∀ (v_roadCount' : Int32) (v_readings' : Int32) (v_psize' : Int32) (v_good' : Int32) (v_pbits' : Int32) (v_letters' : Int32) (v_afterLetter' : Int32) (v_codes' : Nat → Int32) (v_disc' : Int32) (v_rsize' : Int32) (v_cycleCount' : Int32) (v_fo' : Nat → Nat → Int32) (v_cy' : Nat → Nat → Int32) (v_s' : Int64) (v_closed' : Int32) (v_traces' : Int32) (v_crossings' : Int32) (v_db_bits' : Int32) (v_db_size' : Int32) (v_db_allBits' : Int32) (v_db_a' : Int32) (v_db_b' : Int32) (v_db_c' : Int32) (v_db_d' : Int32) (v_dn_bits' : Int32) (v_dn_size' : Int32) (v_dn_allBits' : Int32) (v_dn_a' : Int32) (v_dn_b' : Int32) (v_dn_c' : Int32) (v_dn_d' : Int32) (v_wn' : Nat) (v_wv' : Nat → Nat → Int32) (m_pageLength' : Int32) (m_page' : Nat → Int32) (m_roads' : Int32) (m_lengths' : Nat → Int32) (m_signs' : Nat → Int32) (m_wordsRead' : Int32) (m_disc' : Int32) (m_forms' : Int32) (m_formA' : Nat → Int32) (m_formB' : Nat → Int32) (m_formC' : Nat → Int32) (m_nextOf' : Nat → Int32) (m_cycleOf' : Nat → Int32) (m_cycles' : Int32) (m_firstOf' : Nat → Int32) (m_newLength' : Int32) (m_newSigns' : Nat → Int32) (m_mayRun' : Int32) (m_size' : Int32) (m_at' : Nat → Int32) (m_otherSize' : Int32) (m_other' : Nat → Int32) (m_tableA' : Int32) (m_tableB' : Int32) (m_tableC' : Int32) (m_tableD' : Int32) (m_a' : Int32) (m_b' : Int32) (m_c' : Int32) (m_grade' : Int32) (m_flowA' : Int32) (m_flowB' : Int32) (m_flowC' : Int32) (m_seedNow' : Int64) (m_h' : Int64) (wad : Nat → Nat) (H : Heap) (locs : List Loc), LI D s H locs ((WX ad fa ca wad cI cR cG (v_roadCount') (v_readings') (v_psize') (v_good') (v_pbits') (v_letters') (v_afterLetter') (v_codes') (v_disc') (v_rsize') (v_cycleCount') (v_fo') (v_cy') (v_s') (v_closed') (v_traces') (v_crossings') (v_db_bits') (v_db_size') (v_db_allBits') (v_db_a') (v_db_b') (v_db_c') (v_db_d') (v_dn_bits') (v_dn_size') (v_dn_allBits') (v_dn_a') (v_dn_b') (v_dn_c') (v_dn_d') (v_wn') (v_wv')) ++ (WM h5 am cA (m_pageLength') (m_page') (m_roads') (m_lengths') (m_signs') (m_wordsRead') (m_disc') (m_forms') (m_formA') (m_formB') (m_formC') (m_nextOf') (m_cycleOf') (m_cycles') (m_firstOf') (m_newLength') (m_newSigns') (m_mayRun') (m_size') (m_at') (m_otherSize') (m_other') (m_tableA') (m_tableB') (m_tableC') (m_tableD') (m_a') (m_b') (m_c') (m_grade') (m_flowA') (m_flowB') (m_flowC') (m_seedNow') (m_h'))) → LD s (WX0 ad fa ca wad cI cR cG (v_wn')) (WM0 h5 am cA) → SIM (v_roadCount') (v_readings') (v_psize') (v_good') (v_pbits') (v_letters') (v_afterLetter') (v_codes') (v_disc') (v_rsize') (v_cycleCount') (v_fo') (v_cy') (v_wn') (v_wv') (m_pageLength') (m_page') (m_roads') (m_lengths') (m_signs') (m_wordsRead') (m_disc') (m_forms') (m_formA') (m_formB') (m_formC') (m_nextOf') (m_cycleOf') (m_cycles') (m_firstOf') (m_size') → W p l e room_1 s m args below meth c H locs (cells + 1) (slots + 7) Q (F0 m 981 ls [])) : W p l e room_1 s m args below meth c H locs cells slots Q (F0 m 288 ls []) := by
  obtain ⟨C, hN, hX, hbl⟩ := F
  have hx := C.1
  have hb := C.2.1
  have hcs : cells ≤ room_1.cells ∧ slots ≤ room_1.slots := ⟨Nat.le_trans (Nat.le_add_right _ _) hcs2.1, Nat.le_trans (Nat.le_add_right _ _) hcs2.2⟩
  have hcs1 : cells + 1 ≤ room_1.cells ∧ slots + 7 ≤ room_1.slots := hcs2
  have hbA : ¬ AL s b := Nat.not_le.mpr hbl
  obtain ⟨a, b2, ha, hb2, hab, hS2⟩ := sim_table (xs (x3 + 1).toNatClampNeg) (xs (x3 + 2).toNatClampNeg) hSIM
  refine lv_aload_n hx hb dL_law_288 rfl (lv_at hl 1 rfl) ?_
  refine lv_aload_n hx hb dL_law_289 rfl (lv_at hl 0 rfl) ?_
  refine lv_iload_n hx hb dL_law_290 rfl (lv_at hl 3 rfl) ?_
  refine lv_iconst (v := 1) hx hb dL_law_291 rfl ?_
  refine lv_iadd hx hb dL_law_292 ?_
  refine va_sld hx hb hX hbl hbA hI.2 hi1 dL_law_293 ?_
  refine lv_aload_n hx hb dL_law_294 rfl (lv_at hl 0 rfl) ?_
  refine lv_iload_n hx hb dL_law_295 rfl (lv_at hl 3 rfl) ?_
  refine lv_iconst (v := 2) hx hb dL_law_296 rfl ?_
  refine lv_iadd hx hb dL_law_297 ?_
  refine va_sld hx hb hX hbl hbA hI.2 hi2 dL_law_298 ?_
  refine jVS_i (rest := []) C (c4_table ha) gL_law_X4_table hd4_table hKx hN (P_left hI.1) rcX rfl ⟨rfl, rfl⟩ ⟨Nat.le_of_ble_eq_true rfl, Nat.le_of_ble_eq_true rfl⟩ rfl hl.1 rfl (Nat.le_of_ble_eq_true rfl) hcs dL_law_299 ?_
  refine lv_aload_n hx hb dL_law_302 rfl (lv_at hl 2 rfl) ?_
  refine lv_aload_n hx hb dL_law_303 rfl (lv_at hl 0 rfl) ?_
  refine lv_iload_n hx hb dL_law_304 rfl (lv_at hl 3 rfl) ?_
  refine lv_iconst (v := 1) hx hb dL_law_305 rfl ?_
  refine lv_iadd hx hb dL_law_306 ?_
  refine va_sld hx hb hX hbl hbA hI.2 hi1 dL_law_307 ?_
  refine lv_aload_n hx hb dL_law_308 rfl (lv_at hl 0 rfl) ?_
  refine lv_iload_n hx hb dL_law_309 rfl (lv_at hl 3 rfl) ?_
  refine lv_iconst (v := 2) hx hb dL_law_310 rfl ?_
  refine lv_iadd hx hb dL_law_311 ?_
  refine va_sld hx hb hX hbl hbA hI.2 hi2 dL_law_312 ?_
  refine jRE_i (wy := WX0 ad fa ca wad cI cR cG v_wn) (rest := [.int a]) C (c5_table hb2) gL_law_X5_table hd5_table hKm hN hD (by exact WX_map) hI rcM rfl ⟨rfl, rfl⟩ ⟨Nat.le_of_ble_eq_true rfl, Nat.le_of_ble_eq_true rfl⟩ rfl hl.1 rfl (Nat.le_of_ble_eq_true rfl) hcs dL_law_313 (fun H locs hI => ?_)
  refine lv_icmp_eq (tgt := 981) hx hb dL_law_316 rfl (fun _ => ?_) (fun c => absurd hab c)
  refine W.widen (k := cells + 1) (n := slots + 7) (Nat.le_add_right _ _) (Nat.le_add_right _ _) ?_
  exact K _ _ _ _ _ _ _ _ _ _ _ _ _ _ _ _ _ _ _ _ _ _ _ _ _ _ _ _ _ _ _ _ _ _ _ _ _ _ _ _ _ _ _ _ _ _ _ _ _ _ _ _ _ _ _ _ _ _ _ _ _ _ _ _ _ _ _ _ _ _ _ hI hD (hS2)
set_option maxHeartbeats 8000000 in
set_option maxRecDepth 100000 in
theorem law_end (F : LF p m c s b L xs args) (hKx : va_K D vwCl (tyX cI cR cG) s) (hKm : va_K D vwCl [(cA, .int)] s) (hcs2 : cells + 1 ≤ room_1.cells ∧ slots + 7 ≤ room_1.slots) (hi1 : vp_in (x3 + 1) L) (hi2 : vp_in (x3 + 2) L) (hl : lv_has ls 4 [(0, .ref b), (1, .ref (ad 0)), (2, .ref h5), (3, .int x3)]) (hI : LI D s H locs ((WX ad fa ca wad cI cR cG v_roadCount v_readings v_psize v_good v_pbits v_letters v_afterLetter v_codes v_disc v_rsize v_cycleCount v_fo v_cy v_s v_closed v_traces v_crossings v_db_bits v_db_size v_db_allBits v_db_a v_db_b v_db_c v_db_d v_dn_bits v_dn_size v_dn_allBits v_dn_a v_dn_b v_dn_c v_dn_d v_wn v_wv) ++ (WM h5 am cA m_pageLength m_page m_roads m_lengths m_signs m_wordsRead m_disc m_forms m_formA m_formB m_formC m_nextOf m_cycleOf m_cycles m_firstOf m_newLength m_newSigns m_mayRun m_size m_at m_otherSize m_other m_tableA m_tableB m_tableC m_tableD m_a m_b m_c m_grade m_flowA m_flowB m_flowC m_seedNow m_h))) (hD : LD s (WX0 ad fa ca wad cI cR cG v_wn) (WM0 h5 am cA)) (hSIM : SIM v_roadCount v_readings v_psize v_good v_pbits v_letters v_afterLetter v_codes v_disc v_rsize v_cycleCount v_fo v_cy v_wn v_wv m_pageLength m_page m_roads m_lengths m_signs m_wordsRead m_disc m_forms m_formA m_formB m_formC m_nextOf m_cycleOf m_cycles m_firstOf m_size)
    (K : ∀ (v_roadCount' : Int32) (v_readings' : Int32) (v_psize' : Int32) (v_good' : Int32) (v_pbits' : Int32) (v_letters' : Int32) (v_afterLetter' : Int32) (v_codes' : Nat → Int32) (v_disc' : Int32) (v_rsize' : Int32) (v_cycleCount' : Int32) (v_fo' : Nat → Nat → Int32) (v_cy' : Nat → Nat → Int32) (v_s' : Int64) (v_closed' : Int32) (v_traces' : Int32) (v_crossings' : Int32) (v_db_bits' : Int32) (v_db_size' : Int32) (v_db_allBits' : Int32) (v_db_a' : Int32) (v_db_b' : Int32) (v_db_c' : Int32) (v_db_d' : Int32) (v_dn_bits' : Int32) (v_dn_size' : Int32) (v_dn_allBits' : Int32) (v_dn_a' : Int32) (v_dn_b' : Int32) (v_dn_c' : Int32) (v_dn_d' : Int32) (v_wn' : Nat) (v_wv' : Nat → Nat → Int32) (m_pageLength' : Int32) (m_page' : Nat → Int32) (m_roads' : Int32) (m_lengths' : Nat → Int32) (m_signs' : Nat → Int32) (m_wordsRead' : Int32) (m_disc' : Int32) (m_forms' : Int32) (m_formA' : Nat → Int32) (m_formB' : Nat → Int32) (m_formC' : Nat → Int32) (m_nextOf' : Nat → Int32) (m_cycleOf' : Nat → Int32) (m_cycles' : Int32) (m_firstOf' : Nat → Int32) (m_newLength' : Int32) (m_newSigns' : Nat → Int32) (m_mayRun' : Int32) (m_size' : Int32) (m_at' : Nat → Int32) (m_otherSize' : Int32) (m_other' : Nat → Int32) (m_tableA' : Int32) (m_tableB' : Int32) (m_tableC' : Int32) (m_tableD' : Int32) (m_a' : Int32) (m_b' : Int32) (m_c' : Int32) (m_grade' : Int32) (m_flowA' : Int32) (m_flowB' : Int32) (m_flowC' : Int32) (m_seedNow' : Int64) (m_h' : Int64) (wad : Nat → Nat) (H : Heap) (locs : List Loc), LI D s H locs ((WX ad fa ca wad cI cR cG (v_roadCount') (v_readings') (v_psize') (v_good') (v_pbits') (v_letters') (v_afterLetter') (v_codes') (v_disc') (v_rsize') (v_cycleCount') (v_fo') (v_cy') (v_s') (v_closed') (v_traces') (v_crossings') (v_db_bits') (v_db_size') (v_db_allBits') (v_db_a') (v_db_b') (v_db_c') (v_db_d') (v_dn_bits') (v_dn_size') (v_dn_allBits') (v_dn_a') (v_dn_b') (v_dn_c') (v_dn_d') (v_wn') (v_wv')) ++ (WM h5 am cA (m_pageLength') (m_page') (m_roads') (m_lengths') (m_signs') (m_wordsRead') (m_disc') (m_forms') (m_formA') (m_formB') (m_formC') (m_nextOf') (m_cycleOf') (m_cycles') (m_firstOf') (m_newLength') (m_newSigns') (m_mayRun') (m_size') (m_at') (m_otherSize') (m_other') (m_tableA') (m_tableB') (m_tableC') (m_tableD') (m_a') (m_b') (m_c') (m_grade') (m_flowA') (m_flowB') (m_flowC') (m_seedNow') (m_h'))) → LD s (WX0 ad fa ca wad cI cR cG (v_wn')) (WM0 h5 am cA) → SIM (v_roadCount') (v_readings') (v_psize') (v_good') (v_pbits') (v_letters') (v_afterLetter') (v_codes') (v_disc') (v_rsize') (v_cycleCount') (v_fo') (v_cy') (v_wn') (v_wv') (m_pageLength') (m_page') (m_roads') (m_lengths') (m_signs') (m_wordsRead') (m_disc') (m_forms') (m_formA') (m_formB') (m_formC') (m_nextOf') (m_cycleOf') (m_cycles') (m_firstOf') (m_size') → W p l e room_1 s m args below meth c H locs (cells + 1) (slots + 7) Q (F0 m 981 ls [])) : W p l e room_1 s m args below meth c H locs cells slots Q (F0 m 354 ls []) := by
  obtain ⟨C, hN, hX, hbl⟩ := F
  have hx := C.1
  have hb := C.2.1
  have hcs : cells ≤ room_1.cells ∧ slots ≤ room_1.slots := ⟨Nat.le_trans (Nat.le_add_right _ _) hcs2.1, Nat.le_trans (Nat.le_add_right _ _) hcs2.2⟩
  have hcs1 : cells + 1 ≤ room_1.cells ∧ slots + 7 ≤ room_1.slots := hcs2
  have hbA : ¬ AL s b := Nat.not_le.mpr hbl
  obtain ⟨a, b2, ha, hb2, hab, hS2⟩ := sim_end (xs (x3 + 1).toNatClampNeg) (xs (x3 + 2).toNatClampNeg) hSIM
  refine lv_aload_n hx hb dL_law_354 rfl (lv_at hl 1 rfl) ?_
  refine lv_aload_n hx hb dL_law_355 rfl (lv_at hl 0 rfl) ?_
  refine lv_iload_n hx hb dL_law_356 rfl (lv_at hl 3 rfl) ?_
  refine lv_iconst (v := 1) hx hb dL_law_357 rfl ?_
  refine lv_iadd hx hb dL_law_358 ?_
  refine va_sld hx hb hX hbl hbA hI.2 hi1 dL_law_359 ?_
  refine lv_aload_n hx hb dL_law_360 rfl (lv_at hl 0 rfl) ?_
  refine lv_iload_n hx hb dL_law_361 rfl (lv_at hl 3 rfl) ?_
  refine lv_iconst (v := 2) hx hb dL_law_362 rfl ?_
  refine lv_iadd hx hb dL_law_363 ?_
  refine va_sld hx hb hX hbl hbA hI.2 hi2 dL_law_364 ?_
  refine jVS_i (rest := []) C (c4_end ha) gL_law_X4_end hd4_end hKx hN (P_left hI.1) rcX rfl ⟨rfl, rfl⟩ ⟨Nat.le_of_ble_eq_true rfl, Nat.le_of_ble_eq_true rfl⟩ rfl hl.1 rfl (Nat.le_of_ble_eq_true rfl) hcs dL_law_365 ?_
  refine lv_aload_n hx hb dL_law_368 rfl (lv_at hl 2 rfl) ?_
  refine lv_aload_n hx hb dL_law_369 rfl (lv_at hl 0 rfl) ?_
  refine lv_iload_n hx hb dL_law_370 rfl (lv_at hl 3 rfl) ?_
  refine lv_iconst (v := 1) hx hb dL_law_371 rfl ?_
  refine lv_iadd hx hb dL_law_372 ?_
  refine va_sld hx hb hX hbl hbA hI.2 hi1 dL_law_373 ?_
  refine lv_aload_n hx hb dL_law_374 rfl (lv_at hl 0 rfl) ?_
  refine lv_iload_n hx hb dL_law_375 rfl (lv_at hl 3 rfl) ?_
  refine lv_iconst (v := 2) hx hb dL_law_376 rfl ?_
  refine lv_iadd hx hb dL_law_377 ?_
  refine va_sld hx hb hX hbl hbA hI.2 hi2 dL_law_378 ?_
  refine jRE_i (wy := WX0 ad fa ca wad cI cR cG v_wn) (rest := [.int a]) C (c5_end hb2) gL_law_X5_end hd5_end hKm hN hD (by exact WX_map) hI rcM rfl ⟨rfl, rfl⟩ ⟨Nat.le_of_ble_eq_true rfl, Nat.le_of_ble_eq_true rfl⟩ rfl hl.1 rfl (Nat.le_of_ble_eq_true rfl) hcs dL_law_379 (fun H locs hI => ?_)
  refine lv_icmp_eq (tgt := 981) hx hb dL_law_382 rfl (fun _ => ?_) (fun c => absurd hab c)
  refine W.widen (k := cells + 1) (n := slots + 7) (Nat.le_add_right _ _) (Nat.le_add_right _ _) ?_
  exact K _ _ _ _ _ _ _ _ _ _ _ _ _ _ _ _ _ _ _ _ _ _ _ _ _ _ _ _ _ _ _ _ _ _ _ _ _ _ _ _ _ _ _ _ _ _ _ _ _ _ _ _ _ _ _ _ _ _ _ _ _ _ _ _ _ _ _ _ _ _ _ hI hD (hS2)
set_option maxHeartbeats 8000000 in
set_option maxRecDepth 100000 in
theorem law_cross (F : LF p m c s b L xs args) (hKx : va_K D vwCl (tyX cI cR cG) s) (hKm : va_K D vwCl [(cA, .int)] s) (hcs2 : cells + 1 ≤ room_1.cells ∧ slots + 7 ≤ room_1.slots) (hi1 : vp_in (x3 + 1) L) (hi2 : vp_in (x3 + 2) L) (hl : lv_has ls 4 [(0, .ref b), (1, .ref (ad 0)), (2, .ref h5), (3, .int x3)]) (hI : LI D s H locs ((WX ad fa ca wad cI cR cG v_roadCount v_readings v_psize v_good v_pbits v_letters v_afterLetter v_codes v_disc v_rsize v_cycleCount v_fo v_cy v_s v_closed v_traces v_crossings v_db_bits v_db_size v_db_allBits v_db_a v_db_b v_db_c v_db_d v_dn_bits v_dn_size v_dn_allBits v_dn_a v_dn_b v_dn_c v_dn_d v_wn v_wv) ++ (WM h5 am cA m_pageLength m_page m_roads m_lengths m_signs m_wordsRead m_disc m_forms m_formA m_formB m_formC m_nextOf m_cycleOf m_cycles m_firstOf m_newLength m_newSigns m_mayRun m_size m_at m_otherSize m_other m_tableA m_tableB m_tableC m_tableD m_a m_b m_c m_grade m_flowA m_flowB m_flowC m_seedNow m_h))) (hD : LD s (WX0 ad fa ca wad cI cR cG v_wn) (WM0 h5 am cA)) (hSIM : SIM v_roadCount v_readings v_psize v_good v_pbits v_letters v_afterLetter v_codes v_disc v_rsize v_cycleCount v_fo v_cy v_wn v_wv m_pageLength m_page m_roads m_lengths m_signs m_wordsRead m_disc m_forms m_formA m_formB m_formC m_nextOf m_cycleOf m_cycles m_firstOf m_size)
    (K : ∀ (v_roadCount' : Int32) (v_readings' : Int32) (v_psize' : Int32) (v_good' : Int32) (v_pbits' : Int32) (v_letters' : Int32) (v_afterLetter' : Int32) (v_codes' : Nat → Int32) (v_disc' : Int32) (v_rsize' : Int32) (v_cycleCount' : Int32) (v_fo' : Nat → Nat → Int32) (v_cy' : Nat → Nat → Int32) (v_s' : Int64) (v_closed' : Int32) (v_traces' : Int32) (v_crossings' : Int32) (v_db_bits' : Int32) (v_db_size' : Int32) (v_db_allBits' : Int32) (v_db_a' : Int32) (v_db_b' : Int32) (v_db_c' : Int32) (v_db_d' : Int32) (v_dn_bits' : Int32) (v_dn_size' : Int32) (v_dn_allBits' : Int32) (v_dn_a' : Int32) (v_dn_b' : Int32) (v_dn_c' : Int32) (v_dn_d' : Int32) (v_wn' : Nat) (v_wv' : Nat → Nat → Int32) (m_pageLength' : Int32) (m_page' : Nat → Int32) (m_roads' : Int32) (m_lengths' : Nat → Int32) (m_signs' : Nat → Int32) (m_wordsRead' : Int32) (m_disc' : Int32) (m_forms' : Int32) (m_formA' : Nat → Int32) (m_formB' : Nat → Int32) (m_formC' : Nat → Int32) (m_nextOf' : Nat → Int32) (m_cycleOf' : Nat → Int32) (m_cycles' : Int32) (m_firstOf' : Nat → Int32) (m_newLength' : Int32) (m_newSigns' : Nat → Int32) (m_mayRun' : Int32) (m_size' : Int32) (m_at' : Nat → Int32) (m_otherSize' : Int32) (m_other' : Nat → Int32) (m_tableA' : Int32) (m_tableB' : Int32) (m_tableC' : Int32) (m_tableD' : Int32) (m_a' : Int32) (m_b' : Int32) (m_c' : Int32) (m_grade' : Int32) (m_flowA' : Int32) (m_flowB' : Int32) (m_flowC' : Int32) (m_seedNow' : Int64) (m_h' : Int64) (wad : Nat → Nat) (H : Heap) (locs : List Loc), LI D s H locs ((WX ad fa ca wad cI cR cG (v_roadCount') (v_readings') (v_psize') (v_good') (v_pbits') (v_letters') (v_afterLetter') (v_codes') (v_disc') (v_rsize') (v_cycleCount') (v_fo') (v_cy') (v_s') (v_closed') (v_traces') (v_crossings') (v_db_bits') (v_db_size') (v_db_allBits') (v_db_a') (v_db_b') (v_db_c') (v_db_d') (v_dn_bits') (v_dn_size') (v_dn_allBits') (v_dn_a') (v_dn_b') (v_dn_c') (v_dn_d') (v_wn') (v_wv')) ++ (WM h5 am cA (m_pageLength') (m_page') (m_roads') (m_lengths') (m_signs') (m_wordsRead') (m_disc') (m_forms') (m_formA') (m_formB') (m_formC') (m_nextOf') (m_cycleOf') (m_cycles') (m_firstOf') (m_newLength') (m_newSigns') (m_mayRun') (m_size') (m_at') (m_otherSize') (m_other') (m_tableA') (m_tableB') (m_tableC') (m_tableD') (m_a') (m_b') (m_c') (m_grade') (m_flowA') (m_flowB') (m_flowC') (m_seedNow') (m_h'))) → LD s (WX0 ad fa ca wad cI cR cG (v_wn')) (WM0 h5 am cA) → SIM (v_roadCount') (v_readings') (v_psize') (v_good') (v_pbits') (v_letters') (v_afterLetter') (v_codes') (v_disc') (v_rsize') (v_cycleCount') (v_fo') (v_cy') (v_wn') (v_wv') (m_pageLength') (m_page') (m_roads') (m_lengths') (m_signs') (m_wordsRead') (m_disc') (m_forms') (m_formA') (m_formB') (m_formC') (m_nextOf') (m_cycleOf') (m_cycles') (m_firstOf') (m_size') → W p l e room_1 s m args below meth c H locs (cells + 1) (slots + 7) Q (F0 m 981 ls [])) : W p l e room_1 s m args below meth c H locs cells slots Q (F0 m 420 ls []) := by
  obtain ⟨C, hN, hX, hbl⟩ := F
  have hx := C.1
  have hb := C.2.1
  have hcs : cells ≤ room_1.cells ∧ slots ≤ room_1.slots := ⟨Nat.le_trans (Nat.le_add_right _ _) hcs2.1, Nat.le_trans (Nat.le_add_right _ _) hcs2.2⟩
  have hcs1 : cells + 1 ≤ room_1.cells ∧ slots + 7 ≤ room_1.slots := hcs2
  have hbA : ¬ AL s b := Nat.not_le.mpr hbl
  obtain ⟨a, b2, ha, hb2, hab, hS2⟩ := sim_cross (xs (x3 + 1).toNatClampNeg) (xs (x3 + 2).toNatClampNeg) hSIM
  refine lv_aload_n hx hb dL_law_420 rfl (lv_at hl 1 rfl) ?_
  refine lv_aload_n hx hb dL_law_421 rfl (lv_at hl 0 rfl) ?_
  refine lv_iload_n hx hb dL_law_422 rfl (lv_at hl 3 rfl) ?_
  refine lv_iconst (v := 1) hx hb dL_law_423 rfl ?_
  refine lv_iadd hx hb dL_law_424 ?_
  refine va_sld hx hb hX hbl hbA hI.2 hi1 dL_law_425 ?_
  refine lv_aload_n hx hb dL_law_426 rfl (lv_at hl 0 rfl) ?_
  refine lv_iload_n hx hb dL_law_427 rfl (lv_at hl 3 rfl) ?_
  refine lv_iconst (v := 2) hx hb dL_law_428 rfl ?_
  refine lv_iadd hx hb dL_law_429 ?_
  refine va_sld hx hb hX hbl hbA hI.2 hi2 dL_law_430 ?_
  refine jVS_i (rest := []) C (c4_cross ha) gL_law_X4_cross hd4_cross hKx hN (P_left hI.1) rcX rfl ⟨rfl, rfl⟩ ⟨Nat.le_of_ble_eq_true rfl, Nat.le_of_ble_eq_true rfl⟩ rfl hl.1 rfl (Nat.le_of_ble_eq_true rfl) hcs dL_law_431 ?_
  refine lv_aload_n hx hb dL_law_434 rfl (lv_at hl 2 rfl) ?_
  refine lv_aload_n hx hb dL_law_435 rfl (lv_at hl 0 rfl) ?_
  refine lv_iload_n hx hb dL_law_436 rfl (lv_at hl 3 rfl) ?_
  refine lv_iconst (v := 1) hx hb dL_law_437 rfl ?_
  refine lv_iadd hx hb dL_law_438 ?_
  refine va_sld hx hb hX hbl hbA hI.2 hi1 dL_law_439 ?_
  refine lv_aload_n hx hb dL_law_440 rfl (lv_at hl 0 rfl) ?_
  refine lv_iload_n hx hb dL_law_441 rfl (lv_at hl 3 rfl) ?_
  refine lv_iconst (v := 2) hx hb dL_law_442 rfl ?_
  refine lv_iadd hx hb dL_law_443 ?_
  refine va_sld hx hb hX hbl hbA hI.2 hi2 dL_law_444 ?_
  refine jRE_i (wy := WX0 ad fa ca wad cI cR cG v_wn) (rest := [.int a]) C (c5_cross hb2) gL_law_X5_cross hd5_cross hKm hN hD (by exact WX_map) hI rcM rfl ⟨rfl, rfl⟩ ⟨Nat.le_of_ble_eq_true rfl, Nat.le_of_ble_eq_true rfl⟩ rfl hl.1 rfl (Nat.le_of_ble_eq_true rfl) hcs dL_law_445 (fun H locs hI => ?_)
  refine lv_icmp_eq (tgt := 981) hx hb dL_law_448 rfl (fun _ => ?_) (fun c => absurd hab c)
  refine W.widen (k := cells + 1) (n := slots + 7) (Nat.le_add_right _ _) (Nat.le_add_right _ _) ?_
  exact K _ _ _ _ _ _ _ _ _ _ _ _ _ _ _ _ _ _ _ _ _ _ _ _ _ _ _ _ _ _ _ _ _ _ _ _ _ _ _ _ _ _ _ _ _ _ _ _ _ _ _ _ _ _ _ _ _ _ _ _ _ _ _ _ _ _ _ _ _ _ _ hI hD (hS2)
set_option maxHeartbeats 8000000 in
set_option maxRecDepth 100000 in
theorem law_change (F : LF p m c s b L xs args) (hKx : va_K D vwCl (tyX cI cR cG) s) (hKm : va_K D vwCl [(cA, .int)] s) (hcs2 : cells + 1 ≤ room_1.cells ∧ slots + 7 ≤ room_1.slots) (hi1 : vp_in (x3 + 1) L) (hi2 : vp_in (x3 + 2) L) (hl : lv_has ls 4 [(0, .ref b), (1, .ref (ad 0)), (2, .ref h5), (3, .int x3)]) (hI : LI D s H locs ((WX ad fa ca wad cI cR cG v_roadCount v_readings v_psize v_good v_pbits v_letters v_afterLetter v_codes v_disc v_rsize v_cycleCount v_fo v_cy v_s v_closed v_traces v_crossings v_db_bits v_db_size v_db_allBits v_db_a v_db_b v_db_c v_db_d v_dn_bits v_dn_size v_dn_allBits v_dn_a v_dn_b v_dn_c v_dn_d v_wn v_wv) ++ (WM h5 am cA m_pageLength m_page m_roads m_lengths m_signs m_wordsRead m_disc m_forms m_formA m_formB m_formC m_nextOf m_cycleOf m_cycles m_firstOf m_newLength m_newSigns m_mayRun m_size m_at m_otherSize m_other m_tableA m_tableB m_tableC m_tableD m_a m_b m_c m_grade m_flowA m_flowB m_flowC m_seedNow m_h))) (hD : LD s (WX0 ad fa ca wad cI cR cG v_wn) (WM0 h5 am cA)) (hSIM : SIM v_roadCount v_readings v_psize v_good v_pbits v_letters v_afterLetter v_codes v_disc v_rsize v_cycleCount v_fo v_cy v_wn v_wv m_pageLength m_page m_roads m_lengths m_signs m_wordsRead m_disc m_forms m_formA m_formB m_formC m_nextOf m_cycleOf m_cycles m_firstOf m_size)
    (K : ∀ (v_roadCount' : Int32) (v_readings' : Int32) (v_psize' : Int32) (v_good' : Int32) (v_pbits' : Int32) (v_letters' : Int32) (v_afterLetter' : Int32) (v_codes' : Nat → Int32) (v_disc' : Int32) (v_rsize' : Int32) (v_cycleCount' : Int32) (v_fo' : Nat → Nat → Int32) (v_cy' : Nat → Nat → Int32) (v_s' : Int64) (v_closed' : Int32) (v_traces' : Int32) (v_crossings' : Int32) (v_db_bits' : Int32) (v_db_size' : Int32) (v_db_allBits' : Int32) (v_db_a' : Int32) (v_db_b' : Int32) (v_db_c' : Int32) (v_db_d' : Int32) (v_dn_bits' : Int32) (v_dn_size' : Int32) (v_dn_allBits' : Int32) (v_dn_a' : Int32) (v_dn_b' : Int32) (v_dn_c' : Int32) (v_dn_d' : Int32) (v_wn' : Nat) (v_wv' : Nat → Nat → Int32) (m_pageLength' : Int32) (m_page' : Nat → Int32) (m_roads' : Int32) (m_lengths' : Nat → Int32) (m_signs' : Nat → Int32) (m_wordsRead' : Int32) (m_disc' : Int32) (m_forms' : Int32) (m_formA' : Nat → Int32) (m_formB' : Nat → Int32) (m_formC' : Nat → Int32) (m_nextOf' : Nat → Int32) (m_cycleOf' : Nat → Int32) (m_cycles' : Int32) (m_firstOf' : Nat → Int32) (m_newLength' : Int32) (m_newSigns' : Nat → Int32) (m_mayRun' : Int32) (m_size' : Int32) (m_at' : Nat → Int32) (m_otherSize' : Int32) (m_other' : Nat → Int32) (m_tableA' : Int32) (m_tableB' : Int32) (m_tableC' : Int32) (m_tableD' : Int32) (m_a' : Int32) (m_b' : Int32) (m_c' : Int32) (m_grade' : Int32) (m_flowA' : Int32) (m_flowB' : Int32) (m_flowC' : Int32) (m_seedNow' : Int64) (m_h' : Int64) (wad : Nat → Nat) (H : Heap) (locs : List Loc), LI D s H locs ((WX ad fa ca wad cI cR cG (v_roadCount') (v_readings') (v_psize') (v_good') (v_pbits') (v_letters') (v_afterLetter') (v_codes') (v_disc') (v_rsize') (v_cycleCount') (v_fo') (v_cy') (v_s') (v_closed') (v_traces') (v_crossings') (v_db_bits') (v_db_size') (v_db_allBits') (v_db_a') (v_db_b') (v_db_c') (v_db_d') (v_dn_bits') (v_dn_size') (v_dn_allBits') (v_dn_a') (v_dn_b') (v_dn_c') (v_dn_d') (v_wn') (v_wv')) ++ (WM h5 am cA (m_pageLength') (m_page') (m_roads') (m_lengths') (m_signs') (m_wordsRead') (m_disc') (m_forms') (m_formA') (m_formB') (m_formC') (m_nextOf') (m_cycleOf') (m_cycles') (m_firstOf') (m_newLength') (m_newSigns') (m_mayRun') (m_size') (m_at') (m_otherSize') (m_other') (m_tableA') (m_tableB') (m_tableC') (m_tableD') (m_a') (m_b') (m_c') (m_grade') (m_flowA') (m_flowB') (m_flowC') (m_seedNow') (m_h'))) → LD s (WX0 ad fa ca wad cI cR cG (v_wn')) (WM0 h5 am cA) → SIM (v_roadCount') (v_readings') (v_psize') (v_good') (v_pbits') (v_letters') (v_afterLetter') (v_codes') (v_disc') (v_rsize') (v_cycleCount') (v_fo') (v_cy') (v_wn') (v_wv') (m_pageLength') (m_page') (m_roads') (m_lengths') (m_signs') (m_wordsRead') (m_disc') (m_forms') (m_formA') (m_formB') (m_formC') (m_nextOf') (m_cycleOf') (m_cycles') (m_firstOf') (m_size') → W p l e room_1 s m args below meth c H locs (cells + 1) (slots + 7) Q (F0 m 981 ls [])) : W p l e room_1 s m args below meth c H locs cells slots Q (F0 m 486 ls []) := by
  obtain ⟨C, hN, hX, hbl⟩ := F
  have hx := C.1
  have hb := C.2.1
  have hcs : cells ≤ room_1.cells ∧ slots ≤ room_1.slots := ⟨Nat.le_trans (Nat.le_add_right _ _) hcs2.1, Nat.le_trans (Nat.le_add_right _ _) hcs2.2⟩
  have hcs1 : cells + 1 ≤ room_1.cells ∧ slots + 7 ≤ room_1.slots := hcs2
  have hbA : ¬ AL s b := Nat.not_le.mpr hbl
  obtain ⟨a, b2, ha, hb2, hab, hS2⟩ := sim_change (xs (x3 + 1).toNatClampNeg) (xs (x3 + 2).toNatClampNeg) hSIM
  refine lv_aload_n hx hb dL_law_486 rfl (lv_at hl 1 rfl) ?_
  refine lv_aload_n hx hb dL_law_487 rfl (lv_at hl 0 rfl) ?_
  refine lv_iload_n hx hb dL_law_488 rfl (lv_at hl 3 rfl) ?_
  refine lv_iconst (v := 1) hx hb dL_law_489 rfl ?_
  refine lv_iadd hx hb dL_law_490 ?_
  refine va_sld hx hb hX hbl hbA hI.2 hi1 dL_law_491 ?_
  refine lv_aload_n hx hb dL_law_492 rfl (lv_at hl 0 rfl) ?_
  refine lv_iload_n hx hb dL_law_493 rfl (lv_at hl 3 rfl) ?_
  refine lv_iconst (v := 2) hx hb dL_law_494 rfl ?_
  refine lv_iadd hx hb dL_law_495 ?_
  refine va_sld hx hb hX hbl hbA hI.2 hi2 dL_law_496 ?_
  refine jLE_i (wy := WM0 h5 am cA) (rest := []) C (c4_change ha) gL_law_X4_change hd4_change hKx hN hD (by rfl) hI rcX rfl ⟨rfl, rfl⟩ ⟨Nat.le_of_ble_eq_true rfl, Nat.le_of_ble_eq_true rfl⟩ rfl hl.1 rfl (Nat.le_of_ble_eq_true rfl) hcs dL_law_497 (fun H locs hI => ?_)
  refine lv_aload_n hx hb dL_law_500 rfl (lv_at hl 2 rfl) ?_
  refine lv_aload_n hx hb dL_law_501 rfl (lv_at hl 0 rfl) ?_
  refine lv_iload_n hx hb dL_law_502 rfl (lv_at hl 3 rfl) ?_
  refine lv_iconst (v := 1) hx hb dL_law_503 rfl ?_
  refine lv_iadd hx hb dL_law_504 ?_
  refine va_sld hx hb hX hbl hbA hI.2 hi1 dL_law_505 ?_
  refine lv_aload_n hx hb dL_law_506 rfl (lv_at hl 0 rfl) ?_
  refine lv_iload_n hx hb dL_law_507 rfl (lv_at hl 3 rfl) ?_
  refine lv_iconst (v := 2) hx hb dL_law_508 rfl ?_
  refine lv_iadd hx hb dL_law_509 ?_
  refine va_sld hx hb hX hbl hbA hI.2 hi2 dL_law_510 ?_
  refine jRE_i (wy := WX0 ad fa ca wad cI cR cG v_wn) (rest := [.int a.1]) C (c5_change hb2) gL_law_X5_change hd5_change hKm hN hD (by exact WX_map) hI rcM rfl ⟨rfl, rfl⟩ ⟨Nat.le_of_ble_eq_true rfl, Nat.le_of_ble_eq_true rfl⟩ rfl hl.1 rfl (Nat.le_of_ble_eq_true rfl) hcs dL_law_511 (fun H locs hI => ?_)
  refine lv_icmp_eq (tgt := 981) hx hb dL_law_514 rfl (fun _ => ?_) (fun c => absurd hab c)
  refine W.widen (k := cells + 1) (n := slots + 7) (Nat.le_add_right _ _) (Nat.le_add_right _ _) ?_
  exact K _ _ _ _ _ _ _ _ _ _ _ _ _ _ _ _ _ _ _ _ _ _ _ _ _ _ _ _ _ _ _ _ _ _ _ _ _ _ _ _ _ _ _ _ _ _ _ _ _ _ _ _ _ _ _ _ _ _ _ _ _ _ _ _ _ _ _ _ _ _ _ hI hD (hS2)
set_option maxHeartbeats 8000000 in
set_option maxRecDepth 100000 in
theorem law_times (F : LF p m c s b L xs args) (hKx : va_K D vwCl (tyX cI cR cG) s) (hKm : va_K D vwCl [(cA, .int)] s) (hcs2 : cells + 1 ≤ room_1.cells ∧ slots + 7 ≤ room_1.slots) (hi1 : vp_in (x3 + 1) L) (hi2 : vp_in (x3 + 2) L) (hl : lv_has ls 4 [(0, .ref b), (1, .ref (ad 0)), (2, .ref h5), (3, .int x3)]) (hI : LI D s H locs ((WX ad fa ca wad cI cR cG v_roadCount v_readings v_psize v_good v_pbits v_letters v_afterLetter v_codes v_disc v_rsize v_cycleCount v_fo v_cy v_s v_closed v_traces v_crossings v_db_bits v_db_size v_db_allBits v_db_a v_db_b v_db_c v_db_d v_dn_bits v_dn_size v_dn_allBits v_dn_a v_dn_b v_dn_c v_dn_d v_wn v_wv) ++ (WM h5 am cA m_pageLength m_page m_roads m_lengths m_signs m_wordsRead m_disc m_forms m_formA m_formB m_formC m_nextOf m_cycleOf m_cycles m_firstOf m_newLength m_newSigns m_mayRun m_size m_at m_otherSize m_other m_tableA m_tableB m_tableC m_tableD m_a m_b m_c m_grade m_flowA m_flowB m_flowC m_seedNow m_h))) (hD : LD s (WX0 ad fa ca wad cI cR cG v_wn) (WM0 h5 am cA)) (hSIM : SIM v_roadCount v_readings v_psize v_good v_pbits v_letters v_afterLetter v_codes v_disc v_rsize v_cycleCount v_fo v_cy v_wn v_wv m_pageLength m_page m_roads m_lengths m_signs m_wordsRead m_disc m_forms m_formA m_formB m_formC m_nextOf m_cycleOf m_cycles m_firstOf m_size)
    (K : ∀ (v_roadCount' : Int32) (v_readings' : Int32) (v_psize' : Int32) (v_good' : Int32) (v_pbits' : Int32) (v_letters' : Int32) (v_afterLetter' : Int32) (v_codes' : Nat → Int32) (v_disc' : Int32) (v_rsize' : Int32) (v_cycleCount' : Int32) (v_fo' : Nat → Nat → Int32) (v_cy' : Nat → Nat → Int32) (v_s' : Int64) (v_closed' : Int32) (v_traces' : Int32) (v_crossings' : Int32) (v_db_bits' : Int32) (v_db_size' : Int32) (v_db_allBits' : Int32) (v_db_a' : Int32) (v_db_b' : Int32) (v_db_c' : Int32) (v_db_d' : Int32) (v_dn_bits' : Int32) (v_dn_size' : Int32) (v_dn_allBits' : Int32) (v_dn_a' : Int32) (v_dn_b' : Int32) (v_dn_c' : Int32) (v_dn_d' : Int32) (v_wn' : Nat) (v_wv' : Nat → Nat → Int32) (m_pageLength' : Int32) (m_page' : Nat → Int32) (m_roads' : Int32) (m_lengths' : Nat → Int32) (m_signs' : Nat → Int32) (m_wordsRead' : Int32) (m_disc' : Int32) (m_forms' : Int32) (m_formA' : Nat → Int32) (m_formB' : Nat → Int32) (m_formC' : Nat → Int32) (m_nextOf' : Nat → Int32) (m_cycleOf' : Nat → Int32) (m_cycles' : Int32) (m_firstOf' : Nat → Int32) (m_newLength' : Int32) (m_newSigns' : Nat → Int32) (m_mayRun' : Int32) (m_size' : Int32) (m_at' : Nat → Int32) (m_otherSize' : Int32) (m_other' : Nat → Int32) (m_tableA' : Int32) (m_tableB' : Int32) (m_tableC' : Int32) (m_tableD' : Int32) (m_a' : Int32) (m_b' : Int32) (m_c' : Int32) (m_grade' : Int32) (m_flowA' : Int32) (m_flowB' : Int32) (m_flowC' : Int32) (m_seedNow' : Int64) (m_h' : Int64) (wad : Nat → Nat) (H : Heap) (locs : List Loc), LI D s H locs ((WX ad fa ca wad cI cR cG (v_roadCount') (v_readings') (v_psize') (v_good') (v_pbits') (v_letters') (v_afterLetter') (v_codes') (v_disc') (v_rsize') (v_cycleCount') (v_fo') (v_cy') (v_s') (v_closed') (v_traces') (v_crossings') (v_db_bits') (v_db_size') (v_db_allBits') (v_db_a') (v_db_b') (v_db_c') (v_db_d') (v_dn_bits') (v_dn_size') (v_dn_allBits') (v_dn_a') (v_dn_b') (v_dn_c') (v_dn_d') (v_wn') (v_wv')) ++ (WM h5 am cA (m_pageLength') (m_page') (m_roads') (m_lengths') (m_signs') (m_wordsRead') (m_disc') (m_forms') (m_formA') (m_formB') (m_formC') (m_nextOf') (m_cycleOf') (m_cycles') (m_firstOf') (m_newLength') (m_newSigns') (m_mayRun') (m_size') (m_at') (m_otherSize') (m_other') (m_tableA') (m_tableB') (m_tableC') (m_tableD') (m_a') (m_b') (m_c') (m_grade') (m_flowA') (m_flowB') (m_flowC') (m_seedNow') (m_h'))) → LD s (WX0 ad fa ca wad cI cR cG (v_wn')) (WM0 h5 am cA) → SIM (v_roadCount') (v_readings') (v_psize') (v_good') (v_pbits') (v_letters') (v_afterLetter') (v_codes') (v_disc') (v_rsize') (v_cycleCount') (v_fo') (v_cy') (v_wn') (v_wv') (m_pageLength') (m_page') (m_roads') (m_lengths') (m_signs') (m_wordsRead') (m_disc') (m_forms') (m_formA') (m_formB') (m_formC') (m_nextOf') (m_cycleOf') (m_cycles') (m_firstOf') (m_size') → W p l e room_1 s m args below meth c H locs (cells + 1) (slots + 7) Q (F0 m 981 ls [])) : W p l e room_1 s m args below meth c H locs cells slots Q (F0 m 552 ls []) := by
  obtain ⟨C, hN, hX, hbl⟩ := F
  have hx := C.1
  have hb := C.2.1
  have hcs : cells ≤ room_1.cells ∧ slots ≤ room_1.slots := ⟨Nat.le_trans (Nat.le_add_right _ _) hcs2.1, Nat.le_trans (Nat.le_add_right _ _) hcs2.2⟩
  have hcs1 : cells + 1 ≤ room_1.cells ∧ slots + 7 ≤ room_1.slots := hcs2
  have hbA : ¬ AL s b := Nat.not_le.mpr hbl
  obtain ⟨a, b2, ha, hb2, hab, hS2⟩ := sim_times (xs (x3 + 1).toNatClampNeg) (xs (x3 + 2).toNatClampNeg) hSIM
  refine lv_aload_n hx hb dL_law_552 rfl (lv_at hl 1 rfl) ?_
  refine lv_aload_n hx hb dL_law_553 rfl (lv_at hl 0 rfl) ?_
  refine lv_iload_n hx hb dL_law_554 rfl (lv_at hl 3 rfl) ?_
  refine lv_iconst (v := 1) hx hb dL_law_555 rfl ?_
  refine lv_iadd hx hb dL_law_556 ?_
  refine va_sld hx hb hX hbl hbA hI.2 hi1 dL_law_557 ?_
  refine lv_aload_n hx hb dL_law_558 rfl (lv_at hl 0 rfl) ?_
  refine lv_iload_n hx hb dL_law_559 rfl (lv_at hl 3 rfl) ?_
  refine lv_iconst (v := 2) hx hb dL_law_560 rfl ?_
  refine lv_iadd hx hb dL_law_561 ?_
  refine va_sld hx hb hX hbl hbA hI.2 hi2 dL_law_562 ?_
  refine jLG_i (wy := WM0 h5 am cA) (rest := []) C (c4_times ha) gL_law_X4_times hd4_times hKx hN hD (by rfl) hI rcX rfl ⟨rfl, rfl⟩ ⟨Nat.le_of_ble_eq_true rfl, Nat.le_of_ble_eq_true rfl⟩ rfl hl.1 rfl (Nat.le_of_ble_eq_true rfl) hcs2 dL_law_563 (fun wad H locs hD hI => ?_)
  refine lv_aload_n hx hb dL_law_566 rfl (lv_at hl 2 rfl) ?_
  refine lv_aload_n hx hb dL_law_567 rfl (lv_at hl 0 rfl) ?_
  refine lv_iload_n hx hb dL_law_568 rfl (lv_at hl 3 rfl) ?_
  refine lv_iconst (v := 1) hx hb dL_law_569 rfl ?_
  refine lv_iadd hx hb dL_law_570 ?_
  refine va_sld hx hb hX hbl hbA hI.2 hi1 dL_law_571 ?_
  refine lv_aload_n hx hb dL_law_572 rfl (lv_at hl 0 rfl) ?_
  refine lv_iload_n hx hb dL_law_573 rfl (lv_at hl 3 rfl) ?_
  refine lv_iconst (v := 2) hx hb dL_law_574 rfl ?_
  refine lv_iadd hx hb dL_law_575 ?_
  refine va_sld hx hb hX hbl hbA hI.2 hi2 dL_law_576 ?_
  refine jRE_i (wy := WX0 ad fa ca wad cI cR cG a.2.2.1) (rest := [.int a.1]) C (c5_times hb2) gL_law_X5_times hd5_times hKm hN hD (by exact WX_map) hI rcM rfl ⟨rfl, rfl⟩ ⟨Nat.le_of_ble_eq_true rfl, Nat.le_of_ble_eq_true rfl⟩ rfl hl.1 rfl (Nat.le_of_ble_eq_true rfl) hcs1 dL_law_577 (fun H locs hI => ?_)
  refine lv_icmp_eq (tgt := 981) hx hb dL_law_580 rfl (fun _ => ?_) (fun c => absurd hab c)
  exact K _ _ _ _ _ _ _ _ _ _ _ _ _ _ _ _ _ _ _ _ _ _ _ _ _ _ _ _ _ _ _ _ _ _ _ _ _ _ _ _ _ _ _ _ _ _ _ _ _ _ _ _ _ _ _ _ _ _ _ _ _ _ _ _ _ _ _ _ _ _ _ hI hD (hS2)
set_option maxHeartbeats 8000000 in
set_option maxRecDepth 100000 in
theorem law_drop (F : LF p m c s b L xs args) (hKx : va_K D vwCl (tyX cI cR cG) s) (hKm : va_K D vwCl [(cA, .int)] s) (hcs2 : cells + 1 ≤ room_1.cells ∧ slots + 7 ≤ room_1.slots) (hl : lv_has ls 4 [(0, .ref b), (1, .ref (ad 0)), (2, .ref h5), (3, .int x3)]) (hI : LI D s H locs ((WX ad fa ca wad cI cR cG v_roadCount v_readings v_psize v_good v_pbits v_letters v_afterLetter v_codes v_disc v_rsize v_cycleCount v_fo v_cy v_s v_closed v_traces v_crossings v_db_bits v_db_size v_db_allBits v_db_a v_db_b v_db_c v_db_d v_dn_bits v_dn_size v_dn_allBits v_dn_a v_dn_b v_dn_c v_dn_d v_wn v_wv) ++ (WM h5 am cA m_pageLength m_page m_roads m_lengths m_signs m_wordsRead m_disc m_forms m_formA m_formB m_formC m_nextOf m_cycleOf m_cycles m_firstOf m_newLength m_newSigns m_mayRun m_size m_at m_otherSize m_other m_tableA m_tableB m_tableC m_tableD m_a m_b m_c m_grade m_flowA m_flowB m_flowC m_seedNow m_h))) (hD : LD s (WX0 ad fa ca wad cI cR cG v_wn) (WM0 h5 am cA)) (hSIM : SIM v_roadCount v_readings v_psize v_good v_pbits v_letters v_afterLetter v_codes v_disc v_rsize v_cycleCount v_fo v_cy v_wn v_wv m_pageLength m_page m_roads m_lengths m_signs m_wordsRead m_disc m_forms m_formA m_formB m_formC m_nextOf m_cycleOf m_cycles m_firstOf m_size)
    (K : ∀ (v_roadCount' : Int32) (v_readings' : Int32) (v_psize' : Int32) (v_good' : Int32) (v_pbits' : Int32) (v_letters' : Int32) (v_afterLetter' : Int32) (v_codes' : Nat → Int32) (v_disc' : Int32) (v_rsize' : Int32) (v_cycleCount' : Int32) (v_fo' : Nat → Nat → Int32) (v_cy' : Nat → Nat → Int32) (v_s' : Int64) (v_closed' : Int32) (v_traces' : Int32) (v_crossings' : Int32) (v_db_bits' : Int32) (v_db_size' : Int32) (v_db_allBits' : Int32) (v_db_a' : Int32) (v_db_b' : Int32) (v_db_c' : Int32) (v_db_d' : Int32) (v_dn_bits' : Int32) (v_dn_size' : Int32) (v_dn_allBits' : Int32) (v_dn_a' : Int32) (v_dn_b' : Int32) (v_dn_c' : Int32) (v_dn_d' : Int32) (v_wn' : Nat) (v_wv' : Nat → Nat → Int32) (m_pageLength' : Int32) (m_page' : Nat → Int32) (m_roads' : Int32) (m_lengths' : Nat → Int32) (m_signs' : Nat → Int32) (m_wordsRead' : Int32) (m_disc' : Int32) (m_forms' : Int32) (m_formA' : Nat → Int32) (m_formB' : Nat → Int32) (m_formC' : Nat → Int32) (m_nextOf' : Nat → Int32) (m_cycleOf' : Nat → Int32) (m_cycles' : Int32) (m_firstOf' : Nat → Int32) (m_newLength' : Int32) (m_newSigns' : Nat → Int32) (m_mayRun' : Int32) (m_size' : Int32) (m_at' : Nat → Int32) (m_otherSize' : Int32) (m_other' : Nat → Int32) (m_tableA' : Int32) (m_tableB' : Int32) (m_tableC' : Int32) (m_tableD' : Int32) (m_a' : Int32) (m_b' : Int32) (m_c' : Int32) (m_grade' : Int32) (m_flowA' : Int32) (m_flowB' : Int32) (m_flowC' : Int32) (m_seedNow' : Int64) (m_h' : Int64) (wad : Nat → Nat) (H : Heap) (locs : List Loc), LI D s H locs ((WX ad fa ca wad cI cR cG (v_roadCount') (v_readings') (v_psize') (v_good') (v_pbits') (v_letters') (v_afterLetter') (v_codes') (v_disc') (v_rsize') (v_cycleCount') (v_fo') (v_cy') (v_s') (v_closed') (v_traces') (v_crossings') (v_db_bits') (v_db_size') (v_db_allBits') (v_db_a') (v_db_b') (v_db_c') (v_db_d') (v_dn_bits') (v_dn_size') (v_dn_allBits') (v_dn_a') (v_dn_b') (v_dn_c') (v_dn_d') (v_wn') (v_wv')) ++ (WM h5 am cA (m_pageLength') (m_page') (m_roads') (m_lengths') (m_signs') (m_wordsRead') (m_disc') (m_forms') (m_formA') (m_formB') (m_formC') (m_nextOf') (m_cycleOf') (m_cycles') (m_firstOf') (m_newLength') (m_newSigns') (m_mayRun') (m_size') (m_at') (m_otherSize') (m_other') (m_tableA') (m_tableB') (m_tableC') (m_tableD') (m_a') (m_b') (m_c') (m_grade') (m_flowA') (m_flowB') (m_flowC') (m_seedNow') (m_h'))) → LD s (WX0 ad fa ca wad cI cR cG (v_wn')) (WM0 h5 am cA) → SIM (v_roadCount') (v_readings') (v_psize') (v_good') (v_pbits') (v_letters') (v_afterLetter') (v_codes') (v_disc') (v_rsize') (v_cycleCount') (v_fo') (v_cy') (v_wn') (v_wv') (m_pageLength') (m_page') (m_roads') (m_lengths') (m_signs') (m_wordsRead') (m_disc') (m_forms') (m_formA') (m_formB') (m_formC') (m_nextOf') (m_cycleOf') (m_cycles') (m_firstOf') (m_size') → W p l e room_1 s m args below meth c H locs (cells + 1) (slots + 7) Q (F0 m 981 ls [])) : W p l e room_1 s m args below meth c H locs cells slots Q (F0 m 618 ls []) := by
  obtain ⟨C, hN, hX, hbl⟩ := F
  have hx := C.1
  have hb := C.2.1
  have hcs : cells ≤ room_1.cells ∧ slots ≤ room_1.slots := ⟨Nat.le_trans (Nat.le_add_right _ _) hcs2.1, Nat.le_trans (Nat.le_add_right _ _) hcs2.2⟩
  have hcs1 : cells + 1 ≤ room_1.cells ∧ slots + 7 ≤ room_1.slots := hcs2
  have hbA : ¬ AL s b := Nat.not_le.mpr hbl
  obtain ⟨a, b2, ha, hb2, hab, hS2⟩ := sim_drop hSIM
  refine lv_aload_n hx hb dL_law_618 rfl (lv_at hl 1 rfl) ?_
  refine jLE_i (wy := WM0 h5 am cA) (rest := []) C (c4_drop ha) gL_law_X4_drop hd4_drop hKx hN hD (by rfl) hI rcX rfl ⟨rfl, rfl⟩ ⟨Nat.le_of_ble_eq_true rfl, Nat.le_of_ble_eq_true rfl⟩ rfl hl.1 rfl (Nat.le_of_ble_eq_true rfl) hcs dL_law_619 (fun H locs hI => ?_)
  refine lv_aload_n hx hb dL_law_622 rfl (lv_at hl 2 rfl) ?_
  refine jRE_i (wy := WX0 ad fa ca wad cI cR cG v_wn) (rest := [.int a.1]) C (c5_drop hb2) gL_law_X5_drop hd5_drop hKm hN hD (by exact WX_map) hI rcM rfl ⟨rfl, rfl⟩ ⟨Nat.le_of_ble_eq_true rfl, Nat.le_of_ble_eq_true rfl⟩ rfl hl.1 rfl (Nat.le_of_ble_eq_true rfl) hcs dL_law_623 (fun H locs hI => ?_)
  refine lv_icmp_eq (tgt := 981) hx hb dL_law_626 rfl (fun _ => ?_) (fun c => absurd hab c)
  refine W.widen (k := cells + 1) (n := slots + 7) (Nat.le_add_right _ _) (Nat.le_add_right _ _) ?_
  exact K _ _ _ _ _ _ _ _ _ _ _ _ _ _ _ _ _ _ _ _ _ _ _ _ _ _ _ _ _ _ _ _ _ _ _ _ _ _ _ _ _ _ _ _ _ _ _ _ _ _ _ _ _ _ _ _ _ _ _ _ _ _ _ _ _ _ _ _ _ _ _ hI hD (hS2)
set_option maxHeartbeats 8000000 in
set_option maxRecDepth 100000 in
theorem law_simple (F : LF p m c s b L xs args) (hKx : va_K D vwCl (tyX cI cR cG) s) (hKm : va_K D vwCl [(cA, .int)] s) (hcs2 : cells + 1 ≤ room_1.cells ∧ slots + 7 ≤ room_1.slots) (hi1 : vp_in (x3 + 1) L) (hi2 : vp_in (x3 + 2) L) (hl : lv_has ls 4 [(0, .ref b), (1, .ref (ad 0)), (2, .ref h5), (3, .int x3)]) (hI : LI D s H locs ((WX ad fa ca wad cI cR cG v_roadCount v_readings v_psize v_good v_pbits v_letters v_afterLetter v_codes v_disc v_rsize v_cycleCount v_fo v_cy v_s v_closed v_traces v_crossings v_db_bits v_db_size v_db_allBits v_db_a v_db_b v_db_c v_db_d v_dn_bits v_dn_size v_dn_allBits v_dn_a v_dn_b v_dn_c v_dn_d v_wn v_wv) ++ (WM h5 am cA m_pageLength m_page m_roads m_lengths m_signs m_wordsRead m_disc m_forms m_formA m_formB m_formC m_nextOf m_cycleOf m_cycles m_firstOf m_newLength m_newSigns m_mayRun m_size m_at m_otherSize m_other m_tableA m_tableB m_tableC m_tableD m_a m_b m_c m_grade m_flowA m_flowB m_flowC m_seedNow m_h))) (hD : LD s (WX0 ad fa ca wad cI cR cG v_wn) (WM0 h5 am cA)) (hSIM : SIM v_roadCount v_readings v_psize v_good v_pbits v_letters v_afterLetter v_codes v_disc v_rsize v_cycleCount v_fo v_cy v_wn v_wv m_pageLength m_page m_roads m_lengths m_signs m_wordsRead m_disc m_forms m_formA m_formB m_formC m_nextOf m_cycleOf m_cycles m_firstOf m_size)
    (K : ∀ (v_roadCount' : Int32) (v_readings' : Int32) (v_psize' : Int32) (v_good' : Int32) (v_pbits' : Int32) (v_letters' : Int32) (v_afterLetter' : Int32) (v_codes' : Nat → Int32) (v_disc' : Int32) (v_rsize' : Int32) (v_cycleCount' : Int32) (v_fo' : Nat → Nat → Int32) (v_cy' : Nat → Nat → Int32) (v_s' : Int64) (v_closed' : Int32) (v_traces' : Int32) (v_crossings' : Int32) (v_db_bits' : Int32) (v_db_size' : Int32) (v_db_allBits' : Int32) (v_db_a' : Int32) (v_db_b' : Int32) (v_db_c' : Int32) (v_db_d' : Int32) (v_dn_bits' : Int32) (v_dn_size' : Int32) (v_dn_allBits' : Int32) (v_dn_a' : Int32) (v_dn_b' : Int32) (v_dn_c' : Int32) (v_dn_d' : Int32) (v_wn' : Nat) (v_wv' : Nat → Nat → Int32) (m_pageLength' : Int32) (m_page' : Nat → Int32) (m_roads' : Int32) (m_lengths' : Nat → Int32) (m_signs' : Nat → Int32) (m_wordsRead' : Int32) (m_disc' : Int32) (m_forms' : Int32) (m_formA' : Nat → Int32) (m_formB' : Nat → Int32) (m_formC' : Nat → Int32) (m_nextOf' : Nat → Int32) (m_cycleOf' : Nat → Int32) (m_cycles' : Int32) (m_firstOf' : Nat → Int32) (m_newLength' : Int32) (m_newSigns' : Nat → Int32) (m_mayRun' : Int32) (m_size' : Int32) (m_at' : Nat → Int32) (m_otherSize' : Int32) (m_other' : Nat → Int32) (m_tableA' : Int32) (m_tableB' : Int32) (m_tableC' : Int32) (m_tableD' : Int32) (m_a' : Int32) (m_b' : Int32) (m_c' : Int32) (m_grade' : Int32) (m_flowA' : Int32) (m_flowB' : Int32) (m_flowC' : Int32) (m_seedNow' : Int64) (m_h' : Int64) (wad : Nat → Nat) (H : Heap) (locs : List Loc), LI D s H locs ((WX ad fa ca wad cI cR cG (v_roadCount') (v_readings') (v_psize') (v_good') (v_pbits') (v_letters') (v_afterLetter') (v_codes') (v_disc') (v_rsize') (v_cycleCount') (v_fo') (v_cy') (v_s') (v_closed') (v_traces') (v_crossings') (v_db_bits') (v_db_size') (v_db_allBits') (v_db_a') (v_db_b') (v_db_c') (v_db_d') (v_dn_bits') (v_dn_size') (v_dn_allBits') (v_dn_a') (v_dn_b') (v_dn_c') (v_dn_d') (v_wn') (v_wv')) ++ (WM h5 am cA (m_pageLength') (m_page') (m_roads') (m_lengths') (m_signs') (m_wordsRead') (m_disc') (m_forms') (m_formA') (m_formB') (m_formC') (m_nextOf') (m_cycleOf') (m_cycles') (m_firstOf') (m_newLength') (m_newSigns') (m_mayRun') (m_size') (m_at') (m_otherSize') (m_other') (m_tableA') (m_tableB') (m_tableC') (m_tableD') (m_a') (m_b') (m_c') (m_grade') (m_flowA') (m_flowB') (m_flowC') (m_seedNow') (m_h'))) → LD s (WX0 ad fa ca wad cI cR cG (v_wn')) (WM0 h5 am cA) → SIM (v_roadCount') (v_readings') (v_psize') (v_good') (v_pbits') (v_letters') (v_afterLetter') (v_codes') (v_disc') (v_rsize') (v_cycleCount') (v_fo') (v_cy') (v_wn') (v_wv') (m_pageLength') (m_page') (m_roads') (m_lengths') (m_signs') (m_wordsRead') (m_disc') (m_forms') (m_formA') (m_formB') (m_formC') (m_nextOf') (m_cycleOf') (m_cycles') (m_firstOf') (m_size') → W p l e room_1 s m args below meth c H locs (cells + 1) (slots + 7) Q (F0 m 981 ls [])) : W p l e room_1 s m args below meth c H locs cells slots Q (F0 m 654 ls []) := by
  obtain ⟨C, hN, hX, hbl⟩ := F
  have hx := C.1
  have hb := C.2.1
  have hcs : cells ≤ room_1.cells ∧ slots ≤ room_1.slots := ⟨Nat.le_trans (Nat.le_add_right _ _) hcs2.1, Nat.le_trans (Nat.le_add_right _ _) hcs2.2⟩
  have hcs1 : cells + 1 ≤ room_1.cells ∧ slots + 7 ≤ room_1.slots := hcs2
  have hbA : ¬ AL s b := Nat.not_le.mpr hbl
  obtain ⟨a, b2, ha, hb2, hab, hS2⟩ := sim_simple (xs (x3 + 1).toNatClampNeg) (xs (x3 + 2).toNatClampNeg) hSIM
  refine lv_aload_n hx hb dL_law_654 rfl (lv_at hl 1 rfl) ?_
  refine lv_aload_n hx hb dL_law_655 rfl (lv_at hl 0 rfl) ?_
  refine lv_iload_n hx hb dL_law_656 rfl (lv_at hl 3 rfl) ?_
  refine lv_iconst (v := 1) hx hb dL_law_657 rfl ?_
  refine lv_iadd hx hb dL_law_658 ?_
  refine va_sld hx hb hX hbl hbA hI.2 hi1 dL_law_659 ?_
  refine lv_aload_n hx hb dL_law_660 rfl (lv_at hl 0 rfl) ?_
  refine lv_iload_n hx hb dL_law_661 rfl (lv_at hl 3 rfl) ?_
  refine lv_iconst (v := 2) hx hb dL_law_662 rfl ?_
  refine lv_iadd hx hb dL_law_663 ?_
  refine va_sld hx hb hX hbl hbA hI.2 hi2 dL_law_664 ?_
  refine jVS_i (rest := []) C (c4_simple ha) gL_law_X4_simple hd4_simple hKx hN (P_left hI.1) rcX rfl ⟨rfl, rfl⟩ ⟨Nat.le_of_ble_eq_true rfl, Nat.le_of_ble_eq_true rfl⟩ rfl hl.1 rfl (Nat.le_of_ble_eq_true rfl) hcs dL_law_665 ?_
  refine lv_aload_n hx hb dL_law_668 rfl (lv_at hl 2 rfl) ?_
  refine lv_aload_n hx hb dL_law_669 rfl (lv_at hl 0 rfl) ?_
  refine lv_iload_n hx hb dL_law_670 rfl (lv_at hl 3 rfl) ?_
  refine lv_iconst (v := 1) hx hb dL_law_671 rfl ?_
  refine lv_iadd hx hb dL_law_672 ?_
  refine va_sld hx hb hX hbl hbA hI.2 hi1 dL_law_673 ?_
  refine lv_aload_n hx hb dL_law_674 rfl (lv_at hl 0 rfl) ?_
  refine lv_iload_n hx hb dL_law_675 rfl (lv_at hl 3 rfl) ?_
  refine lv_iconst (v := 2) hx hb dL_law_676 rfl ?_
  refine lv_iadd hx hb dL_law_677 ?_
  refine va_sld hx hb hX hbl hbA hI.2 hi2 dL_law_678 ?_
  refine jVS_i (rest := [.int a]) C (c5_simple hb2) gL_law_X5_simple hd5_simple hKm hN (P_right hI.1) rcM rfl ⟨rfl, rfl⟩ ⟨Nat.le_of_ble_eq_true rfl, Nat.le_of_ble_eq_true rfl⟩ rfl hl.1 rfl (Nat.le_of_ble_eq_true rfl) hcs dL_law_679 ?_
  refine lv_icmp_eq (tgt := 981) hx hb dL_law_682 rfl (fun _ => ?_) (fun c => absurd hab c)
  refine W.widen (k := cells + 1) (n := slots + 7) (Nat.le_add_right _ _) (Nat.le_add_right _ _) ?_
  exact K _ _ _ _ _ _ _ _ _ _ _ _ _ _ _ _ _ _ _ _ _ _ _ _ _ _ _ _ _ _ _ _ _ _ _ _ _ _ _ _ _ _ _ _ _ _ _ _ _ _ _ _ _ _ _ _ _ _ _ _ _ _ _ _ _ _ _ _ _ _ _ hI hD (hS2)
set_option maxHeartbeats 8000000 in
set_option maxRecDepth 100000 in
theorem law_step (F : LF p m c s b L xs args) (hKx : va_K D vwCl (tyX cI cR cG) s) (hKm : va_K D vwCl [(cA, .int)] s) (hcs2 : cells + 1 ≤ room_1.cells ∧ slots + 7 ≤ room_1.slots) (hi1 : vp_in (x3 + 1) L) (hi2 : vp_in (x3 + 2) L) (hl : lv_has ls 4 [(0, .ref b), (1, .ref (ad 0)), (2, .ref h5), (3, .int x3)]) (hI : LI D s H locs ((WX ad fa ca wad cI cR cG v_roadCount v_readings v_psize v_good v_pbits v_letters v_afterLetter v_codes v_disc v_rsize v_cycleCount v_fo v_cy v_s v_closed v_traces v_crossings v_db_bits v_db_size v_db_allBits v_db_a v_db_b v_db_c v_db_d v_dn_bits v_dn_size v_dn_allBits v_dn_a v_dn_b v_dn_c v_dn_d v_wn v_wv) ++ (WM h5 am cA m_pageLength m_page m_roads m_lengths m_signs m_wordsRead m_disc m_forms m_formA m_formB m_formC m_nextOf m_cycleOf m_cycles m_firstOf m_newLength m_newSigns m_mayRun m_size m_at m_otherSize m_other m_tableA m_tableB m_tableC m_tableD m_a m_b m_c m_grade m_flowA m_flowB m_flowC m_seedNow m_h))) (hD : LD s (WX0 ad fa ca wad cI cR cG v_wn) (WM0 h5 am cA)) (hSIM : SIM v_roadCount v_readings v_psize v_good v_pbits v_letters v_afterLetter v_codes v_disc v_rsize v_cycleCount v_fo v_cy v_wn v_wv m_pageLength m_page m_roads m_lengths m_signs m_wordsRead m_disc m_forms m_formA m_formB m_formC m_nextOf m_cycleOf m_cycles m_firstOf m_size)
    (K : ∀ (v_roadCount' : Int32) (v_readings' : Int32) (v_psize' : Int32) (v_good' : Int32) (v_pbits' : Int32) (v_letters' : Int32) (v_afterLetter' : Int32) (v_codes' : Nat → Int32) (v_disc' : Int32) (v_rsize' : Int32) (v_cycleCount' : Int32) (v_fo' : Nat → Nat → Int32) (v_cy' : Nat → Nat → Int32) (v_s' : Int64) (v_closed' : Int32) (v_traces' : Int32) (v_crossings' : Int32) (v_db_bits' : Int32) (v_db_size' : Int32) (v_db_allBits' : Int32) (v_db_a' : Int32) (v_db_b' : Int32) (v_db_c' : Int32) (v_db_d' : Int32) (v_dn_bits' : Int32) (v_dn_size' : Int32) (v_dn_allBits' : Int32) (v_dn_a' : Int32) (v_dn_b' : Int32) (v_dn_c' : Int32) (v_dn_d' : Int32) (v_wn' : Nat) (v_wv' : Nat → Nat → Int32) (m_pageLength' : Int32) (m_page' : Nat → Int32) (m_roads' : Int32) (m_lengths' : Nat → Int32) (m_signs' : Nat → Int32) (m_wordsRead' : Int32) (m_disc' : Int32) (m_forms' : Int32) (m_formA' : Nat → Int32) (m_formB' : Nat → Int32) (m_formC' : Nat → Int32) (m_nextOf' : Nat → Int32) (m_cycleOf' : Nat → Int32) (m_cycles' : Int32) (m_firstOf' : Nat → Int32) (m_newLength' : Int32) (m_newSigns' : Nat → Int32) (m_mayRun' : Int32) (m_size' : Int32) (m_at' : Nat → Int32) (m_otherSize' : Int32) (m_other' : Nat → Int32) (m_tableA' : Int32) (m_tableB' : Int32) (m_tableC' : Int32) (m_tableD' : Int32) (m_a' : Int32) (m_b' : Int32) (m_c' : Int32) (m_grade' : Int32) (m_flowA' : Int32) (m_flowB' : Int32) (m_flowC' : Int32) (m_seedNow' : Int64) (m_h' : Int64) (wad : Nat → Nat) (H : Heap) (locs : List Loc), LI D s H locs ((WX ad fa ca wad cI cR cG (v_roadCount') (v_readings') (v_psize') (v_good') (v_pbits') (v_letters') (v_afterLetter') (v_codes') (v_disc') (v_rsize') (v_cycleCount') (v_fo') (v_cy') (v_s') (v_closed') (v_traces') (v_crossings') (v_db_bits') (v_db_size') (v_db_allBits') (v_db_a') (v_db_b') (v_db_c') (v_db_d') (v_dn_bits') (v_dn_size') (v_dn_allBits') (v_dn_a') (v_dn_b') (v_dn_c') (v_dn_d') (v_wn') (v_wv')) ++ (WM h5 am cA (m_pageLength') (m_page') (m_roads') (m_lengths') (m_signs') (m_wordsRead') (m_disc') (m_forms') (m_formA') (m_formB') (m_formC') (m_nextOf') (m_cycleOf') (m_cycles') (m_firstOf') (m_newLength') (m_newSigns') (m_mayRun') (m_size') (m_at') (m_otherSize') (m_other') (m_tableA') (m_tableB') (m_tableC') (m_tableD') (m_a') (m_b') (m_c') (m_grade') (m_flowA') (m_flowB') (m_flowC') (m_seedNow') (m_h'))) → LD s (WX0 ad fa ca wad cI cR cG (v_wn')) (WM0 h5 am cA) → SIM (v_roadCount') (v_readings') (v_psize') (v_good') (v_pbits') (v_letters') (v_afterLetter') (v_codes') (v_disc') (v_rsize') (v_cycleCount') (v_fo') (v_cy') (v_wn') (v_wv') (m_pageLength') (m_page') (m_roads') (m_lengths') (m_signs') (m_wordsRead') (m_disc') (m_forms') (m_formA') (m_formB') (m_formC') (m_nextOf') (m_cycleOf') (m_cycles') (m_firstOf') (m_size') → W p l e room_1 s m args below meth c H locs (cells + 1) (slots + 7) Q (F0 m 981 ls [])) : W p l e room_1 s m args below meth c H locs cells slots Q (F0 m 720 ls []) := by
  obtain ⟨C, hN, hX, hbl⟩ := F
  have hx := C.1
  have hb := C.2.1
  have hcs : cells ≤ room_1.cells ∧ slots ≤ room_1.slots := ⟨Nat.le_trans (Nat.le_add_right _ _) hcs2.1, Nat.le_trans (Nat.le_add_right _ _) hcs2.2⟩
  have hcs1 : cells + 1 ≤ room_1.cells ∧ slots + 7 ≤ room_1.slots := hcs2
  have hbA : ¬ AL s b := Nat.not_le.mpr hbl
  obtain ⟨a, b2, ha, hb2, hab, hS2⟩ := sim_step (xs (x3 + 1).toNatClampNeg) (xs (x3 + 2).toNatClampNeg) hSIM
  refine lv_aload_n hx hb dL_law_720 rfl (lv_at hl 1 rfl) ?_
  refine lv_aload_n hx hb dL_law_721 rfl (lv_at hl 0 rfl) ?_
  refine lv_iload_n hx hb dL_law_722 rfl (lv_at hl 3 rfl) ?_
  refine lv_iconst (v := 1) hx hb dL_law_723 rfl ?_
  refine lv_iadd hx hb dL_law_724 ?_
  refine va_sld hx hb hX hbl hbA hI.2 hi1 dL_law_725 ?_
  refine lv_aload_n hx hb dL_law_726 rfl (lv_at hl 0 rfl) ?_
  refine lv_iload_n hx hb dL_law_727 rfl (lv_at hl 3 rfl) ?_
  refine lv_iconst (v := 2) hx hb dL_law_728 rfl ?_
  refine lv_iadd hx hb dL_law_729 ?_
  refine va_sld hx hb hX hbl hbA hI.2 hi2 dL_law_730 ?_
  refine jVS_i (rest := []) C (c4_step ha) gL_law_X4_step hd4_step hKx hN (P_left hI.1) rcX rfl ⟨rfl, rfl⟩ ⟨Nat.le_of_ble_eq_true rfl, Nat.le_of_ble_eq_true rfl⟩ rfl hl.1 rfl (Nat.le_of_ble_eq_true rfl) hcs dL_law_731 ?_
  refine lv_aload_n hx hb dL_law_734 rfl (lv_at hl 2 rfl) ?_
  refine lv_aload_n hx hb dL_law_735 rfl (lv_at hl 0 rfl) ?_
  refine lv_iload_n hx hb dL_law_736 rfl (lv_at hl 3 rfl) ?_
  refine lv_iconst (v := 1) hx hb dL_law_737 rfl ?_
  refine lv_iadd hx hb dL_law_738 ?_
  refine va_sld hx hb hX hbl hbA hI.2 hi1 dL_law_739 ?_
  refine lv_aload_n hx hb dL_law_740 rfl (lv_at hl 0 rfl) ?_
  refine lv_iload_n hx hb dL_law_741 rfl (lv_at hl 3 rfl) ?_
  refine lv_iconst (v := 2) hx hb dL_law_742 rfl ?_
  refine lv_iadd hx hb dL_law_743 ?_
  refine va_sld hx hb hX hbl hbA hI.2 hi2 dL_law_744 ?_
  refine jVS_i (rest := [.int a]) C (c5_step hb2) gL_law_X5_step hd5_step hKm hN (P_right hI.1) rcM rfl ⟨rfl, rfl⟩ ⟨Nat.le_of_ble_eq_true rfl, Nat.le_of_ble_eq_true rfl⟩ rfl hl.1 rfl (Nat.le_of_ble_eq_true rfl) hcs dL_law_745 ?_
  refine lv_icmp_eq (tgt := 981) hx hb dL_law_748 rfl (fun _ => ?_) (fun c => absurd hab c)
  refine W.widen (k := cells + 1) (n := slots + 7) (Nat.le_add_right _ _) (Nat.le_add_right _ _) ?_
  exact K _ _ _ _ _ _ _ _ _ _ _ _ _ _ _ _ _ _ _ _ _ _ _ _ _ _ _ _ _ _ _ _ _ _ _ _ _ _ _ _ _ _ _ _ _ _ _ _ _ _ _ _ _ _ _ _ _ _ _ _ _ _ _ _ _ _ _ _ _ _ _ hI hD (hS2)
set_option maxHeartbeats 8000000 in
set_option maxRecDepth 100000 in
theorem law_flow (F : LF p m c s b L xs args) (hKx : va_K D vwCl (tyX cI cR cG) s) (hKm : va_K D vwCl [(cA, .int)] s) (hcs2 : cells + 1 ≤ room_1.cells ∧ slots + 7 ≤ room_1.slots) (hi1 : vp_in (x3 + 1) L) (hi2 : vp_in (x3 + 2) L) (hi3 : vp_in (x3 + 3) L) (hi4 : vp_in (x3 + 4) L) (hl : lv_has ls 4 [(0, .ref b), (1, .ref (ad 0)), (2, .ref h5), (3, .int x3)]) (hI : LI D s H locs ((WX ad fa ca wad cI cR cG v_roadCount v_readings v_psize v_good v_pbits v_letters v_afterLetter v_codes v_disc v_rsize v_cycleCount v_fo v_cy v_s v_closed v_traces v_crossings v_db_bits v_db_size v_db_allBits v_db_a v_db_b v_db_c v_db_d v_dn_bits v_dn_size v_dn_allBits v_dn_a v_dn_b v_dn_c v_dn_d v_wn v_wv) ++ (WM h5 am cA m_pageLength m_page m_roads m_lengths m_signs m_wordsRead m_disc m_forms m_formA m_formB m_formC m_nextOf m_cycleOf m_cycles m_firstOf m_newLength m_newSigns m_mayRun m_size m_at m_otherSize m_other m_tableA m_tableB m_tableC m_tableD m_a m_b m_c m_grade m_flowA m_flowB m_flowC m_seedNow m_h))) (hD : LD s (WX0 ad fa ca wad cI cR cG v_wn) (WM0 h5 am cA)) (hSIM : SIM v_roadCount v_readings v_psize v_good v_pbits v_letters v_afterLetter v_codes v_disc v_rsize v_cycleCount v_fo v_cy v_wn v_wv m_pageLength m_page m_roads m_lengths m_signs m_wordsRead m_disc m_forms m_formA m_formB m_formC m_nextOf m_cycleOf m_cycles m_firstOf m_size)
    (K : ∀ (v_roadCount' : Int32) (v_readings' : Int32) (v_psize' : Int32) (v_good' : Int32) (v_pbits' : Int32) (v_letters' : Int32) (v_afterLetter' : Int32) (v_codes' : Nat → Int32) (v_disc' : Int32) (v_rsize' : Int32) (v_cycleCount' : Int32) (v_fo' : Nat → Nat → Int32) (v_cy' : Nat → Nat → Int32) (v_s' : Int64) (v_closed' : Int32) (v_traces' : Int32) (v_crossings' : Int32) (v_db_bits' : Int32) (v_db_size' : Int32) (v_db_allBits' : Int32) (v_db_a' : Int32) (v_db_b' : Int32) (v_db_c' : Int32) (v_db_d' : Int32) (v_dn_bits' : Int32) (v_dn_size' : Int32) (v_dn_allBits' : Int32) (v_dn_a' : Int32) (v_dn_b' : Int32) (v_dn_c' : Int32) (v_dn_d' : Int32) (v_wn' : Nat) (v_wv' : Nat → Nat → Int32) (m_pageLength' : Int32) (m_page' : Nat → Int32) (m_roads' : Int32) (m_lengths' : Nat → Int32) (m_signs' : Nat → Int32) (m_wordsRead' : Int32) (m_disc' : Int32) (m_forms' : Int32) (m_formA' : Nat → Int32) (m_formB' : Nat → Int32) (m_formC' : Nat → Int32) (m_nextOf' : Nat → Int32) (m_cycleOf' : Nat → Int32) (m_cycles' : Int32) (m_firstOf' : Nat → Int32) (m_newLength' : Int32) (m_newSigns' : Nat → Int32) (m_mayRun' : Int32) (m_size' : Int32) (m_at' : Nat → Int32) (m_otherSize' : Int32) (m_other' : Nat → Int32) (m_tableA' : Int32) (m_tableB' : Int32) (m_tableC' : Int32) (m_tableD' : Int32) (m_a' : Int32) (m_b' : Int32) (m_c' : Int32) (m_grade' : Int32) (m_flowA' : Int32) (m_flowB' : Int32) (m_flowC' : Int32) (m_seedNow' : Int64) (m_h' : Int64) (wad : Nat → Nat) (H : Heap) (locs : List Loc), LI D s H locs ((WX ad fa ca wad cI cR cG (v_roadCount') (v_readings') (v_psize') (v_good') (v_pbits') (v_letters') (v_afterLetter') (v_codes') (v_disc') (v_rsize') (v_cycleCount') (v_fo') (v_cy') (v_s') (v_closed') (v_traces') (v_crossings') (v_db_bits') (v_db_size') (v_db_allBits') (v_db_a') (v_db_b') (v_db_c') (v_db_d') (v_dn_bits') (v_dn_size') (v_dn_allBits') (v_dn_a') (v_dn_b') (v_dn_c') (v_dn_d') (v_wn') (v_wv')) ++ (WM h5 am cA (m_pageLength') (m_page') (m_roads') (m_lengths') (m_signs') (m_wordsRead') (m_disc') (m_forms') (m_formA') (m_formB') (m_formC') (m_nextOf') (m_cycleOf') (m_cycles') (m_firstOf') (m_newLength') (m_newSigns') (m_mayRun') (m_size') (m_at') (m_otherSize') (m_other') (m_tableA') (m_tableB') (m_tableC') (m_tableD') (m_a') (m_b') (m_c') (m_grade') (m_flowA') (m_flowB') (m_flowC') (m_seedNow') (m_h'))) → LD s (WX0 ad fa ca wad cI cR cG (v_wn')) (WM0 h5 am cA) → SIM (v_roadCount') (v_readings') (v_psize') (v_good') (v_pbits') (v_letters') (v_afterLetter') (v_codes') (v_disc') (v_rsize') (v_cycleCount') (v_fo') (v_cy') (v_wn') (v_wv') (m_pageLength') (m_page') (m_roads') (m_lengths') (m_signs') (m_wordsRead') (m_disc') (m_forms') (m_formA') (m_formB') (m_formC') (m_nextOf') (m_cycleOf') (m_cycles') (m_firstOf') (m_size') → W p l e room_1 s m args below meth c H locs (cells + 1) (slots + 7) Q (F0 m 981 ls [])) : W p l e room_1 s m args below meth c H locs cells slots Q (F0 m 786 ls []) := by
  obtain ⟨C, hN, hX, hbl⟩ := F
  have hx := C.1
  have hb := C.2.1
  have hcs : cells ≤ room_1.cells ∧ slots ≤ room_1.slots := ⟨Nat.le_trans (Nat.le_add_right _ _) hcs2.1, Nat.le_trans (Nat.le_add_right _ _) hcs2.2⟩
  have hcs1 : cells + 1 ≤ room_1.cells ∧ slots + 7 ≤ room_1.slots := hcs2
  have hbA : ¬ AL s b := Nat.not_le.mpr hbl
  by_cases c4 : xs (x3 + 4).toNatClampNeg = 0
  · obtain ⟨a, b2, ha, hb2, hab, hS2⟩ := sim_flow (xs (x3 + 1).toNatClampNeg) (xs (x3 + 2).toNatClampNeg) (xs (x3 + 3).toNatClampNeg) 0 (Or.inl rfl) hSIM
    refine lv_aload_n hx hb dL_law_786 rfl (lv_at hl 1 rfl) ?_
    refine lv_aload_n hx hb dL_law_787 rfl (lv_at hl 0 rfl) ?_
    refine lv_iload_n hx hb dL_law_788 rfl (lv_at hl 3 rfl) ?_
    refine lv_iconst (v := 1) hx hb dL_law_789 rfl ?_
    refine lv_iadd hx hb dL_law_790 ?_
    refine va_sld hx hb hX hbl hbA hI.2 hi1 dL_law_791 ?_
    refine lv_aload_n hx hb dL_law_792 rfl (lv_at hl 0 rfl) ?_
    refine lv_iload_n hx hb dL_law_793 rfl (lv_at hl 3 rfl) ?_
    refine lv_iconst (v := 2) hx hb dL_law_794 rfl ?_
    refine lv_iadd hx hb dL_law_795 ?_
    refine va_sld hx hb hX hbl hbA hI.2 hi2 dL_law_796 ?_
    refine lv_aload_n hx hb dL_law_797 rfl (lv_at hl 0 rfl) ?_
    refine lv_iload_n hx hb dL_law_798 rfl (lv_at hl 3 rfl) ?_
    refine lv_iconst (v := 3) hx hb dL_law_799 rfl ?_
    refine lv_iadd hx hb dL_law_800 ?_
    refine va_sld hx hb hX hbl hbA hI.2 hi3 dL_law_801 ?_
    refine lv_aload_n hx hb dL_law_802 rfl (lv_at hl 0 rfl) ?_
    refine lv_iload_n hx hb dL_law_803 rfl (lv_at hl 3 rfl) ?_
    refine lv_iconst (v := 4) hx hb dL_law_804 rfl ?_
    refine lv_iadd hx hb dL_law_805 ?_
    refine va_sld hx hb hX hbl hbA hI.2 hi4 dL_law_806 ?_
    refine lv_if_eq (tgt := 814) hx hb dL_law_807 rfl (fun _ => ?_) (fun c => absurd c4 c)
    refine lv_iconst (v := 0) hx hb dL_law_814 rfl ?_
    refine jVS_i (rest := []) C (c4_flow ha) gL_law_X4_flow hd4_flow hKx hN (P_left hI.1) rcX rfl ⟨rfl, rfl⟩ ⟨Nat.le_of_ble_eq_true rfl, Nat.le_of_ble_eq_true rfl⟩ rfl hl.1 rfl (Nat.le_of_ble_eq_true rfl) hcs dL_law_815 ?_
    refine lv_aload_n hx hb dL_law_818 rfl (lv_at hl 2 rfl) ?_
    refine lv_aload_n hx hb dL_law_819 rfl (lv_at hl 0 rfl) ?_
    refine lv_iload_n hx hb dL_law_820 rfl (lv_at hl 3 rfl) ?_
    refine lv_iconst (v := 1) hx hb dL_law_821 rfl ?_
    refine lv_iadd hx hb dL_law_822 ?_
    refine va_sld hx hb hX hbl hbA hI.2 hi1 dL_law_823 ?_
    refine lv_aload_n hx hb dL_law_824 rfl (lv_at hl 0 rfl) ?_
    refine lv_iload_n hx hb dL_law_825 rfl (lv_at hl 3 rfl) ?_
    refine lv_iconst (v := 2) hx hb dL_law_826 rfl ?_
    refine lv_iadd hx hb dL_law_827 ?_
    refine va_sld hx hb hX hbl hbA hI.2 hi2 dL_law_828 ?_
    refine lv_aload_n hx hb dL_law_829 rfl (lv_at hl 0 rfl) ?_
    refine lv_iload_n hx hb dL_law_830 rfl (lv_at hl 3 rfl) ?_
    refine lv_iconst (v := 3) hx hb dL_law_831 rfl ?_
    refine lv_iadd hx hb dL_law_832 ?_
    refine va_sld hx hb hX hbl hbA hI.2 hi3 dL_law_833 ?_
    refine lv_aload_n hx hb dL_law_834 rfl (lv_at hl 0 rfl) ?_
    refine lv_iload_n hx hb dL_law_835 rfl (lv_at hl 3 rfl) ?_
    refine lv_iconst (v := 4) hx hb dL_law_836 rfl ?_
    refine lv_iadd hx hb dL_law_837 ?_
    refine va_sld hx hb hX hbl hbA hI.2 hi4 dL_law_838 ?_
    refine lv_if_eq (tgt := 846) hx hb dL_law_839 rfl (fun _ => ?_) (fun c => absurd c4 c)
    refine lv_iconst (v := 0) hx hb dL_law_846 rfl ?_
    refine jRE_i (wy := WX0 ad fa ca wad cI cR cG v_wn) (rest := [.int a]) C (c5_flow hb2) gL_law_X5_flow hd5_flow hKm hN hD (by exact WX_map) hI rcM rfl ⟨rfl, rfl⟩ ⟨Nat.le_of_ble_eq_true rfl, Nat.le_of_ble_eq_true rfl⟩ rfl hl.1 rfl (Nat.le_of_ble_eq_true rfl) hcs dL_law_847 (fun H locs hI => ?_)
    refine lv_icmp_eq (tgt := 981) hx hb dL_law_850 rfl (fun _ => ?_) (fun c => absurd hab c)
    refine W.widen (k := cells + 1) (n := slots + 7) (Nat.le_add_right _ _) (Nat.le_add_right _ _) ?_
    exact K _ _ _ _ _ _ _ _ _ _ _ _ _ _ _ _ _ _ _ _ _ _ _ _ _ _ _ _ _ _ _ _ _ _ _ _ _ _ _ _ _ _ _ _ _ _ _ _ _ _ _ _ _ _ _ _ _ _ _ _ _ _ _ _ _ _ _ _ _ _ _ hI hD (hS2)
  · obtain ⟨a, b2, ha, hb2, hab, hS2⟩ := sim_flow (xs (x3 + 1).toNatClampNeg) (xs (x3 + 2).toNatClampNeg) (xs (x3 + 3).toNatClampNeg) 1 (Or.inr rfl) hSIM
    refine lv_aload_n hx hb dL_law_786 rfl (lv_at hl 1 rfl) ?_
    refine lv_aload_n hx hb dL_law_787 rfl (lv_at hl 0 rfl) ?_
    refine lv_iload_n hx hb dL_law_788 rfl (lv_at hl 3 rfl) ?_
    refine lv_iconst (v := 1) hx hb dL_law_789 rfl ?_
    refine lv_iadd hx hb dL_law_790 ?_
    refine va_sld hx hb hX hbl hbA hI.2 hi1 dL_law_791 ?_
    refine lv_aload_n hx hb dL_law_792 rfl (lv_at hl 0 rfl) ?_
    refine lv_iload_n hx hb dL_law_793 rfl (lv_at hl 3 rfl) ?_
    refine lv_iconst (v := 2) hx hb dL_law_794 rfl ?_
    refine lv_iadd hx hb dL_law_795 ?_
    refine va_sld hx hb hX hbl hbA hI.2 hi2 dL_law_796 ?_
    refine lv_aload_n hx hb dL_law_797 rfl (lv_at hl 0 rfl) ?_
    refine lv_iload_n hx hb dL_law_798 rfl (lv_at hl 3 rfl) ?_
    refine lv_iconst (v := 3) hx hb dL_law_799 rfl ?_
    refine lv_iadd hx hb dL_law_800 ?_
    refine va_sld hx hb hX hbl hbA hI.2 hi3 dL_law_801 ?_
    refine lv_aload_n hx hb dL_law_802 rfl (lv_at hl 0 rfl) ?_
    refine lv_iload_n hx hb dL_law_803 rfl (lv_at hl 3 rfl) ?_
    refine lv_iconst (v := 4) hx hb dL_law_804 rfl ?_
    refine lv_iadd hx hb dL_law_805 ?_
    refine va_sld hx hb hX hbl hbA hI.2 hi4 dL_law_806 ?_
    refine lv_if_eq (tgt := 814) hx hb dL_law_807 rfl (fun c => absurd c c4) (fun _ => ?_)
    refine lv_iconst (v := 1) hx hb dL_law_810 rfl ?_
    refine lv_goto (tgt := 815) hx hb dL_law_811 rfl ?_
    refine jVS_i (rest := []) C (c4_flow ha) gL_law_X4_flow hd4_flow hKx hN (P_left hI.1) rcX rfl ⟨rfl, rfl⟩ ⟨Nat.le_of_ble_eq_true rfl, Nat.le_of_ble_eq_true rfl⟩ rfl hl.1 rfl (Nat.le_of_ble_eq_true rfl) hcs dL_law_815 ?_
    refine lv_aload_n hx hb dL_law_818 rfl (lv_at hl 2 rfl) ?_
    refine lv_aload_n hx hb dL_law_819 rfl (lv_at hl 0 rfl) ?_
    refine lv_iload_n hx hb dL_law_820 rfl (lv_at hl 3 rfl) ?_
    refine lv_iconst (v := 1) hx hb dL_law_821 rfl ?_
    refine lv_iadd hx hb dL_law_822 ?_
    refine va_sld hx hb hX hbl hbA hI.2 hi1 dL_law_823 ?_
    refine lv_aload_n hx hb dL_law_824 rfl (lv_at hl 0 rfl) ?_
    refine lv_iload_n hx hb dL_law_825 rfl (lv_at hl 3 rfl) ?_
    refine lv_iconst (v := 2) hx hb dL_law_826 rfl ?_
    refine lv_iadd hx hb dL_law_827 ?_
    refine va_sld hx hb hX hbl hbA hI.2 hi2 dL_law_828 ?_
    refine lv_aload_n hx hb dL_law_829 rfl (lv_at hl 0 rfl) ?_
    refine lv_iload_n hx hb dL_law_830 rfl (lv_at hl 3 rfl) ?_
    refine lv_iconst (v := 3) hx hb dL_law_831 rfl ?_
    refine lv_iadd hx hb dL_law_832 ?_
    refine va_sld hx hb hX hbl hbA hI.2 hi3 dL_law_833 ?_
    refine lv_aload_n hx hb dL_law_834 rfl (lv_at hl 0 rfl) ?_
    refine lv_iload_n hx hb dL_law_835 rfl (lv_at hl 3 rfl) ?_
    refine lv_iconst (v := 4) hx hb dL_law_836 rfl ?_
    refine lv_iadd hx hb dL_law_837 ?_
    refine va_sld hx hb hX hbl hbA hI.2 hi4 dL_law_838 ?_
    refine lv_if_eq (tgt := 846) hx hb dL_law_839 rfl (fun c => absurd c c4) (fun _ => ?_)
    refine lv_iconst (v := 1) hx hb dL_law_842 rfl ?_
    refine lv_goto (tgt := 847) hx hb dL_law_843 rfl ?_
    refine jRE_i (wy := WX0 ad fa ca wad cI cR cG v_wn) (rest := [.int a]) C (c5_flow hb2) gL_law_X5_flow hd5_flow hKm hN hD (by exact WX_map) hI rcM rfl ⟨rfl, rfl⟩ ⟨Nat.le_of_ble_eq_true rfl, Nat.le_of_ble_eq_true rfl⟩ rfl hl.1 rfl (Nat.le_of_ble_eq_true rfl) hcs dL_law_847 (fun H locs hI => ?_)
    refine lv_icmp_eq (tgt := 981) hx hb dL_law_850 rfl (fun _ => ?_) (fun c => absurd hab c)
    refine W.widen (k := cells + 1) (n := slots + 7) (Nat.le_add_right _ _) (Nat.le_add_right _ _) ?_
    exact K _ _ _ _ _ _ _ _ _ _ _ _ _ _ _ _ _ _ _ _ _ _ _ _ _ _ _ _ _ _ _ _ _ _ _ _ _ _ _ _ _ _ _ _ _ _ _ _ _ _ _ _ _ _ _ _ _ _ _ _ _ _ _ _ _ _ _ _ _ _ _ hI hD (hS2)
set_option maxHeartbeats 8000000 in
set_option maxRecDepth 100000 in
theorem law_where (F : LF p m c s b L xs args) (hKx : va_K D vwCl (tyX cI cR cG) s) (hKm : va_K D vwCl [(cA, .int)] s) (hcs2 : cells + 1 ≤ room_1.cells ∧ slots + 7 ≤ room_1.slots) (hi1 : vp_in (x3 + 1) L) (hl : lv_has ls 4 [(0, .ref b), (1, .ref (ad 0)), (2, .ref h5), (3, .int x3)]) (hI : LI D s H locs ((WX ad fa ca wad cI cR cG v_roadCount v_readings v_psize v_good v_pbits v_letters v_afterLetter v_codes v_disc v_rsize v_cycleCount v_fo v_cy v_s v_closed v_traces v_crossings v_db_bits v_db_size v_db_allBits v_db_a v_db_b v_db_c v_db_d v_dn_bits v_dn_size v_dn_allBits v_dn_a v_dn_b v_dn_c v_dn_d v_wn v_wv) ++ (WM h5 am cA m_pageLength m_page m_roads m_lengths m_signs m_wordsRead m_disc m_forms m_formA m_formB m_formC m_nextOf m_cycleOf m_cycles m_firstOf m_newLength m_newSigns m_mayRun m_size m_at m_otherSize m_other m_tableA m_tableB m_tableC m_tableD m_a m_b m_c m_grade m_flowA m_flowB m_flowC m_seedNow m_h))) (hD : LD s (WX0 ad fa ca wad cI cR cG v_wn) (WM0 h5 am cA)) (hSIM : SIM v_roadCount v_readings v_psize v_good v_pbits v_letters v_afterLetter v_codes v_disc v_rsize v_cycleCount v_fo v_cy v_wn v_wv m_pageLength m_page m_roads m_lengths m_signs m_wordsRead m_disc m_forms m_formA m_formB m_formC m_nextOf m_cycleOf m_cycles m_firstOf m_size)
    (K : ∀ (v_roadCount' : Int32) (v_readings' : Int32) (v_psize' : Int32) (v_good' : Int32) (v_pbits' : Int32) (v_letters' : Int32) (v_afterLetter' : Int32) (v_codes' : Nat → Int32) (v_disc' : Int32) (v_rsize' : Int32) (v_cycleCount' : Int32) (v_fo' : Nat → Nat → Int32) (v_cy' : Nat → Nat → Int32) (v_s' : Int64) (v_closed' : Int32) (v_traces' : Int32) (v_crossings' : Int32) (v_db_bits' : Int32) (v_db_size' : Int32) (v_db_allBits' : Int32) (v_db_a' : Int32) (v_db_b' : Int32) (v_db_c' : Int32) (v_db_d' : Int32) (v_dn_bits' : Int32) (v_dn_size' : Int32) (v_dn_allBits' : Int32) (v_dn_a' : Int32) (v_dn_b' : Int32) (v_dn_c' : Int32) (v_dn_d' : Int32) (v_wn' : Nat) (v_wv' : Nat → Nat → Int32) (m_pageLength' : Int32) (m_page' : Nat → Int32) (m_roads' : Int32) (m_lengths' : Nat → Int32) (m_signs' : Nat → Int32) (m_wordsRead' : Int32) (m_disc' : Int32) (m_forms' : Int32) (m_formA' : Nat → Int32) (m_formB' : Nat → Int32) (m_formC' : Nat → Int32) (m_nextOf' : Nat → Int32) (m_cycleOf' : Nat → Int32) (m_cycles' : Int32) (m_firstOf' : Nat → Int32) (m_newLength' : Int32) (m_newSigns' : Nat → Int32) (m_mayRun' : Int32) (m_size' : Int32) (m_at' : Nat → Int32) (m_otherSize' : Int32) (m_other' : Nat → Int32) (m_tableA' : Int32) (m_tableB' : Int32) (m_tableC' : Int32) (m_tableD' : Int32) (m_a' : Int32) (m_b' : Int32) (m_c' : Int32) (m_grade' : Int32) (m_flowA' : Int32) (m_flowB' : Int32) (m_flowC' : Int32) (m_seedNow' : Int64) (m_h' : Int64) (wad : Nat → Nat) (H : Heap) (locs : List Loc), LI D s H locs ((WX ad fa ca wad cI cR cG (v_roadCount') (v_readings') (v_psize') (v_good') (v_pbits') (v_letters') (v_afterLetter') (v_codes') (v_disc') (v_rsize') (v_cycleCount') (v_fo') (v_cy') (v_s') (v_closed') (v_traces') (v_crossings') (v_db_bits') (v_db_size') (v_db_allBits') (v_db_a') (v_db_b') (v_db_c') (v_db_d') (v_dn_bits') (v_dn_size') (v_dn_allBits') (v_dn_a') (v_dn_b') (v_dn_c') (v_dn_d') (v_wn') (v_wv')) ++ (WM h5 am cA (m_pageLength') (m_page') (m_roads') (m_lengths') (m_signs') (m_wordsRead') (m_disc') (m_forms') (m_formA') (m_formB') (m_formC') (m_nextOf') (m_cycleOf') (m_cycles') (m_firstOf') (m_newLength') (m_newSigns') (m_mayRun') (m_size') (m_at') (m_otherSize') (m_other') (m_tableA') (m_tableB') (m_tableC') (m_tableD') (m_a') (m_b') (m_c') (m_grade') (m_flowA') (m_flowB') (m_flowC') (m_seedNow') (m_h'))) → LD s (WX0 ad fa ca wad cI cR cG (v_wn')) (WM0 h5 am cA) → SIM (v_roadCount') (v_readings') (v_psize') (v_good') (v_pbits') (v_letters') (v_afterLetter') (v_codes') (v_disc') (v_rsize') (v_cycleCount') (v_fo') (v_cy') (v_wn') (v_wv') (m_pageLength') (m_page') (m_roads') (m_lengths') (m_signs') (m_wordsRead') (m_disc') (m_forms') (m_formA') (m_formB') (m_formC') (m_nextOf') (m_cycleOf') (m_cycles') (m_firstOf') (m_size') → W p l e room_1 s m args below meth c H locs (cells + 1) (slots + 7) Q (F0 m 981 ls [])) : W p l e room_1 s m args below meth c H locs cells slots Q (F0 m 878 ls []) := by
  obtain ⟨C, hN, hX, hbl⟩ := F
  have hx := C.1
  have hb := C.2.1
  have hcs : cells ≤ room_1.cells ∧ slots ≤ room_1.slots := ⟨Nat.le_trans (Nat.le_add_right _ _) hcs2.1, Nat.le_trans (Nat.le_add_right _ _) hcs2.2⟩
  have hcs1 : cells + 1 ≤ room_1.cells ∧ slots + 7 ≤ room_1.slots := hcs2
  have hbA : ¬ AL s b := Nat.not_le.mpr hbl
  obtain ⟨a, b2, ha, hb2, hab, hS2⟩ := sim_where (xs (x3 + 1).toNatClampNeg) hSIM
  refine lv_aload_n hx hb dL_law_878 rfl (lv_at hl 1 rfl) ?_
  refine lv_aload_n hx hb dL_law_879 rfl (lv_at hl 0 rfl) ?_
  refine lv_iload_n hx hb dL_law_880 rfl (lv_at hl 3 rfl) ?_
  refine lv_iconst (v := 1) hx hb dL_law_881 rfl ?_
  refine lv_iadd hx hb dL_law_882 ?_
  refine va_sld hx hb hX hbl hbA hI.2 hi1 dL_law_883 ?_
  refine jVS_i (rest := []) C (c4_where ha) gL_law_X4_where hd4_where hKx hN (P_left hI.1) rcX rfl ⟨rfl, rfl⟩ ⟨Nat.le_of_ble_eq_true rfl, Nat.le_of_ble_eq_true rfl⟩ rfl hl.1 rfl (Nat.le_of_ble_eq_true rfl) hcs dL_law_884 ?_
  refine lv_aload_n hx hb dL_law_887 rfl (lv_at hl 2 rfl) ?_
  refine lv_aload_n hx hb dL_law_888 rfl (lv_at hl 0 rfl) ?_
  refine lv_iload_n hx hb dL_law_889 rfl (lv_at hl 3 rfl) ?_
  refine lv_iconst (v := 1) hx hb dL_law_890 rfl ?_
  refine lv_iadd hx hb dL_law_891 ?_
  refine va_sld hx hb hX hbl hbA hI.2 hi1 dL_law_892 ?_
  refine jRE_i (wy := WX0 ad fa ca wad cI cR cG v_wn) (rest := [.int a]) C (c5_where hb2) gL_law_X5_where hd5_where hKm hN hD (by exact WX_map) hI rcM rfl ⟨rfl, rfl⟩ ⟨Nat.le_of_ble_eq_true rfl, Nat.le_of_ble_eq_true rfl⟩ rfl hl.1 rfl (Nat.le_of_ble_eq_true rfl) hcs dL_law_893 (fun H locs hI => ?_)
  refine lv_icmp_eq (tgt := 981) hx hb dL_law_896 rfl (fun _ => ?_) (fun c => absurd hab c)
  refine W.widen (k := cells + 1) (n := slots + 7) (Nat.le_add_right _ _) (Nat.le_add_right _ _) ?_
  exact K _ _ _ _ _ _ _ _ _ _ _ _ _ _ _ _ _ _ _ _ _ _ _ _ _ _ _ _ _ _ _ _ _ _ _ _ _ _ _ _ _ _ _ _ _ _ _ _ _ _ _ _ _ _ _ _ _ _ _ _ _ _ _ _ _ _ _ _ _ _ _ hI hD (hS2)
set_option maxHeartbeats 8000000 in
set_option maxRecDepth 100000 in
theorem law_count (F : LF p m c s b L xs args) (hKx : va_K D vwCl (tyX cI cR cG) s) (hKm : va_K D vwCl [(cA, .int)] s) (hcs2 : cells + 1 ≤ room_1.cells ∧ slots + 7 ≤ room_1.slots) (hi1 : vp_in (x3 + 1) L) (hl : lv_has ls 4 [(0, .ref b), (1, .ref (ad 0)), (2, .ref h5), (3, .int x3)]) (hI : LI D s H locs ((WX ad fa ca wad cI cR cG v_roadCount v_readings v_psize v_good v_pbits v_letters v_afterLetter v_codes v_disc v_rsize v_cycleCount v_fo v_cy v_s v_closed v_traces v_crossings v_db_bits v_db_size v_db_allBits v_db_a v_db_b v_db_c v_db_d v_dn_bits v_dn_size v_dn_allBits v_dn_a v_dn_b v_dn_c v_dn_d v_wn v_wv) ++ (WM h5 am cA m_pageLength m_page m_roads m_lengths m_signs m_wordsRead m_disc m_forms m_formA m_formB m_formC m_nextOf m_cycleOf m_cycles m_firstOf m_newLength m_newSigns m_mayRun m_size m_at m_otherSize m_other m_tableA m_tableB m_tableC m_tableD m_a m_b m_c m_grade m_flowA m_flowB m_flowC m_seedNow m_h))) (hD : LD s (WX0 ad fa ca wad cI cR cG v_wn) (WM0 h5 am cA)) (hSIM : SIM v_roadCount v_readings v_psize v_good v_pbits v_letters v_afterLetter v_codes v_disc v_rsize v_cycleCount v_fo v_cy v_wn v_wv m_pageLength m_page m_roads m_lengths m_signs m_wordsRead m_disc m_forms m_formA m_formB m_formC m_nextOf m_cycleOf m_cycles m_firstOf m_size)
    (K : ∀ (v_roadCount' : Int32) (v_readings' : Int32) (v_psize' : Int32) (v_good' : Int32) (v_pbits' : Int32) (v_letters' : Int32) (v_afterLetter' : Int32) (v_codes' : Nat → Int32) (v_disc' : Int32) (v_rsize' : Int32) (v_cycleCount' : Int32) (v_fo' : Nat → Nat → Int32) (v_cy' : Nat → Nat → Int32) (v_s' : Int64) (v_closed' : Int32) (v_traces' : Int32) (v_crossings' : Int32) (v_db_bits' : Int32) (v_db_size' : Int32) (v_db_allBits' : Int32) (v_db_a' : Int32) (v_db_b' : Int32) (v_db_c' : Int32) (v_db_d' : Int32) (v_dn_bits' : Int32) (v_dn_size' : Int32) (v_dn_allBits' : Int32) (v_dn_a' : Int32) (v_dn_b' : Int32) (v_dn_c' : Int32) (v_dn_d' : Int32) (v_wn' : Nat) (v_wv' : Nat → Nat → Int32) (m_pageLength' : Int32) (m_page' : Nat → Int32) (m_roads' : Int32) (m_lengths' : Nat → Int32) (m_signs' : Nat → Int32) (m_wordsRead' : Int32) (m_disc' : Int32) (m_forms' : Int32) (m_formA' : Nat → Int32) (m_formB' : Nat → Int32) (m_formC' : Nat → Int32) (m_nextOf' : Nat → Int32) (m_cycleOf' : Nat → Int32) (m_cycles' : Int32) (m_firstOf' : Nat → Int32) (m_newLength' : Int32) (m_newSigns' : Nat → Int32) (m_mayRun' : Int32) (m_size' : Int32) (m_at' : Nat → Int32) (m_otherSize' : Int32) (m_other' : Nat → Int32) (m_tableA' : Int32) (m_tableB' : Int32) (m_tableC' : Int32) (m_tableD' : Int32) (m_a' : Int32) (m_b' : Int32) (m_c' : Int32) (m_grade' : Int32) (m_flowA' : Int32) (m_flowB' : Int32) (m_flowC' : Int32) (m_seedNow' : Int64) (m_h' : Int64) (wad : Nat → Nat) (H : Heap) (locs : List Loc), LI D s H locs ((WX ad fa ca wad cI cR cG (v_roadCount') (v_readings') (v_psize') (v_good') (v_pbits') (v_letters') (v_afterLetter') (v_codes') (v_disc') (v_rsize') (v_cycleCount') (v_fo') (v_cy') (v_s') (v_closed') (v_traces') (v_crossings') (v_db_bits') (v_db_size') (v_db_allBits') (v_db_a') (v_db_b') (v_db_c') (v_db_d') (v_dn_bits') (v_dn_size') (v_dn_allBits') (v_dn_a') (v_dn_b') (v_dn_c') (v_dn_d') (v_wn') (v_wv')) ++ (WM h5 am cA (m_pageLength') (m_page') (m_roads') (m_lengths') (m_signs') (m_wordsRead') (m_disc') (m_forms') (m_formA') (m_formB') (m_formC') (m_nextOf') (m_cycleOf') (m_cycles') (m_firstOf') (m_newLength') (m_newSigns') (m_mayRun') (m_size') (m_at') (m_otherSize') (m_other') (m_tableA') (m_tableB') (m_tableC') (m_tableD') (m_a') (m_b') (m_c') (m_grade') (m_flowA') (m_flowB') (m_flowC') (m_seedNow') (m_h'))) → LD s (WX0 ad fa ca wad cI cR cG (v_wn')) (WM0 h5 am cA) → SIM (v_roadCount') (v_readings') (v_psize') (v_good') (v_pbits') (v_letters') (v_afterLetter') (v_codes') (v_disc') (v_rsize') (v_cycleCount') (v_fo') (v_cy') (v_wn') (v_wv') (m_pageLength') (m_page') (m_roads') (m_lengths') (m_signs') (m_wordsRead') (m_disc') (m_forms') (m_formA') (m_formB') (m_formC') (m_nextOf') (m_cycleOf') (m_cycles') (m_firstOf') (m_size') → W p l e room_1 s m args below meth c H locs (cells + 1) (slots + 7) Q (F0 m 981 ls [])) : W p l e room_1 s m args below meth c H locs cells slots Q (F0 m 944 ls []) := by
  obtain ⟨C, hN, hX, hbl⟩ := F
  have hx := C.1
  have hb := C.2.1
  have hcs : cells ≤ room_1.cells ∧ slots ≤ room_1.slots := ⟨Nat.le_trans (Nat.le_add_right _ _) hcs2.1, Nat.le_trans (Nat.le_add_right _ _) hcs2.2⟩
  have hcs1 : cells + 1 ≤ room_1.cells ∧ slots + 7 ≤ room_1.slots := hcs2
  have hbA : ¬ AL s b := Nat.not_le.mpr hbl
  obtain ⟨a, b2, ha, hb2, hab, hS2⟩ := sim_count (xs (x3 + 1).toNatClampNeg) hSIM
  refine lv_aload_n hx hb dL_law_944 rfl (lv_at hl 1 rfl) ?_
  refine lv_aload_n hx hb dL_law_945 rfl (lv_at hl 0 rfl) ?_
  refine lv_iload_n hx hb dL_law_946 rfl (lv_at hl 3 rfl) ?_
  refine lv_iconst (v := 1) hx hb dL_law_947 rfl ?_
  refine lv_iadd hx hb dL_law_948 ?_
  refine va_sld hx hb hX hbl hbA hI.2 hi1 dL_law_949 ?_
  refine jVS_i (rest := []) C (c4_count ha) gL_law_X4_count hd4_count hKx hN (P_left hI.1) rcX rfl ⟨rfl, rfl⟩ ⟨Nat.le_of_ble_eq_true rfl, Nat.le_of_ble_eq_true rfl⟩ rfl hl.1 rfl (Nat.le_of_ble_eq_true rfl) hcs dL_law_950 ?_
  refine lv_aload_n hx hb dL_law_953 rfl (lv_at hl 2 rfl) ?_
  refine lv_aload_n hx hb dL_law_954 rfl (lv_at hl 0 rfl) ?_
  refine lv_iload_n hx hb dL_law_955 rfl (lv_at hl 3 rfl) ?_
  refine lv_iconst (v := 1) hx hb dL_law_956 rfl ?_
  refine lv_iadd hx hb dL_law_957 ?_
  refine va_sld hx hb hX hbl hbA hI.2 hi1 dL_law_958 ?_
  refine jRE_i (wy := WX0 ad fa ca wad cI cR cG v_wn) (rest := [.int a]) C (c5_count hb2) gL_law_X5_count hd5_count hKm hN hD (by exact WX_map) hI rcM rfl ⟨rfl, rfl⟩ ⟨Nat.le_of_ble_eq_true rfl, Nat.le_of_ble_eq_true rfl⟩ rfl hl.1 rfl (Nat.le_of_ble_eq_true rfl) hcs dL_law_959 (fun H locs hI => ?_)
  refine lv_icmp_eq (tgt := 981) hx hb dL_law_962 rfl (fun _ => ?_) (fun c => absurd hab c)
  refine W.widen (k := cells + 1) (n := slots + 7) (Nat.le_add_right _ _) (Nat.le_add_right _ _) ?_
  exact K _ _ _ _ _ _ _ _ _ _ _ _ _ _ _ _ _ _ _ _ _ _ _ _ _ _ _ _ _ _ _ _ _ _ _ _ _ _ _ _ _ _ _ _ _ _ _ _ _ _ _ _ _ _ _ _ _ _ _ _ _ _ _ _ _ _ _ _ _ _ _ hI hD (hS2)
end LC0
