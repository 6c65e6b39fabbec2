section X94
variable {l : Launch} {D : va_G} {sz : Nat}
variable {ad fa ca wad : Nat → Nat} {cI cR cG : ClassId}
variable {v_roadCount v_readings v_psize v_good v_pbits v_letters v_afterLetter v_disc v_rsize v_cycleCount v_closed v_traces v_crossings v_db_bits v_db_size v_db_allBits v_db_a v_db_b v_db_c v_db_d v_dn_bits v_dn_size v_dn_allBits v_dn_a v_dn_b v_dn_c v_dn_d : Int32}
variable {v_s : Int64}
variable {v_codes : Nat → Int32}
variable {v_fo v_cy v_wv : Nat → Nat → Int32}
variable {v_wn : Nat}
abbrev rm4_change : Room := { frames := 3, cells := 0, slots := 0, locals := 64 }
theorem fl4_change_75 : Cond.fieldLink RX4 75 "RiverWords$Word" "size" "I" ∈ wsX4_change := by decide +kernel
theorem k4_change_36 : Cond.constant RX4 36 (-2000000102) ∈ wsX4_change := by decide +kernel
theorem k4_change_74 : Cond.constant RX4 74 (-2000000101) ∈ wsX4_change := by decide +kernel
theorem inm4_change_X3 : ∀ w ∈ wsX30, w ∈ wsX4_change := by decide +kernel
theorem hd4_change : okD yX4_change 2 := by decide +kernel
set_option maxHeartbeats 8000000 in
set_option maxRecDepth 100000 in
theorem c4_change {x1 : Int32} {x2 : Int32} {res : Int32 × (Nat → Nat → Int32)} (hrun : P4_change v_roadCount v_wn v_wv x1 x2 = some res) : Met l yX4_change wsX4_change rm4_change (va_Pc [.ref (ad 0), .int x1, .int x2] (PE D (tyX cI cR cG) sz (WX0 ad fa ca wad cI cR cG v_wn) (WX ad fa ca wad cI cR cG v_roadCount v_readings v_psize v_good v_pbits v_letters v_afterLetter v_codes v_disc v_rsize v_cycleCount v_fo v_cy v_s v_closed v_traces v_crossings v_db_bits v_db_size v_db_allBits v_db_a v_db_b v_db_c v_db_d v_dn_bits v_dn_size v_dn_allBits v_dn_a v_dn_b v_dn_c v_dn_d v_wn v_wv))) (va_Qi (fun (x : Int32) (_ : Unit) => x = res.1) (fun _ t => va_P D vwCl (WX ad fa ca wad cI cR cG v_roadCount v_readings v_psize v_good v_pbits v_letters v_afterLetter v_codes v_disc v_rsize v_cycleCount v_fo v_cy v_s v_closed v_traces v_crossings v_db_bits v_db_size v_db_allBits v_db_a v_db_b v_db_c v_db_d v_dn_bits v_dn_size v_dn_allBits v_dn_a v_dn_b v_dn_c v_dn_d v_wn res.2) t.heap) (va_A (WX0 ad fa ca wad cI cR cG v_wn) sz)) 0 0 (va_A (WX0 ad fa ca wad cI cR cG v_wn) sz) := by
  refine E_in (cc := cX4_change) (maxL := 4) (ret := (some .int)) (by decide) rfl (Nat.le_of_ble_eq_true rfl) ?_
  intro p e s m args below meth c ls Q hQ C hr hlk hK hN hD hA I hl
  have C : CallFix p m c cX4_change 4 s args wsX4_change RX4 := C
  have hx := C.1
  have hb := C.2.1
  have hl : lv_has ls 4 [(0, .ref (ad 0)), (1, .int x1), (2, .int x2)] := hl
  unfold P4_change at hrun
  refine lv_aload_n hx hb dX4_change_0 rfl (lv_at hl 0 rfl) ?_
  refine lv_iload_n hx hb dX4_change_1 rfl (lv_at hl 1 rfl) ?_
  obtain ⟨r1, h_r1, hrun⟩ := p_bnd hrun
  refine jVS_q (rest := []) C (c4_roadAt h_r1) gX4_change_X4_roadAt hd4_roadAt hK hN I.1 rcX rfl ⟨rfl, rfl⟩ ⟨Nat.le_of_ble_eq_true rfl, Nat.le_of_ble_eq_true rfl⟩ rfl hl.1 rfl (Nat.le_of_ble_eq_true rfl) ⟨Nat.le_of_ble_eq_true rfl, Nat.le_of_ble_eq_true rfl⟩ dX4_change_2 ?_
  rcases r1 with _ | j2
  · refine W.eq (g2 := F0 m 5 ls (.null :: [])) rfl ?_
    refine lv_astore_nN (lv' := [(3, .null), (0, .ref (ad 0)), (1, .int x1), (2, .int x2)]) hx hb dX4_change_5 rfl hl (by decide) rfl (fun ls hl => ?_)
    refine lv_aload_nN hx hb dX4_change_6 rfl (lv_at hl 0 rfl) ?_
    refine lv_ifnonnullN hx hb dX4_change_7 ?_
    refine lv_ldc (v := (-2000000101)) hx hb C.2.2.2.1 (C.2.2.2.2 _ k4_change_74) dX4_change_10 ?_
    cases hrun
    exact rE_i C hr hlk hQ I (nbi _) rfl dX4_change_12
  · have hj2 := P4_roadAt_lt h_r1
    refine W.eq (g2 := F0 m 5 ls (.ref (wad j2) :: [])) rfl ?_
    refine lv_astore_n (lv' := [(3, .ref (wad j2)), (0, .ref (ad 0)), (1, .int x1), (2, .int x2)]) hx hb dX4_change_5 rfl hl (by decide) rfl (fun ls hl => ?_)
    refine lv_aload_n hx hb dX4_change_6 rfl (lv_at hl 0 rfl) ?_
    refine lv_ifnonnull (tgt := 13) hx hb dX4_change_7 rfl ?_
    refine lv_iload_n hx hb dX4_change_13 rfl (lv_at hl 3 rfl) ?_
    refine lv_if_lt (tgt := 22) hx hb dX4_change_14 rfl (fun c3 => ?_) (fun c3 => ?_)
    · have hrun := p_pos hrun c3
      refine lv_ldc (v := (-2000000102)) hx hb C.2.2.2.1 (C.2.2.2.2 _ k4_change_36) dX4_change_22 ?_
      cases hrun
      exact rE_i C hr hlk hQ I (nbi _) rfl dX4_change_24
    · have hrun := p_neg hrun c3
      refine lv_iload_n hx hb dX4_change_17 rfl (lv_at hl 3 rfl) ?_
      refine lv_iconst (v := 3) hx hb dX4_change_18 rfl ?_
      refine lv_icmp_lt (tgt := 25) hx hb dX4_change_19 rfl (fun c4 => ?_) (fun c4 => ?_)
      · have hrun := p_pos hrun c4
        refine lv_aload_n hx hb dX4_change_25 rfl (lv_at hl 0 rfl) ?_
        refine lv_aload_n hx hb dX4_change_26 rfl (lv_at hl 0 rfl) ?_
        refine lv_iload_n hx hb dX4_change_27 rfl (lv_at hl 3 rfl) ?_
        obtain ⟨r5, h_r5, hrun⟩ := p_bnd hrun
        refine jVS_i (rest := [.ref (wad j2)]) C (c3_changed (WX_word hj2) h_r5) gX4_change_X3_changed hd3_changed hK hN I.1 ⟨_, 3, _, _, (WX_word hj2), rfl, rfl⟩ rfl ⟨rfl, rfl⟩ ⟨Nat.le_of_ble_eq_true rfl, Nat.le_of_ble_eq_true rfl⟩ rfl hl.1 rfl (Nat.le_of_ble_eq_true rfl) ⟨Nat.le_of_ble_eq_true rfl, Nat.le_of_ble_eq_true rfl⟩ dX4_change_28 ?_
        refine lv_aload_n hx hb dX4_change_31 rfl (lv_at hl 0 rfl) ?_
        refine gX_w_size hj2 C inm4_change_X3 hK I.1 fl4_change_75 dX4_change_32 ?_
        obtain ⟨r6, h_r6, hrun⟩ := p_bnd hrun
        refine jW_become_slot (rest := []) hj2 C h_r6 gX4_change_X3_become hd3_become hK hN hD hA I ⟨Nat.le_of_ble_eq_true rfl, Nat.le_of_ble_eq_true rfl⟩ rfl hl.1 rfl (Nat.le_of_ble_eq_true rfl) ⟨Nat.le_of_ble_eq_true rfl, Nat.le_of_ble_eq_true rfl⟩ dX4_change_35 (fun H locs I => ?_)
        refine lv_aload_n hx hb dX4_change_38 rfl (lv_at hl 0 rfl) ?_
        obtain ⟨r7, h_r7, hrun⟩ := p_bnd hrun
        refine jVS_i (rest := []) C (c3_traceSum (WX_word hj2) h_r7) gX4_change_X3_traceSum hd3_traceSum hK hN I.1 ⟨_, 3, _, _, (WX_word hj2), rfl, rfl⟩ rfl ⟨rfl, rfl⟩ ⟨Nat.le_of_ble_eq_true rfl, Nat.le_of_ble_eq_true rfl⟩ rfl hl.1 rfl (Nat.le_of_ble_eq_true rfl) ⟨Nat.le_of_ble_eq_true rfl, Nat.le_of_ble_eq_true rfl⟩ dX4_change_39 ?_
        cases hrun
        exact rE_i C hr hlk hQ I (nbi _) rfl dX4_change_42
      · have hrun := p_neg hrun c4
        refine lv_ldc (v := (-2000000102)) hx hb C.2.2.2.1 (C.2.2.2.2 _ k4_change_36) dX4_change_22 ?_
        cases hrun
        exact rE_i C hr hlk hQ I (nbi _) rfl dX4_change_24

abbrev rm4_join : Room := { frames := 4, cells := 1, slots := 7, locals := 89 }
theorem fl4_join_75 : Cond.fieldLink RX4 75 "RiverWords$Word" "size" "I" ∈ wsX4_join := by decide +kernel
theorem fl4_join_76 : Cond.fieldLink RX4 76 "RiverWords$Word" "bits" "I" ∈ wsX4_join := by decide +kernel
theorem k4_join_74 : Cond.constant RX4 74 (-2000000101) ∈ wsX4_join := by decide +kernel
theorem inm4_join_X3 : ∀ w ∈ wsX30, w ∈ wsX4_join := by decide +kernel
theorem hd4_join : okD yX4_join 2 := by decide +kernel
set_option maxHeartbeats 8000000 in
set_option maxRecDepth 100000 in
theorem c4_join {x1 : Int32} {x2 : Int32} {res : Int32 × Int32 × Nat × (Nat → Nat → Int32)} (hrun : P4_join v_roadCount v_wn v_wv x1 x2 = some res) : Met l yX4_join wsX4_join rm4_join (va_Pc [.ref (ad 0), .int x1, .int x2] (PE D (tyX cI cR cG) sz (WX0 ad fa ca wad cI cR cG v_wn) (WX ad fa ca wad cI cR cG v_roadCount v_readings v_psize v_good v_pbits v_letters v_afterLetter v_codes v_disc v_rsize v_cycleCount v_fo v_cy v_s v_closed v_traces v_crossings v_db_bits v_db_size v_db_allBits v_db_a v_db_b v_db_c v_db_d v_dn_bits v_dn_size v_dn_allBits v_dn_a v_dn_b v_dn_c v_dn_d v_wn v_wv))) (va_Qi (fun (x : Int32) (_ : Nat → Nat) => x = res.1) (fun u t => va_P D vwCl (WX ad fa ca u cI cR cG res.2.1 v_readings v_psize v_good v_pbits v_letters v_afterLetter v_codes v_disc v_rsize v_cycleCount v_fo v_cy v_s v_closed v_traces v_crossings v_db_bits v_db_size v_db_allBits v_db_a v_db_b v_db_c v_db_d v_dn_bits v_dn_size v_dn_allBits v_dn_a v_dn_b v_dn_c v_dn_d res.2.2.1 res.2.2.2) t.heap ∧ va_D (va_A (WX0 ad fa ca wad cI cR cG v_wn) sz) (WX0 ad fa ca u cI cR cG res.2.2.1)) (va_A (WX0 ad fa ca wad cI cR cG v_wn) sz)) 1 7 (va_A (WX0 ad fa ca wad cI cR cG v_wn) sz) := by
  refine E_in (cc := cX4_join) (maxL := 5) (ret := (some .int)) (by decide) rfl (Nat.le_of_ble_eq_true rfl) ?_
  intro p e s m args below meth c ls Q hQ C hr hlk hK hN hD hA I hl
  have C : CallFix p m c cX4_join 5 s args wsX4_join RX4 := C
  have hx := C.1
  have hb := C.2.1
  have hl : lv_has ls 5 [(0, .ref (ad 0)), (1, .int x1), (2, .int x2)] := hl
  unfold P4_join at hrun
  refine lv_aload_n hx hb dX4_join_0 rfl (lv_at hl 0 rfl) ?_
  refine lv_iload_n hx hb dX4_join_1 rfl (lv_at hl 1 rfl) ?_
  obtain ⟨r1, h_r1, hrun⟩ := p_bnd hrun
  refine jVS_q (rest := []) C (c4_roadAt h_r1) gX4_join_X4_roadAt hd4_roadAt hK hN I.1 rcX rfl ⟨rfl, rfl⟩ ⟨Nat.le_of_ble_eq_true rfl, Nat.le_of_ble_eq_true rfl⟩ rfl hl.1 rfl (Nat.le_of_ble_eq_true rfl) ⟨Nat.le_of_ble_eq_true rfl, Nat.le_of_ble_eq_true rfl⟩ dX4_join_2 ?_
  rcases r1 with _ | j2
  · refine W.eq (g2 := F0 m 5 ls (.null :: [])) rfl ?_
    refine lv_astore_nN (lv' := [(3, .null), (0, .ref (ad 0)), (1, .int x1), (2, .int x2)]) hx hb dX4_join_5 rfl hl (by decide) rfl (fun ls hl => ?_)
    refine lv_aload_n hx hb dX4_join_6 rfl (lv_at hl 1 rfl) ?_
    refine lv_iload_n hx hb dX4_join_7 rfl (lv_at hl 3 rfl) ?_
    obtain ⟨r3, h_r3, hrun⟩ := p_bnd hrun
    refine jVS_q (rest := []) C (c4_roadAt h_r3) gX4_join_X4_roadAt hd4_roadAt hK hN I.1 rcX rfl ⟨rfl, rfl⟩ ⟨Nat.le_of_ble_eq_true rfl, Nat.le_of_ble_eq_true rfl⟩ rfl hl.1 rfl (Nat.le_of_ble_eq_true rfl) ⟨Nat.le_of_ble_eq_true rfl, Nat.le_of_ble_eq_true rfl⟩ dX4_join_8 ?_
    rcases r3 with _ | j4
    · refine W.eq (g2 := F0 m 11 ls (.null :: [])) rfl ?_
      refine lv_astoreN (lv' := [(4, .null), (3, .null), (0, .ref (ad 0)), (1, .int x1), (2, .int x2)]) hx hb dX4_join_11 hl (by decide) rfl (fun ls hl => ?_)
      refine lv_aload_nN hx hb dX4_join_13 rfl (lv_at hl 1 rfl) ?_
      refine lv_ifnullN (tgt := 22) hx hb dX4_join_14 rfl ?_
      refine lv_ldc (v := (-2000000101)) hx hb C.2.2.2.1 (C.2.2.2.2 _ k4_join_74) dX4_join_22 ?_
      cases hrun
      refine W.widen (k := 1) (n := 7) (Nat.zero_le _) (Nat.zero_le _) ?_
      exact rG_i (u := wad) C hr hlk hQ I hD (nbi _) rfl dX4_join_24
    · have hj4 := P4_roadAt_lt h_r3
      refine W.eq (g2 := F0 m 11 ls (.ref (wad j4) :: [])) rfl ?_
      refine lv_astore (lv' := [(4, .ref (wad j4)), (3, .null), (0, .ref (ad 0)), (1, .int x1), (2, .int x2)]) hx hb dX4_join_11 hl (by decide) rfl (fun ls hl => ?_)
      refine lv_aload_nN hx hb dX4_join_13 rfl (lv_at hl 1 rfl) ?_
      refine lv_ifnullN (tgt := 22) hx hb dX4_join_14 rfl ?_
      refine lv_ldc (v := (-2000000101)) hx hb C.2.2.2.1 (C.2.2.2.2 _ k4_join_74) dX4_join_22 ?_
      cases hrun
      refine W.widen (k := 1) (n := 7) (Nat.zero_le _) (Nat.zero_le _) ?_
      exact rG_i (u := wad) C hr hlk hQ I hD (nbi _) rfl dX4_join_24
  · have hj2 := P4_roadAt_lt h_r1
    refine W.eq (g2 := F0 m 5 ls (.ref (wad j2) :: [])) rfl ?_
    refine lv_astore_n (lv' := [(3, .ref (wad j2)), (0, .ref (ad 0)), (1, .int x1), (2, .int x2)]) hx hb dX4_join_5 rfl hl (by decide) rfl (fun ls hl => ?_)
    refine lv_aload_n hx hb dX4_join_6 rfl (lv_at hl 1 rfl) ?_
    refine lv_iload_n hx hb dX4_join_7 rfl (lv_at hl 3 rfl) ?_
    obtain ⟨r5, h_r5, hrun⟩ := p_bnd hrun
    refine jVS_q (rest := []) C (c4_roadAt h_r5) gX4_join_X4_roadAt hd4_roadAt hK hN I.1 rcX rfl ⟨rfl, rfl⟩ ⟨Nat.le_of_ble_eq_true rfl, Nat.le_of_ble_eq_true rfl⟩ rfl hl.1 rfl (Nat.le_of_ble_eq_true rfl) ⟨Nat.le_of_ble_eq_true rfl, Nat.le_of_ble_eq_true rfl⟩ dX4_join_8 ?_
    rcases r5 with _ | j6
    · refine W.eq (g2 := F0 m 11 ls (.null :: [])) rfl ?_
      refine lv_astoreN (lv' := [(4, .null), (3, .ref (wad j2)), (0, .ref (ad 0)), (1, .int x1), (2, .int x2)]) hx hb dX4_join_11 hl (by decide) rfl (fun ls hl => ?_)
      refine lv_aload_n hx hb dX4_join_13 rfl (lv_at hl 1 rfl) ?_
      refine lv_ifnull hx hb dX4_join_14 ?_
      refine lv_aloadN hx hb dX4_join_17 (lv_at hl 0 rfl) ?_
      refine lv_ifnonnullN hx hb dX4_join_19 ?_
      refine lv_ldc (v := (-2000000101)) hx hb C.2.2.2.1 (C.2.2.2.2 _ k4_join_74) dX4_join_22 ?_
      cases hrun
      refine W.widen (k := 1) (n := 7) (Nat.zero_le _) (Nat.zero_le _) ?_
      exact rG_i (u := wad) C hr hlk hQ I hD (nbi _) rfl dX4_join_24
    · have hj6 := P4_roadAt_lt h_r5
      refine W.eq (g2 := F0 m 11 ls (.ref (wad j6) :: [])) rfl ?_
      refine lv_astore (lv' := [(4, .ref (wad j6)), (3, .ref (wad j2)), (0, .ref (ad 0)), (1, .int x1), (2, .int x2)]) hx hb dX4_join_11 hl (by decide) rfl (fun ls hl => ?_)
      refine lv_aload_n hx hb dX4_join_13 rfl (lv_at hl 1 rfl) ?_
      refine lv_ifnull hx hb dX4_join_14 ?_
      refine lv_aload hx hb dX4_join_17 (lv_at hl 0 rfl) ?_
      refine lv_ifnonnull (tgt := 25) hx hb dX4_join_19 rfl ?_
      refine lv_aload_n hx hb dX4_join_25 rfl (lv_at hl 2 rfl) ?_
      refine lv_aload_n hx hb dX4_join_26 rfl (lv_at hl 1 rfl) ?_
      refine gX_w_bits hj2 C inm4_join_X3 hK I.1 fl4_join_76 dX4_join_27 ?_
      refine lv_aload hx hb dX4_join_30 (lv_at hl 0 rfl) ?_
      refine gX_w_size hj6 C inm4_join_X3 hK I.1 fl4_join_75 dX4_join_32 ?_
      refine j_ishl hx hb dX4_join_35 ?_
      refine lv_aload hx hb dX4_join_36 (lv_at hl 0 rfl) ?_
      refine gX_w_bits hj6 C inm4_join_X3 hK I.1 fl4_join_76 dX4_join_38 ?_
      refine lv_ior hx hb dX4_join_41 ?_
      refine lv_aload_n hx hb dX4_join_42 rfl (lv_at hl 1 rfl) ?_
      refine gX_w_size hj2 C inm4_join_X3 hK I.1 fl4_join_75 dX4_join_43 ?_
      refine lv_aload hx hb dX4_join_46 (lv_at hl 0 rfl) ?_
      refine gX_w_size hj6 C inm4_join_X3 hK I.1 fl4_join_75 dX4_join_48 ?_
      refine lv_iadd hx hb dX4_join_51 ?_
      obtain ⟨r7, h_r7, hrun⟩ := p_bnd hrun
      refine jVG_i (rest := []) C (c4_addRoad h_r7) gX4_join_X4_addRoad hd4_addRoad hK hN hD hA I rcX rfl ⟨rfl, rfl⟩ ⟨Nat.le_of_ble_eq_true rfl, Nat.le_of_ble_eq_true rfl⟩ rfl hl.1 rfl (Nat.le_of_ble_eq_true rfl) ⟨Nat.le_of_ble_eq_true rfl, Nat.le_of_ble_eq_true rfl⟩ dX4_join_52 (fun wad H locs hD I => ?_)
      cases hrun
      exact rG_i (u := wad) C hr hlk hQ I hD (nbi _) rfl dX4_join_55

abbrev rm4_times : Room := { frames := 4, cells := 1, slots := 7, locals := 89 }
theorem fl4_times_75 : Cond.fieldLink RX4 75 "RiverWords$Word" "size" "I" ∈ wsX4_times := by decide +kernel
theorem fl4_times_76 : Cond.fieldLink RX4 76 "RiverWords$Word" "bits" "I" ∈ wsX4_times := by decide +kernel
theorem k4_times_36 : Cond.constant RX4 36 (-2000000102) ∈ wsX4_times := by decide +kernel
theorem k4_times_74 : Cond.constant RX4 74 (-2000000101) ∈ wsX4_times := by decide +kernel
theorem inm4_times_X3 : ∀ w ∈ wsX30, w ∈ wsX4_times := by decide +kernel
theorem hd4_times : okD yX4_times 2 := by decide +kernel
set_option maxHeartbeats 8000000 in
set_option maxRecDepth 100000 in
theorem c4_times {x1 : Int32} {x2 : Int32} {res : Int32 × Int32 × Nat × (Nat → Nat → Int32)} (hrun : P4_times v_roadCount v_wn v_wv x1 x2 = some res) : Met l yX4_times wsX4_times rm4_times (va_Pc [.ref (ad 0), .int x1, .int x2] (PE D (tyX cI cR cG) sz (WX0 ad fa ca wad cI cR cG v_wn) (WX ad fa ca wad cI cR cG v_roadCount v_readings v_psize v_good v_pbits v_letters v_afterLetter v_codes v_disc v_rsize v_cycleCount v_fo v_cy v_s v_closed v_traces v_crossings v_db_bits v_db_size v_db_allBits v_db_a v_db_b v_db_c v_db_d v_dn_bits v_dn_size v_dn_allBits v_dn_a v_dn_b v_dn_c v_dn_d v_wn v_wv))) (va_Qi (fun (x : Int32) (_ : Nat → Nat) => x = res.1) (fun u t => va_P D vwCl (WX ad fa ca u cI cR cG res.2.1 v_readings v_psize v_good v_pbits v_letters v_afterLetter v_codes v_disc v_rsize v_cycleCount v_fo v_cy v_s v_closed v_traces v_crossings v_db_bits v_db_size v_db_allBits v_db_a v_db_b v_db_c v_db_d v_dn_bits v_dn_size v_dn_allBits v_dn_a v_dn_b v_dn_c v_dn_d res.2.2.1 res.2.2.2) t.heap ∧ va_D (va_A (WX0 ad fa ca wad cI cR cG v_wn) sz) (WX0 ad fa ca u cI cR cG res.2.2.1)) (va_A (WX0 ad fa ca wad cI cR cG v_wn) sz)) 1 7 (va_A (WX0 ad fa ca wad cI cR cG v_wn) sz) := by
  refine E_in (cc := cX4_times) (maxL := 6) (ret := (some .int)) (by decide) rfl (Nat.le_of_ble_eq_true rfl) ?_
  intro p e s m args below meth c ls Q hQ C hr hlk hK hN hD hA I hl
  have C : CallFix p m c cX4_times 6 s args wsX4_times RX4 := C
  have hx := C.1
  have hb := C.2.1
  have hl : lv_has ls 6 [(0, .ref (ad 0)), (1, .int x1), (2, .int x2)] := hl
  have loop_32 : ∀ (v_roadCount : Int32) (v_wn : Nat) (v_wv : Nat → Nat → Int32) (j3 : Nat) (hj3 : j3 < v_wn) (n : Nat) (x4 : Int32) (x5 : Int32) (out : Int32), P4_times_32 j3 v_wv x2 n x4 x5 = some out → (∀ (H : Heap) (locs : List Loc) (ls : Array Slot), IM D (va_A (WX0 ad fa ca wad cI cR cG v_wn) sz) s.heap H locs (WX ad fa ca wad cI cR cG v_roadCount v_readings v_psize v_good v_pbits v_letters v_afterLetter v_codes v_disc v_rsize v_cycleCount v_fo v_cy v_s v_closed v_traces v_crossings v_db_bits v_db_size v_db_allBits v_db_a v_db_b v_db_c v_db_d v_dn_bits v_dn_size v_dn_allBits v_dn_a v_dn_b v_dn_c v_dn_d v_wn v_wv) → lv_has ls 6 [(0, .ref (ad 0)), (2, .int x2), (3, .ref (wad j3)), (4, .int out)] → W p l e rm4_times s m args below meth c H locs 0 0 Q (F0 m 58 ls [])) → ∀ (H : Heap) (locs : List Loc) (ls : Array Slot), IM D (va_A (WX0 ad fa ca wad cI cR cG v_wn) sz) s.heap H locs (WX ad fa ca wad cI cR cG v_roadCount v_readings v_psize v_good v_pbits v_letters v_afterLetter v_codes v_disc v_rsize v_cycleCount v_fo v_cy v_s v_closed v_traces v_crossings v_db_bits v_db_size v_db_allBits v_db_a v_db_b v_db_c v_db_d v_dn_bits v_dn_size v_dn_allBits v_dn_a v_dn_b v_dn_c v_dn_d v_wn v_wv) → lv_has ls 6 [(0, .ref (ad 0)), (2, .int x2), (3, .ref (wad j3)), (4, .int x4), (5, .int x5)] → W p l e rm4_times s m args below meth c H locs 0 0 Q (F0 m 32 ls []) := by
    intro v_roadCount v_wn v_wv j3 hj3 n
    induction n with
    | zero =>
      intro x4 x5 out hrun K H locs ls I hl
      cases hrun
    | succ n ih =>
      intro x4 x5 out hrun K H locs ls I hl
      rw [P4_times_32] at hrun
      refine lv_iload hx hb dX4_times_32 (lv_at hl 4 rfl) ?_
      refine lv_iload_n hx hb dX4_times_34 rfl (lv_at hl 1 rfl) ?_
      refine lv_icmp_ge (tgt := 58) hx hb dX4_times_35 rfl (fun c5 => ?_) (fun c5 => ?_)
      · have hrun := p_pos hrun c5
        cases hrun
        exact K _ _ _ I (lv_sub hl [0, 1, 2, 3] rfl)
      · have hrun := p_neg hrun c5
        refine lv_iload hx hb dX4_times_38 (lv_at hl 3 rfl) ?_
        refine lv_aload_n hx hb dX4_times_40 rfl (lv_at hl 2 rfl) ?_
        refine gX_w_size hj3 C inm4_times_X3 hK I.1 fl4_times_75 dX4_times_41 ?_
        refine j_ishl hx hb dX4_times_44 ?_
        refine lv_aload_n hx hb dX4_times_45 rfl (lv_at hl 2 rfl) ?_
        refine gX_w_bits hj3 C inm4_times_X3 hK I.1 fl4_times_76 dX4_times_46 ?_
        refine lv_ior hx hb dX4_times_49 ?_
        refine lv_istore (lv' := [(4, .int ((jshl x4 (v_wv j3 1)) ||| (v_wv j3 0))), (0, .ref (ad 0)), (2, .int x2), (3, .ref (wad j3)), (5, .int x5)]) hx hb dX4_times_50 hl (by decide) rfl (fun ls hl => ?_)
        refine lv_iinc (v := x5 + 1) (lv' := [(5, .int (x5 + 1)), (4, .int ((jshl x4 (v_wv j3 1)) ||| (v_wv j3 0))), (0, .ref (ad 0)), (2, .int x2), (3, .ref (wad j3))]) hx hb dX4_times_52 hl (k := 4) rfl rfl (by decide) rfl (fun ls hl => ?_)
        refine lv_goto (tgt := 32) hx hb dX4_times_55 rfl ?_
        exact ih ((jshl x4 (v_wv j3 1)) ||| (v_wv j3 0)) (x5 + 1) out hrun K _ _ _ I (lv_sub hl [2, 3, 4, 1, 0] rfl)
  unfold P4_times at hrun
  refine lv_aload_n hx hb dX4_times_0 rfl (lv_at hl 0 rfl) ?_
  refine lv_iload_n hx hb dX4_times_1 rfl (lv_at hl 1 rfl) ?_
  obtain ⟨r1, h_r1, hrun⟩ := p_bnd hrun
  refine jVS_q (rest := []) C (c4_roadAt h_r1) gX4_times_X4_roadAt hd4_roadAt hK hN I.1 rcX rfl ⟨rfl, rfl⟩ ⟨Nat.le_of_ble_eq_true rfl, Nat.le_of_ble_eq_true rfl⟩ rfl hl.1 rfl (Nat.le_of_ble_eq_true rfl) ⟨Nat.le_of_ble_eq_true rfl, Nat.le_of_ble_eq_true rfl⟩ dX4_times_2 ?_
  rcases r1 with _ | j2
  · refine W.eq (g2 := F0 m 5 ls (.null :: [])) rfl ?_
    refine lv_astore_nN (lv' := [(3, .null), (0, .ref (ad 0)), (1, .int x1), (2, .int x2)]) hx hb dX4_times_5 rfl hl (by decide) rfl (fun ls hl => ?_)
    refine lv_aload_nN hx hb dX4_times_6 rfl (lv_at hl 0 rfl) ?_
    refine lv_ifnonnullN hx hb dX4_times_7 ?_
    refine lv_ldc (v := (-2000000101)) hx hb C.2.2.2.1 (C.2.2.2.2 _ k4_times_74) dX4_times_10 ?_
    cases hrun
    refine W.widen (k := 1) (n := 7) (Nat.zero_le _) (Nat.zero_le _) ?_
    exact rG_i (u := wad) C hr hlk hQ I hD (nbi _) rfl dX4_times_12
  · have hj2 := P4_roadAt_lt h_r1
    refine W.eq (g2 := F0 m 5 ls (.ref (wad j2) :: [])) rfl ?_
    refine lv_astore_n (lv' := [(3, .ref (wad j2)), (0, .ref (ad 0)), (1, .int x1), (2, .int x2)]) hx hb dX4_times_5 rfl hl (by decide) rfl (fun ls hl => ?_)
    refine lv_aload_n hx hb dX4_times_6 rfl (lv_at hl 0 rfl) ?_
    refine lv_ifnonnull (tgt := 13) hx hb dX4_times_7 rfl ?_
    refine lv_iload_n hx hb dX4_times_13 rfl (lv_at hl 3 rfl) ?_
    refine lv_iconst (v := 2) hx hb dX4_times_14 rfl ?_
    refine lv_icmp_lt (tgt := 23) hx hb dX4_times_15 rfl (fun c3 => ?_) (fun c3 => ?_)
    · have hrun := p_pos hrun c3
      refine lv_ldc (v := (-2000000102)) hx hb C.2.2.2.1 (C.2.2.2.2 _ k4_times_36) dX4_times_23 ?_
      cases hrun
      refine W.widen (k := 1) (n := 7) (Nat.zero_le _) (Nat.zero_le _) ?_
      exact rG_i (u := wad) C hr hlk hQ I hD (nbi _) rfl dX4_times_25
    · have hrun := p_neg hrun c3
      refine lv_iload_n hx hb dX4_times_18 rfl (lv_at hl 3 rfl) ?_
      refine lv_iconst (v := 5) hx hb dX4_times_19 rfl ?_
      refine lv_icmp_le (tgt := 26) hx hb dX4_times_20 rfl (fun c4 => ?_) (fun c4 => ?_)
      · have hrun := p_pos hrun c4
        refine lv_iconst (v := 0) hx hb dX4_times_26 rfl ?_
        refine lv_istore (lv' := [(4, .int 0), (3, .ref (wad j2)), (0, .ref (ad 0)), (1, .int x1), (2, .int x2)]) hx hb dX4_times_27 hl (by decide) rfl (fun ls hl => ?_)
        refine lv_iconst (v := 0) hx hb dX4_times_29 rfl ?_
        refine lv_istore (lv' := [(5, .int 0), (4, .int 0), (3, .ref (wad j2)), (0, .ref (ad 0)), (1, .int x1), (2, .int x2)]) hx hb dX4_times_30 hl (by decide) rfl (fun ls hl => ?_)
        obtain ⟨o6, h_o6, hrun⟩ := p_bnd hrun
        refine loop_32 v_roadCount v_wn v_wv j2 hj2 FU 0 0 o6 h_o6 (fun H locs ls I hl => ?_) _ _ _ I (lv_sub hl [3, 5, 2, 1, 0] rfl)
        refine lv_aload_n hx hb dX4_times_58 rfl (lv_at hl 0 rfl) ?_
        refine lv_iload hx hb dX4_times_59 (lv_at hl 3 rfl) ?_
        refine lv_iload_n hx hb dX4_times_61 rfl (lv_at hl 1 rfl) ?_
        refine lv_aload_n hx hb dX4_times_62 rfl (lv_at hl 2 rfl) ?_
        refine gX_w_size hj2 C inm4_times_X3 hK I.1 fl4_times_75 dX4_times_63 ?_
        refine lv_imul hx hb dX4_times_66 ?_
        obtain ⟨r7, h_r7, hrun⟩ := p_bnd hrun
        refine jVG_i (rest := []) C (c4_addRoad h_r7) gX4_times_X4_addRoad hd4_addRoad hK hN hD hA I rcX rfl ⟨rfl, rfl⟩ ⟨Nat.le_of_ble_eq_true rfl, Nat.le_of_ble_eq_true rfl⟩ rfl hl.1 rfl (Nat.le_of_ble_eq_true rfl) ⟨Nat.le_of_ble_eq_true rfl, Nat.le_of_ble_eq_true rfl⟩ dX4_times_67 (fun wad H locs hD I => ?_)
        cases hrun
        exact rG_i (u := wad) C hr hlk hQ I hD (nbi _) rfl dX4_times_70
      · have hrun := p_neg hrun c4
        refine lv_ldc (v := (-2000000102)) hx hb C.2.2.2.1 (C.2.2.2.2 _ k4_times_36) dX4_times_23 ?_
        cases hrun
        refine W.widen (k := 1) (n := 7) (Nat.zero_le _) (Nat.zero_le _) ?_
        exact rG_i (u := wad) C hr hlk hQ I hD (nbi _) rfl dX4_times_25

abbrev rm4_cut : Room := { frames := 4, cells := 1, slots := 7, locals := 89 }
theorem k4_cut_36 : Cond.constant RX4 36 (-2000000102) ∈ wsX4_cut := by decide +kernel
theorem hd4_cut : okD yX4_cut 2 := by decide +kernel
set_option maxHeartbeats 8000000 in
set_option maxRecDepth 100000 in
theorem c4_cut {x1 : Int32} {x2 : Int32} {res : Int32 × Int32 × Nat × (Nat → Nat → Int32)} (hrun : P4_cut v_roadCount v_wn v_wv x1 x2 = some res) : Met l yX4_cut wsX4_cut rm4_cut (va_Pc [.ref (ad 0), .int x1, .int x2] (PE D (tyX cI cR cG) sz (WX0 ad fa ca wad cI cR cG v_wn) (WX ad fa ca wad cI cR cG v_roadCount v_readings v_psize v_good v_pbits v_letters v_afterLetter v_codes v_disc v_rsize v_cycleCount v_fo v_cy v_s v_closed v_traces v_crossings v_db_bits v_db_size v_db_allBits v_db_a v_db_b v_db_c v_db_d v_dn_bits v_dn_size v_dn_allBits v_dn_a v_dn_b v_dn_c v_dn_d v_wn v_wv))) (va_Qi (fun (x : Int32) (_ : Nat → Nat) => x = res.1) (fun u t => va_P D vwCl (WX ad fa ca u cI cR cG res.2.1 v_readings v_psize v_good v_pbits v_letters v_afterLetter v_codes v_disc v_rsize v_cycleCount v_fo v_cy v_s v_closed v_traces v_crossings v_db_bits v_db_size v_db_allBits v_db_a v_db_b v_db_c v_db_d v_dn_bits v_dn_size v_dn_allBits v_dn_a v_dn_b v_dn_c v_dn_d res.2.2.1 res.2.2.2) t.heap ∧ va_D (va_A (WX0 ad fa ca wad cI cR cG v_wn) sz) (WX0 ad fa ca u cI cR cG res.2.2.1)) (va_A (WX0 ad fa ca wad cI cR cG v_wn) sz)) 1 7 (va_A (WX0 ad fa ca wad cI cR cG v_wn) sz) := by
  refine E_in (cc := cX4_cut) (maxL := 7) (ret := (some .int)) (by decide) rfl (Nat.le_of_ble_eq_true rfl) ?_
  intro p e s m args below meth c ls Q hQ C hr hlk hK hN hD hA I hl
  have C : CallFix p m c cX4_cut 7 s args wsX4_cut RX4 := C
  have hx := C.1
  have hb := C.2.1
  have hl : lv_has ls 7 [(0, .ref (ad 0)), (1, .int x1), (2, .int x2)] := hl
  have loop_50 : ∀ (v_roadCount : Int32) (v_wn : Nat) (v_wv : Nat → Nat → Int32) (n : Nat) (x3 : Int32) (x4 : Int32) (x5 : Int32) (x6 : Int32) (out : Int32 × Int32), P4_cut_50 n x3 x4 x5 x6 = some out → (∀ (H : Heap) (locs : List Loc) (ls : Array Slot), IM D (va_A (WX0 ad fa ca wad cI cR cG v_wn) sz) s.heap H locs (WX ad fa ca wad cI cR cG v_roadCount v_readings v_psize v_good v_pbits v_letters v_afterLetter v_codes v_disc v_rsize v_cycleCount v_fo v_cy v_s v_closed v_traces v_crossings v_db_bits v_db_size v_db_allBits v_db_a v_db_b v_db_c v_db_d v_dn_bits v_dn_size v_dn_allBits v_dn_a v_dn_b v_dn_c v_dn_d v_wn v_wv) → lv_has ls 7 [(0, .ref (ad 0)), (3, .int out.1), (4, .int out.2)] → W p l e rm4_cut s m args below meth c H locs 0 0 Q (F0 m 104 ls [])) → ∀ (H : Heap) (locs : List Loc) (ls : Array Slot), IM D (va_A (WX0 ad fa ca wad cI cR cG v_wn) sz) s.heap H locs (WX ad fa ca wad cI cR cG v_roadCount v_readings v_psize v_good v_pbits v_letters v_afterLetter v_codes v_disc v_rsize v_cycleCount v_fo v_cy v_s v_closed v_traces v_crossings v_db_bits v_db_size v_db_allBits v_db_a v_db_b v_db_c v_db_d v_dn_bits v_dn_size v_dn_allBits v_dn_a v_dn_b v_dn_c v_dn_d v_wn v_wv) → lv_has ls 7 [(0, .ref (ad 0)), (3, .int x3), (4, .int x4), (5, .int x5), (6, .int x6)] → W p l e rm4_cut s m args below meth c H locs 0 0 Q (F0 m 50 ls []) := by
    intro v_roadCount v_wn v_wv n
    induction n with
    | zero =>
      intro x3 x4 x5 x6 out hrun K H locs ls I hl
      cases hrun
    | succ n ih =>
      intro x3 x4 x5 x6 out hrun K H locs ls I hl
      rw [P4_cut_50] at hrun
      refine lv_iload hx hb dX4_cut_50 (lv_at hl 3 rfl) ?_
      refine lv_iload hx hb dX4_cut_52 (lv_at hl 4 rfl) ?_
      refine lv_icmp_eq (tgt := 104) hx hb dX4_cut_54 rfl (fun c8 => ?_) (fun c8 => ?_)
      · have hrun := p_pos hrun c8
        cases hrun
        exact K _ _ _ I (lv_sub hl [0, 1, 2] rfl)
      · have hrun := p_neg hrun c8
        refine lv_iload hx hb dX4_cut_57 (lv_at hl 2 rfl) ?_
        refine lv_bipush (v := 99) hx hb dX4_cut_59 rfl ?_
        refine lv_icmp_ge (tgt := 104) hx hb dX4_cut_61 rfl (fun c9 => ?_) (fun c9 => ?_)
        · have hrun := p_pos hrun c9
          cases hrun
          exact K _ _ _ I (lv_sub hl [0, 1, 2] rfl)
        · have hrun := p_neg hrun c9
          refine lv_iload hx hb dX4_cut_64 (lv_at hl 3 rfl) ?_
          refine lv_iload hx hb dX4_cut_66 (lv_at hl 4 rfl) ?_
          refine lv_icmp_le (tgt := 87) hx hb dX4_cut_68 rfl (fun c10 => ?_) (fun c10 => ?_)
          · have hrun := p_pos hrun c10
            refine lv_iload_n hx hb dX4_cut_87 rfl (lv_at hl 1 rfl) ?_
            refine lv_iconst (v := 1) hx hb dX4_cut_88 rfl ?_
            refine j_ishl hx hb dX4_cut_89 ?_
            refine lv_istore_n (lv' := [(3, .int (jshl x3 1)), (0, .ref (ad 0)), (4, .int x4), (5, .int x5), (6, .int x6)]) hx hb dX4_cut_90 rfl hl (by decide) rfl (fun ls hl => ?_)
            refine lv_iload hx hb dX4_cut_91 (lv_at hl 4 rfl) ?_
            refine lv_iload hx hb dX4_cut_93 (lv_at hl 3 rfl) ?_
            refine lv_isub hx hb dX4_cut_95 ?_
            refine lv_istore (lv' := [(6, .int (x6 - x5)), (3, .int (jshl x3 1)), (0, .ref (ad 0)), (4, .int x4), (5, .int x5)]) hx hb dX4_cut_96 hl (by decide) rfl (fun ls hl => ?_)
            refine lv_iinc (v := x4 + 1) (lv' := [(4, .int (x4 + 1)), (6, .int (x6 - x5)), (3, .int (jshl x3 1)), (0, .ref (ad 0)), (5, .int x5)]) hx hb dX4_cut_98 hl (k := 3) rfl rfl (by decide) rfl (fun ls hl => ?_)
            refine lv_goto (tgt := 50) hx hb dX4_cut_101 rfl ?_
            exact ih (jshl x3 1) (x4 + 1) x5 (x6 - x5) out hrun K _ _ _ I (lv_sub hl [3, 2, 0, 4, 1] rfl)
          · have hrun := p_neg hrun c10
            refine lv_iload_n hx hb dX4_cut_71 rfl (lv_at hl 1 rfl) ?_
            refine lv_iconst (v := 1) hx hb dX4_cut_72 rfl ?_
            refine j_ishl hx hb dX4_cut_73 ?_
            refine lv_iconst (v := 1) hx hb dX4_cut_74 rfl ?_
            refine lv_ior hx hb dX4_cut_75 ?_
            refine lv_istore_n (lv' := [(3, .int ((jshl x3 1) ||| 1)), (0, .ref (ad 0)), (4, .int x4), (5, .int x5), (6, .int x6)]) hx hb dX4_cut_76 rfl hl (by decide) rfl (fun ls hl => ?_)
            refine lv_iload hx hb dX4_cut_77 (lv_at hl 3 rfl) ?_
            refine lv_iload hx hb dX4_cut_79 (lv_at hl 4 rfl) ?_
            refine lv_isub hx hb dX4_cut_81 ?_
            refine lv_istore (lv' := [(5, .int (x5 - x6)), (3, .int ((jshl x3 1) ||| 1)), (0, .ref (ad 0)), (4, .int x4), (6, .int x6)]) hx hb dX4_cut_82 hl (by decide) rfl (fun ls hl => ?_)
            refine lv_goto (tgt := 98) hx hb dX4_cut_84 rfl ?_
            refine lv_iinc (v := x4 + 1) (lv' := [(4, .int (x4 + 1)), (5, .int (x5 - x6)), (3, .int ((jshl x3 1) ||| 1)), (0, .ref (ad 0)), (6, .int x6)]) hx hb dX4_cut_98 hl (k := 3) rfl rfl (by decide) rfl (fun ls hl => ?_)
            refine lv_goto (tgt := 50) hx hb dX4_cut_101 rfl ?_
            exact ih ((jshl x3 1) ||| 1) (x4 + 1) (x5 - x6) x6 out hrun K _ _ _ I (lv_sub hl [3, 2, 0, 1, 4] rfl)
  unfold P4_cut at hrun
  refine lv_iload_n hx hb dX4_cut_0 rfl (lv_at hl 1 rfl) ?_
  refine lv_iconst (v := 1) hx hb dX4_cut_1 rfl ?_
  refine lv_icmp_lt (tgt := 36) hx hb dX4_cut_2 rfl (fun c1 => ?_) (fun c1 => ?_)
  · have hrun := p_pos hrun c1
    refine lv_ldc (v := (-2000000102)) hx hb C.2.2.2.1 (C.2.2.2.2 _ k4_cut_36) dX4_cut_36 ?_
    cases hrun
    refine W.widen (k := 1) (n := 7) (Nat.zero_le _) (Nat.zero_le _) ?_
    exact rG_i (u := wad) C hr hlk hQ I hD (nbi _) rfl dX4_cut_38
  · have hrun := p_neg hrun c1
    refine lv_iload_n hx hb dX4_cut_5 rfl (lv_at hl 1 rfl) ?_
    refine lv_bipush (v := 99) hx hb dX4_cut_6 rfl ?_
    refine lv_icmp_gt (tgt := 36) hx hb dX4_cut_8 rfl (fun c2 => ?_) (fun c2 => ?_)
    · have hrun := p_pos hrun c2
      refine lv_ldc (v := (-2000000102)) hx hb C.2.2.2.1 (C.2.2.2.2 _ k4_cut_36) dX4_cut_36 ?_
      cases hrun
      refine W.widen (k := 1) (n := 7) (Nat.zero_le _) (Nat.zero_le _) ?_
      exact rG_i (u := wad) C hr hlk hQ I hD (nbi _) rfl dX4_cut_38
    · have hrun := p_neg hrun c2
      refine lv_iload_n hx hb dX4_cut_11 rfl (lv_at hl 2 rfl) ?_
      refine lv_iconst (v := 1) hx hb dX4_cut_12 rfl ?_
      refine lv_icmp_lt (tgt := 36) hx hb dX4_cut_13 rfl (fun c3 => ?_) (fun c3 => ?_)
      · have hrun := p_pos hrun c3
        refine lv_ldc (v := (-2000000102)) hx hb C.2.2.2.1 (C.2.2.2.2 _ k4_cut_36) dX4_cut_36 ?_
        cases hrun
        refine W.widen (k := 1) (n := 7) (Nat.zero_le _) (Nat.zero_le _) ?_
        exact rG_i (u := wad) C hr hlk hQ I hD (nbi _) rfl dX4_cut_38
      · have hrun := p_neg hrun c3
        refine lv_iload_n hx hb dX4_cut_16 rfl (lv_at hl 2 rfl) ?_
        refine lv_bipush (v := 99) hx hb dX4_cut_17 rfl ?_
        refine lv_icmp_gt (tgt := 36) hx hb dX4_cut_19 rfl (fun c4 => ?_) (fun c4 => ?_)
        · have hrun := p_pos hrun c4
          refine lv_ldc (v := (-2000000102)) hx hb C.2.2.2.1 (C.2.2.2.2 _ k4_cut_36) dX4_cut_36 ?_
          cases hrun
          refine W.widen (k := 1) (n := 7) (Nat.zero_le _) (Nat.zero_le _) ?_
          exact rG_i (u := wad) C hr hlk hQ I hD (nbi _) rfl dX4_cut_38
        · have hrun := p_neg hrun c4
          refine lv_iload_n hx hb dX4_cut_22 rfl (lv_at hl 1 rfl) ?_
          refine lv_iload_n hx hb dX4_cut_23 rfl (lv_at hl 2 rfl) ?_
          refine lv_icmp_eq (tgt := 36) hx hb dX4_cut_24 rfl (fun c5 => ?_) (fun c5 => ?_)
          · have hrun := p_pos hrun c5
            refine lv_ldc (v := (-2000000102)) hx hb C.2.2.2.1 (C.2.2.2.2 _ k4_cut_36) dX4_cut_36 ?_
            cases hrun
            refine W.widen (k := 1) (n := 7) (Nat.zero_le _) (Nat.zero_le _) ?_
            exact rG_i (u := wad) C hr hlk hQ I hD (nbi _) rfl dX4_cut_38
          · have hrun := p_neg hrun c5
            refine lv_iload_n hx hb dX4_cut_27 rfl (lv_at hl 1 rfl) ?_
            refine lv_iload_n hx hb dX4_cut_28 rfl (lv_at hl 2 rfl) ?_
            obtain ⟨r6, h_r6, hrun⟩ := p_bnd hrun
            refine jSS_i (rest := []) C (c4_commonDivisor h_r6) gX4_cut_X4_commonDivisor hd4_commonDivisor rfl ⟨rfl, rfl⟩ ⟨Nat.le_of_ble_eq_true rfl, Nat.le_of_ble_eq_true rfl⟩ rfl hl.1 rfl (Nat.le_of_ble_eq_true rfl) ⟨Nat.le_of_ble_eq_true rfl, Nat.le_of_ble_eq_true rfl⟩ dX4_cut_29 ?_
            refine lv_iconst (v := 1) hx hb dX4_cut_32 rfl ?_
            refine lv_icmp_le (tgt := 39) hx hb dX4_cut_33 rfl (fun c7 => ?_) (fun c7 => ?_)
            · have hrun := p_pos hrun c7
              refine lv_iconst (v := 0) hx hb dX4_cut_39 rfl ?_
              refine lv_istore_n (lv' := [(3, .int 0), (0, .ref (ad 0)), (1, .int x1), (2, .int x2)]) hx hb dX4_cut_40 rfl hl (by decide) rfl (fun ls hl => ?_)
              refine lv_iconst (v := 0) hx hb dX4_cut_41 rfl ?_
              refine lv_istore (lv' := [(4, .int 0), (3, .int 0), (0, .ref (ad 0)), (1, .int x1), (2, .int x2)]) hx hb dX4_cut_42 hl (by decide) rfl (fun ls hl => ?_)
              refine lv_iload_n hx hb dX4_cut_44 rfl (lv_at hl 3 rfl) ?_
              refine lv_istore (lv' := [(5, .int x1), (4, .int 0), (3, .int 0), (0, .ref (ad 0)), (1, .int x1), (2, .int x2)]) hx hb dX4_cut_45 hl (by decide) rfl (fun ls hl => ?_)
              refine lv_iload_n hx hb dX4_cut_47 rfl (lv_at hl 5 rfl) ?_
              refine lv_istore (lv' := [(6, .int x2), (5, .int x1), (4, .int 0), (3, .int 0), (0, .ref (ad 0)), (1, .int x1), (2, .int x2)]) hx hb dX4_cut_48 hl (by decide) rfl (fun ls hl => ?_)
              obtain ⟨o11, h_o11, hrun⟩ := p_bnd hrun
              refine loop_50 v_roadCount v_wn v_wv FU 0 0 x1 x2 o11 h_o11 (fun H locs ls I hl => ?_) _ _ _ I (lv_sub hl [4, 3, 2, 1, 0] rfl)
              refine lv_aload_n hx hb dX4_cut_104 rfl (lv_at hl 0 rfl) ?_
              refine lv_iload_n hx hb dX4_cut_105 rfl (lv_at hl 1 rfl) ?_
              refine lv_iload hx hb dX4_cut_106 (lv_at hl 2 rfl) ?_
              obtain ⟨r12, h_r12, hrun⟩ := p_bnd hrun
              refine jVG_i (rest := []) C (c4_addRoad h_r12) gX4_cut_X4_addRoad hd4_addRoad hK hN hD hA I rcX rfl ⟨rfl, rfl⟩ ⟨Nat.le_of_ble_eq_true rfl, Nat.le_of_ble_eq_true rfl⟩ rfl hl.1 rfl (Nat.le_of_ble_eq_true rfl) ⟨Nat.le_of_ble_eq_true rfl, Nat.le_of_ble_eq_true rfl⟩ dX4_cut_108 (fun wad H locs hD I => ?_)
              cases hrun
              exact rG_i (u := wad) C hr hlk hQ I hD (nbi _) rfl dX4_cut_111
            · have hrun := p_neg hrun c7
              refine lv_ldc (v := (-2000000102)) hx hb C.2.2.2.1 (C.2.2.2.2 _ k4_cut_36) dX4_cut_36 ?_
              cases hrun
              refine W.widen (k := 1) (n := 7) (Nat.zero_le _) (Nat.zero_le _) ?_
              exact rG_i (u := wad) C hr hlk hQ I hD (nbi _) rfl dX4_cut_38

abbrev rm4_drop : Room := { frames := 0, cells := 0, slots := 0, locals := 0 }
theorem fl4_drop_148 : Cond.fieldLink RX4 148 "RiverWords" "roadCount" "I" ∈ wsX4_drop := by decide +kernel
theorem k4_drop_56 : Cond.constant RX4 56 (-2000000103) ∈ wsX4_drop := by decide +kernel
theorem inm4_drop_X4 : ∀ w ∈ wsX40, w ∈ wsX4_drop := by decide +kernel
theorem hd4_drop : okD yX4_drop 0 := by decide +kernel
set_option maxHeartbeats 8000000 in
set_option maxRecDepth 100000 in
theorem c4_drop {res : Int32 × Int32} (hrun : P4_drop v_roadCount = some res) : Met l yX4_drop wsX4_drop rm4_drop (va_Pc [.ref (ad 0)] (PE D (tyX cI cR cG) sz (WX0 ad fa ca wad cI cR cG v_wn) (WX ad fa ca wad cI cR cG v_roadCount v_readings v_psize v_good v_pbits v_letters v_afterLetter v_codes v_disc v_rsize v_cycleCount v_fo v_cy v_s v_closed v_traces v_crossings v_db_bits v_db_size v_db_allBits v_db_a v_db_b v_db_c v_db_d v_dn_bits v_dn_size v_dn_allBits v_dn_a v_dn_b v_dn_c v_dn_d v_wn v_wv))) (va_Qi (fun (x : Int32) (_ : Unit) => x = res.1) (fun _ t => va_P D vwCl (WX ad fa ca wad cI cR cG res.2 v_readings v_psize v_good v_pbits v_letters v_afterLetter v_codes v_disc v_rsize v_cycleCount v_fo v_cy v_s v_closed v_traces v_crossings v_db_bits v_db_size v_db_allBits v_db_a v_db_b v_db_c v_db_d v_dn_bits v_dn_size v_dn_allBits v_dn_a v_dn_b v_dn_c v_dn_d v_wn v_wv) t.heap) (va_A (WX0 ad fa ca wad cI cR cG v_wn) sz)) 0 0 (va_A (WX0 ad fa ca wad cI cR cG v_wn) sz) := by
  refine E_in (cc := cX4_drop) (maxL := 1) (ret := (some .int)) (by decide) rfl (Nat.le_of_ble_eq_true rfl) ?_
  intro p e s m args below meth c ls Q hQ C hr hlk hK hN hD hA I hl
  have C : CallFix p m c cX4_drop 1 s args wsX4_drop RX4 := C
  have hx := C.1
  have hb := C.2.1
  have hl : lv_has ls 1 [(0, .ref (ad 0))] := hl
  unfold P4_drop at hrun
  refine lv_aload_n hx hb dX4_drop_0 rfl (lv_at hl 0 rfl) ?_
  refine gX_X_roadCount C inm4_drop_X4 hK I.1 fl4_drop_148 dX4_drop_1 ?_
  refine lv_if_gt (tgt := 10) hx hb dX4_drop_4 rfl (fun c1 => ?_) (fun c1 => ?_)
  · have hrun := p_pos hrun c1
    refine lv_aload_n hx hb dX4_drop_10 rfl (lv_at hl 0 rfl) ?_
    refine lv_dup hx hb dX4_drop_11 rfl ?_
    refine gX_X_roadCount C inm4_drop_X4 hK I.1 fl4_drop_148 dX4_drop_12 ?_
    refine lv_iconst (v := 1) hx hb dX4_drop_15 rfl ?_
    refine lv_isub hx hb dX4_drop_16 ?_
    refine pX_X_roadCount C inm4_drop_X4 hK hD I fl4_drop_148 dX4_drop_17 (fun H locs I => ?_)
    refine lv_aload_n hx hb dX4_drop_20 rfl (lv_at hl 0 rfl) ?_
    refine gX_X_roadCount C inm4_drop_X4 hK I.1 fl4_drop_148 dX4_drop_21 ?_
    cases hrun
    exact rE_i C hr hlk hQ I (nbi _) rfl dX4_drop_24
  · have hrun := p_neg hrun c1
    refine lv_ldc (v := (-2000000103)) hx hb C.2.2.2.1 (C.2.2.2.2 _ k4_drop_56) dX4_drop_7 ?_
    cases hrun
    exact rE_i C hr hlk hQ I (nbi _) rfl dX4_drop_9

end X94
