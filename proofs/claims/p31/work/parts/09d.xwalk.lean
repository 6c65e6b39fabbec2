section X93
variable {l : Launch} {D : va_G} {sz : Nat}
variable {ad fa ca wad : Nat → Nat} {cI cR cG : ClassId}
variable {v_roadCount v_readings v_psize v_good v_pbits v_letters v_afterLetter v_disc v_rsize v_cycleCount v_closed v_traces v_crossings v_db_bits v_db_size v_db_allBits v_db_a v_db_b v_db_c v_db_d v_dn_bits v_dn_size v_dn_allBits v_dn_a v_dn_b v_dn_c v_dn_d : Int32}
variable {v_s : Int64}
variable {v_codes : Nat → Int32}
variable {v_fo v_cy v_wv : Nat → Nat → Int32}
variable {v_wn : Nat}
abbrev rm4_sign : Room := { frames := 1, cells := 0, slots := 0, locals := 21 }
theorem fl4_sign_75 : Cond.fieldLink RX4 75 "RiverWords$Word" "size" "I" ∈ wsX4_sign := by decide +kernel
theorem k4_sign_74 : Cond.constant RX4 74 (-2000000101) ∈ wsX4_sign := by decide +kernel
theorem inm4_sign_X3 : ∀ w ∈ wsX30, w ∈ wsX4_sign := by decide +kernel
theorem hd4_sign : okD yX4_sign 2 := by decide +kernel
set_option maxHeartbeats 8000000 in
set_option maxRecDepth 100000 in
theorem c4_sign {x1 : Int32} {x2 : Int32} {res : Int32} (hrun : P4_sign v_roadCount v_wn v_wv x1 x2 = some res) : Met l yX4_sign wsX4_sign rm4_sign (va_Pc [.ref (ad 0), .int x1, .int x2] (PS D (tyX cI cR cG) (WX ad fa ca wad cI cR cG v_roadCount v_readings v_psize v_good v_pbits v_letters v_afterLetter v_codes v_disc v_rsize v_cycleCount v_fo v_cy v_s v_closed v_traces v_crossings v_db_bits v_db_size v_db_allBits v_db_a v_db_b v_db_c v_db_d v_dn_bits v_dn_size v_dn_allBits v_dn_a v_dn_b v_dn_c v_dn_d v_wn v_wv))) (vp_Si (fun x => x = res)) 0 0 (fun _ => False) := by
  refine S_in (cc := cX4_sign) (maxL := 4) (ret := (some .int)) (by decide) rfl (Nat.le_of_ble_eq_true rfl) ?_
  intro p e s m args below meth c ls Q hQ C hr hlk hK hN hP hl
  have C : CallFix p m c cX4_sign 4 s args wsX4_sign RX4 := C
  have hx := C.1
  have hb := C.2.1
  have hl : lv_has ls 4 [(0, .ref (ad 0)), (1, .int x1), (2, .int x2)] := hl
  unfold P4_sign at hrun
  refine lv_aload_n hx hb dX4_sign_0 rfl (lv_at hl 0 rfl) ?_
  refine lv_iload_n hx hb dX4_sign_1 rfl (lv_at hl 1 rfl) ?_
  obtain ⟨r1, h_r1, hrun⟩ := p_bnd hrun
  refine jVS_q (rest := []) C (c4_roadAt h_r1) gX4_sign_X4_roadAt hd4_roadAt hK hN hP rcX rfl ⟨rfl, rfl⟩ ⟨Nat.le_of_ble_eq_true rfl, Nat.le_of_ble_eq_true rfl⟩ rfl hl.1 rfl (Nat.le_of_ble_eq_true rfl) ⟨Nat.le_of_ble_eq_true rfl, Nat.le_of_ble_eq_true rfl⟩ dX4_sign_2 ?_
  rcases r1 with _ | j2
  · refine W.eq (g2 := F0 m 5 ls (.null :: [])) rfl ?_
    refine lv_astore_nN (lv' := [(3, .null), (0, .ref (ad 0)), (1, .int x1), (2, .int x2)]) hx hb dX4_sign_5 rfl hl (by decide) rfl (fun ls hl => ?_)
    refine lv_aload_nN hx hb dX4_sign_6 rfl (lv_at hl 0 rfl) ?_
    refine lv_ifnullN (tgt := 22) hx hb dX4_sign_7 rfl ?_
    refine lv_ldc (v := (-2000000101)) hx hb C.2.2.2.1 (C.2.2.2.2 _ k4_sign_74) dX4_sign_22 ?_
    cases hrun
    exact rS_i C hr hlk hQ (nbi _) rfl dX4_sign_24
  · have hj2 := P4_roadAt_lt h_r1
    refine W.eq (g2 := F0 m 5 ls (.ref (wad j2) :: [])) rfl ?_
    refine lv_astore_n (lv' := [(3, .ref (wad j2)), (0, .ref (ad 0)), (1, .int x1), (2, .int x2)]) hx hb dX4_sign_5 rfl hl (by decide) rfl (fun ls hl => ?_)
    refine lv_aload_n hx hb dX4_sign_6 rfl (lv_at hl 0 rfl) ?_
    refine lv_ifnull hx hb dX4_sign_7 ?_
    refine lv_iload_n hx hb dX4_sign_10 rfl (lv_at hl 3 rfl) ?_
    refine lv_if_lt (tgt := 22) hx hb dX4_sign_11 rfl (fun c3 => ?_) (fun c3 => ?_)
    · have hrun := p_pos hrun c3
      refine lv_ldc (v := (-2000000101)) hx hb C.2.2.2.1 (C.2.2.2.2 _ k4_sign_74) dX4_sign_22 ?_
      cases hrun
      exact rS_i C hr hlk hQ (nbi _) rfl dX4_sign_24
    · have hrun := p_neg hrun c3
      refine lv_iload_n hx hb dX4_sign_14 rfl (lv_at hl 3 rfl) ?_
      refine lv_aload_n hx hb dX4_sign_15 rfl (lv_at hl 0 rfl) ?_
      refine gX_w_size hj2 C inm4_sign_X3 hK hP fl4_sign_75 dX4_sign_16 ?_
      refine lv_icmp_lt (tgt := 25) hx hb dX4_sign_19 rfl (fun c4 => ?_) (fun c4 => ?_)
      · have hrun := p_pos hrun c4
        refine lv_aload_n hx hb dX4_sign_25 rfl (lv_at hl 0 rfl) ?_
        refine lv_iload_n hx hb dX4_sign_26 rfl (lv_at hl 3 rfl) ?_
        obtain ⟨r5, h_r5, hrun⟩ := p_bnd hrun
        refine jVS_i (rest := []) C (c3_bitAt (WX_word hj2) h_r5) gX4_sign_X3_bitAt hd3_bitAt hK hN hP ⟨_, 3, _, _, (WX_word hj2), rfl, rfl⟩ rfl ⟨rfl, rfl⟩ ⟨Nat.le_of_ble_eq_true rfl, Nat.le_of_ble_eq_true rfl⟩ rfl hl.1 rfl (Nat.le_of_ble_eq_true rfl) ⟨Nat.le_of_ble_eq_true rfl, Nat.le_of_ble_eq_true rfl⟩ dX4_sign_27 ?_
        obtain ⟨r6, h_r6, hrun⟩ := p_bnd hrun
        refine jSS_i (rest := []) C (c4_code h_r6) gX4_sign_X4_code hd4_code rfl ⟨rfl, rfl⟩ ⟨Nat.le_of_ble_eq_true rfl, Nat.le_of_ble_eq_true rfl⟩ rfl hl.1 rfl (Nat.le_of_ble_eq_true rfl) ⟨Nat.le_of_ble_eq_true rfl, Nat.le_of_ble_eq_true rfl⟩ dX4_sign_30 ?_
        cases hrun
        exact rS_i C hr hlk hQ (nbi _) rfl dX4_sign_33
      · have hrun := p_neg hrun c4
        refine lv_ldc (v := (-2000000101)) hx hb C.2.2.2.1 (C.2.2.2.2 _ k4_sign_74) dX4_sign_22 ?_
        cases hrun
        exact rS_i C hr hlk hQ (nbi _) rfl dX4_sign_24

abbrev rm4_table : Room := { frames := 1, cells := 0, slots := 0, locals := 21 }
theorem fl4_table_112 : Cond.fieldLink RX4 112 "RiverWords$Word" "a" "I" ∈ wsX4_table := by decide +kernel
theorem fl4_table_115 : Cond.fieldLink RX4 115 "RiverWords$Word" "b" "I" ∈ wsX4_table := by decide +kernel
theorem fl4_table_118 : Cond.fieldLink RX4 118 "RiverWords$Word" "c" "I" ∈ wsX4_table := by decide +kernel
theorem fl4_table_121 : Cond.fieldLink RX4 121 "RiverWords$Word" "d" "I" ∈ wsX4_table := by decide +kernel
theorem k4_table_36 : Cond.constant RX4 36 (-2000000102) ∈ wsX4_table := by decide +kernel
theorem k4_table_74 : Cond.constant RX4 74 (-2000000101) ∈ wsX4_table := by decide +kernel
theorem inm4_table_X3 : ∀ w ∈ wsX30, w ∈ wsX4_table := by decide +kernel
theorem hd4_table : okD yX4_table 2 := by decide +kernel
set_option maxHeartbeats 8000000 in
set_option maxRecDepth 100000 in
theorem c4_table {x1 : Int32} {x2 : Int32} {res : Int32} (hrun : P4_table v_roadCount v_wn v_wv x1 x2 = some res) : Met l yX4_table wsX4_table rm4_table (va_Pc [.ref (ad 0), .int x1, .int x2] (PS D (tyX cI cR cG) (WX ad fa ca wad cI cR cG v_roadCount v_readings v_psize v_good v_pbits v_letters v_afterLetter v_codes v_disc v_rsize v_cycleCount v_fo v_cy v_s v_closed v_traces v_crossings v_db_bits v_db_size v_db_allBits v_db_a v_db_b v_db_c v_db_d v_dn_bits v_dn_size v_dn_allBits v_dn_a v_dn_b v_dn_c v_dn_d v_wn v_wv))) (vp_Si (fun x => x = res)) 0 0 (fun _ => False) := by
  refine S_in (cc := cX4_table) (maxL := 4) (ret := (some .int)) (by decide) rfl (Nat.le_of_ble_eq_true rfl) ?_
  intro p e s m args below meth c ls Q hQ C hr hlk hK hN hP hl
  have C : CallFix p m c cX4_table 4 s args wsX4_table RX4 := C
  have hx := C.1
  have hb := C.2.1
  have hl : lv_has ls 4 [(0, .ref (ad 0)), (1, .int x1), (2, .int x2)] := hl
  unfold P4_table at hrun
  refine lv_aload_n hx hb dX4_table_0 rfl (lv_at hl 0 rfl) ?_
  refine lv_iload_n hx hb dX4_table_1 rfl (lv_at hl 1 rfl) ?_
  obtain ⟨r1, h_r1, hrun⟩ := p_bnd hrun
  refine jVS_q (rest := []) C (c4_roadAt h_r1) gX4_table_X4_roadAt hd4_roadAt hK hN hP rcX rfl ⟨rfl, rfl⟩ ⟨Nat.le_of_ble_eq_true rfl, Nat.le_of_ble_eq_true rfl⟩ rfl hl.1 rfl (Nat.le_of_ble_eq_true rfl) ⟨Nat.le_of_ble_eq_true rfl, Nat.le_of_ble_eq_true rfl⟩ dX4_table_2 ?_
  rcases r1 with _ | j2
  · refine W.eq (g2 := F0 m 5 ls (.null :: [])) rfl ?_
    refine lv_astore_nN (lv' := [(3, .null), (0, .ref (ad 0)), (1, .int x1), (2, .int x2)]) hx hb dX4_table_5 rfl hl (by decide) rfl (fun ls hl => ?_)
    refine lv_aload_nN hx hb dX4_table_6 rfl (lv_at hl 0 rfl) ?_
    refine lv_ifnonnullN hx hb dX4_table_7 ?_
    refine lv_ldc (v := (-2000000101)) hx hb C.2.2.2.1 (C.2.2.2.2 _ k4_table_74) dX4_table_10 ?_
    cases hrun
    exact rS_i C hr hlk hQ (nbi _) rfl dX4_table_12
  · have hj2 := P4_roadAt_lt h_r1
    refine W.eq (g2 := F0 m 5 ls (.ref (wad j2) :: [])) rfl ?_
    refine lv_astore_n (lv' := [(3, .ref (wad j2)), (0, .ref (ad 0)), (1, .int x1), (2, .int x2)]) hx hb dX4_table_5 rfl hl (by decide) rfl (fun ls hl => ?_)
    refine lv_aload_n hx hb dX4_table_6 rfl (lv_at hl 0 rfl) ?_
    refine lv_ifnonnull (tgt := 13) hx hb dX4_table_7 rfl ?_
    refine lv_iload_n hx hb dX4_table_13 rfl (lv_at hl 3 rfl) ?_
    by_cases c3 : x2 = 0
    · have hrun := p_pos hrun c3
      refine j_tswIn  (tgt := 44) hx hb 0 c3 dX4_table_14 (by decide) (by decide) rfl rfl ?_
      refine lv_aload_n hx hb dX4_table_44 rfl (lv_at hl 0 rfl) ?_
      refine gX_w_a hj2 C inm4_table_X3 hK hP fl4_table_112 dX4_table_45 ?_
      cases hrun
      exact rS_i C hr hlk hQ (nbi _) rfl dX4_table_48
    · have hrun := p_neg hrun c3
      by_cases c4 : x2 = 1
      · have hrun := p_pos hrun c4
        refine j_tswIn  (tgt := 49) hx hb 1 c4 dX4_table_14 (by decide) (by decide) rfl rfl ?_
        refine lv_aload_n hx hb dX4_table_49 rfl (lv_at hl 0 rfl) ?_
        refine gX_w_b hj2 C inm4_table_X3 hK hP fl4_table_115 dX4_table_50 ?_
        cases hrun
        exact rS_i C hr hlk hQ (nbi _) rfl dX4_table_53
      · have hrun := p_neg hrun c4
        by_cases c5 : x2 = 2
        · have hrun := p_pos hrun c5
          refine j_tswIn  (tgt := 54) hx hb 2 c5 dX4_table_14 (by decide) (by decide) rfl rfl ?_
          refine lv_aload_n hx hb dX4_table_54 rfl (lv_at hl 0 rfl) ?_
          refine gX_w_c hj2 C inm4_table_X3 hK hP fl4_table_118 dX4_table_55 ?_
          cases hrun
          exact rS_i C hr hlk hQ (nbi _) rfl dX4_table_58
        · have hrun := p_neg hrun c5
          by_cases c6 : x2 = 3
          · have hrun := p_pos hrun c6
            refine j_tswIn  (tgt := 59) hx hb 3 c6 dX4_table_14 (by decide) (by decide) rfl rfl ?_
            refine lv_aload_n hx hb dX4_table_59 rfl (lv_at hl 0 rfl) ?_
            refine gX_w_d hj2 C inm4_table_X3 hK hP fl4_table_121 dX4_table_60 ?_
            cases hrun
            exact rS_i C hr hlk hQ (nbi _) rfl dX4_table_63
          · have hrun := p_neg hrun c6
            refine lv_tableOut (tgt := 64) hx hb dX4_table_14 (j_tswOut (lo := 0) (hi := 3) [0, 1, 2, 3] (by decide) (fun k hk => by simp only [List.mem_cons, List.not_mem_nil, or_false] at hk; rcases hk with rfl | rfl | rfl | rfl <;> assumption)) rfl ?_
            refine lv_ldc (v := (-2000000102)) hx hb C.2.2.2.1 (C.2.2.2.2 _ k4_table_36) dX4_table_64 ?_
            cases hrun
            exact rS_i C hr hlk hQ (nbi _) rfl dX4_table_66

abbrev rm4_form : Room := { frames := 3, cells := 0, slots := 0, locals := 71 }
theorem k4_form_36 : Cond.constant RX4 36 (-2000000102) ∈ wsX4_form := by decide +kernel
theorem k4_form_56 : Cond.constant RX4 56 (-2000000103) ∈ wsX4_form := by decide +kernel
theorem k4_form_74 : Cond.constant RX4 74 (-2000000101) ∈ wsX4_form := by decide +kernel
theorem hd4_form : okD yX4_form 2 := by decide +kernel
set_option maxHeartbeats 8000000 in
set_option maxRecDepth 100000 in
theorem c4_form {x1 : Int32} {x2 : Int32} {res : Int32} (hrun : P4_form v_roadCount v_wn v_wv x1 x2 = some res) : Met l yX4_form wsX4_form rm4_form (va_Pc [.ref (ad 0), .int x1, .int x2] (PS D (tyX cI cR cG) (WX ad fa ca wad cI cR cG v_roadCount v_readings v_psize v_good v_pbits v_letters v_afterLetter v_codes v_disc v_rsize v_cycleCount v_fo v_cy v_s v_closed v_traces v_crossings v_db_bits v_db_size v_db_allBits v_db_a v_db_b v_db_c v_db_d v_dn_bits v_dn_size v_dn_allBits v_dn_a v_dn_b v_dn_c v_dn_d v_wn v_wv))) (vp_Si (fun x => x = res)) 0 0 (fun _ => False) := by
  refine S_in (cc := cX4_form) (maxL := 4) (ret := (some .int)) (by decide) rfl (Nat.le_of_ble_eq_true rfl) ?_
  intro p e s m args below meth c ls Q hQ C hr hlk hK hN hP hl
  have C : CallFix p m c cX4_form 4 s args wsX4_form RX4 := C
  have hx := C.1
  have hb := C.2.1
  have hl : lv_has ls 4 [(0, .ref (ad 0)), (1, .int x1), (2, .int x2)] := hl
  unfold P4_form at hrun
  refine lv_aload_n hx hb dX4_form_0 rfl (lv_at hl 0 rfl) ?_
  refine lv_iload_n hx hb dX4_form_1 rfl (lv_at hl 1 rfl) ?_
  obtain ⟨r1, h_r1, hrun⟩ := p_bnd hrun
  refine jVS_q (rest := []) C (c4_roadAt h_r1) gX4_form_X4_roadAt hd4_roadAt hK hN hP rcX rfl ⟨rfl, rfl⟩ ⟨Nat.le_of_ble_eq_true rfl, Nat.le_of_ble_eq_true rfl⟩ rfl hl.1 rfl (Nat.le_of_ble_eq_true rfl) ⟨Nat.le_of_ble_eq_true rfl, Nat.le_of_ble_eq_true rfl⟩ dX4_form_2 ?_
  rcases r1 with _ | j2
  · refine W.eq (g2 := F0 m 5 ls (.null :: [])) rfl ?_
    refine lv_astore_nN (lv' := [(3, .null), (0, .ref (ad 0)), (1, .int x1), (2, .int x2)]) hx hb dX4_form_5 rfl hl (by decide) rfl (fun ls hl => ?_)
    refine lv_aload_nN hx hb dX4_form_6 rfl (lv_at hl 0 rfl) ?_
    refine lv_ifnonnullN hx hb dX4_form_7 ?_
    refine lv_ldc (v := (-2000000101)) hx hb C.2.2.2.1 (C.2.2.2.2 _ k4_form_74) dX4_form_10 ?_
    cases hrun
    exact rS_i C hr hlk hQ (nbi _) rfl dX4_form_12
  · have hj2 := P4_roadAt_lt h_r1
    refine W.eq (g2 := F0 m 5 ls (.ref (wad j2) :: [])) rfl ?_
    refine lv_astore_n (lv' := [(3, .ref (wad j2)), (0, .ref (ad 0)), (1, .int x1), (2, .int x2)]) hx hb dX4_form_5 rfl hl (by decide) rfl (fun ls hl => ?_)
    refine lv_aload_n hx hb dX4_form_6 rfl (lv_at hl 0 rfl) ?_
    refine lv_ifnonnull (tgt := 13) hx hb dX4_form_7 rfl ?_
    refine lv_iload_n hx hb dX4_form_13 rfl (lv_at hl 3 rfl) ?_
    refine lv_if_lt (tgt := 22) hx hb dX4_form_14 rfl (fun c3 => ?_) (fun c3 => ?_)
    · have hrun := p_pos hrun c3
      refine lv_ldc (v := (-2000000102)) hx hb C.2.2.2.1 (C.2.2.2.2 _ k4_form_36) dX4_form_22 ?_
      cases hrun
      exact rS_i C hr hlk hQ (nbi _) rfl dX4_form_24
    · have hrun := p_neg hrun c3
      refine lv_iload_n hx hb dX4_form_17 rfl (lv_at hl 3 rfl) ?_
      refine lv_iconst (v := 5) hx hb dX4_form_18 rfl ?_
      refine lv_icmp_lt (tgt := 25) hx hb dX4_form_19 rfl (fun c4 => ?_) (fun c4 => ?_)
      · have hrun := p_pos hrun c4
        refine lv_aload_n hx hb dX4_form_25 rfl (lv_at hl 0 rfl) ?_
        obtain ⟨r5, h_r5, hrun⟩ := p_bnd hrun
        refine jVS_i (rest := []) C (c3_isClosed (WX_word hj2) h_r5) gX4_form_X3_isClosed hd3_isClosed hK hN hP ⟨_, 3, _, _, (WX_word hj2), rfl, rfl⟩ rfl ⟨rfl, rfl⟩ ⟨Nat.le_of_ble_eq_true rfl, Nat.le_of_ble_eq_true rfl⟩ rfl hl.1 rfl (Nat.le_of_ble_eq_true rfl) ⟨Nat.le_of_ble_eq_true rfl, Nat.le_of_ble_eq_true rfl⟩ dX4_form_26 ?_
        refine lv_if_eq (tgt := 40) hx hb dX4_form_29 rfl (fun c6 => ?_) (fun c6 => ?_)
        · have hrun := p_pos hrun c6
          refine lv_ldc (v := (-2000000103)) hx hb C.2.2.2.1 (C.2.2.2.2 _ k4_form_56) dX4_form_40 ?_
          cases hrun
          exact rS_i C hr hlk hQ (nbi _) rfl dX4_form_42
        · have hrun := p_neg hrun c6
          refine lv_aload_n hx hb dX4_form_32 rfl (lv_at hl 0 rfl) ?_
          refine lv_iload_n hx hb dX4_form_33 rfl (lv_at hl 3 rfl) ?_
          obtain ⟨r7, h_r7, hrun⟩ := p_bnd hrun
          refine jVS_i (rest := []) C (c3_formNumber (WX_word hj2) h_r7) gX4_form_X3_formNumber hd3_formNumber hK hN hP ⟨_, 3, _, _, (WX_word hj2), rfl, rfl⟩ rfl ⟨rfl, rfl⟩ ⟨Nat.le_of_ble_eq_true rfl, Nat.le_of_ble_eq_true rfl⟩ rfl hl.1 rfl (Nat.le_of_ble_eq_true rfl) ⟨Nat.le_of_ble_eq_true rfl, Nat.le_of_ble_eq_true rfl⟩ dX4_form_34 ?_
          refine lv_goto (tgt := 42) hx hb dX4_form_37 rfl ?_
          cases hrun
          exact rS_i C hr hlk hQ (nbi _) rfl dX4_form_42
      · have hrun := p_neg hrun c4
        refine lv_ldc (v := (-2000000102)) hx hb C.2.2.2.1 (C.2.2.2.2 _ k4_form_36) dX4_form_22 ?_
        cases hrun
        exact rS_i C hr hlk hQ (nbi _) rfl dX4_form_24

abbrev rm4_end : Room := { frames := 1, cells := 0, slots := 0, locals := 21 }
theorem fl4_end_112 : Cond.fieldLink RX4 112 "RiverWords$Word" "a" "I" ∈ wsX4_end := by decide +kernel
theorem fl4_end_115 : Cond.fieldLink RX4 115 "RiverWords$Word" "b" "I" ∈ wsX4_end := by decide +kernel
theorem fl4_end_118 : Cond.fieldLink RX4 118 "RiverWords$Word" "c" "I" ∈ wsX4_end := by decide +kernel
theorem fl4_end_121 : Cond.fieldLink RX4 121 "RiverWords$Word" "d" "I" ∈ wsX4_end := by decide +kernel
theorem k4_end_36 : Cond.constant RX4 36 (-2000000102) ∈ wsX4_end := by decide +kernel
theorem k4_end_74 : Cond.constant RX4 74 (-2000000101) ∈ wsX4_end := by decide +kernel
theorem inm4_end_X3 : ∀ w ∈ wsX30, w ∈ wsX4_end := by decide +kernel
theorem hd4_end : okD yX4_end 2 := by decide +kernel
set_option maxHeartbeats 8000000 in
set_option maxRecDepth 100000 in
theorem c4_end {x1 : Int32} {x2 : Int32} {res : Int32} (hrun : P4_end v_roadCount v_wn v_wv x1 x2 = some res) : Met l yX4_end wsX4_end rm4_end (va_Pc [.ref (ad 0), .int x1, .int x2] (PS D (tyX cI cR cG) (WX ad fa ca wad cI cR cG v_roadCount v_readings v_psize v_good v_pbits v_letters v_afterLetter v_codes v_disc v_rsize v_cycleCount v_fo v_cy v_s v_closed v_traces v_crossings v_db_bits v_db_size v_db_allBits v_db_a v_db_b v_db_c v_db_d v_dn_bits v_dn_size v_dn_allBits v_dn_a v_dn_b v_dn_c v_dn_d v_wn v_wv))) (vp_Si (fun x => x = res)) 0 0 (fun _ => False) := by
  refine S_in (cc := cX4_end) (maxL := 4) (ret := (some .int)) (by decide) rfl (Nat.le_of_ble_eq_true rfl) ?_
  intro p e s m args below meth c ls Q hQ C hr hlk hK hN hP hl
  have C : CallFix p m c cX4_end 4 s args wsX4_end RX4 := C
  have hx := C.1
  have hb := C.2.1
  have hl : lv_has ls 4 [(0, .ref (ad 0)), (1, .int x1), (2, .int x2)] := hl
  unfold P4_end at hrun
  refine lv_aload_n hx hb dX4_end_0 rfl (lv_at hl 0 rfl) ?_
  refine lv_iload_n hx hb dX4_end_1 rfl (lv_at hl 1 rfl) ?_
  obtain ⟨r1, h_r1, hrun⟩ := p_bnd hrun
  refine jVS_q (rest := []) C (c4_roadAt h_r1) gX4_end_X4_roadAt hd4_roadAt hK hN hP rcX rfl ⟨rfl, rfl⟩ ⟨Nat.le_of_ble_eq_true rfl, Nat.le_of_ble_eq_true rfl⟩ rfl hl.1 rfl (Nat.le_of_ble_eq_true rfl) ⟨Nat.le_of_ble_eq_true rfl, Nat.le_of_ble_eq_true rfl⟩ dX4_end_2 ?_
  rcases r1 with _ | j2
  · refine W.eq (g2 := F0 m 5 ls (.null :: [])) rfl ?_
    refine lv_astore_nN (lv' := [(3, .null), (0, .ref (ad 0)), (1, .int x1), (2, .int x2)]) hx hb dX4_end_5 rfl hl (by decide) rfl (fun ls hl => ?_)
    refine lv_aload_nN hx hb dX4_end_6 rfl (lv_at hl 0 rfl) ?_
    refine lv_ifnonnullN hx hb dX4_end_7 ?_
    refine lv_ldc (v := (-2000000101)) hx hb C.2.2.2.1 (C.2.2.2.2 _ k4_end_74) dX4_end_10 ?_
    cases hrun
    exact rS_i C hr hlk hQ (nbi _) rfl dX4_end_12
  · have hj2 := P4_roadAt_lt h_r1
    refine W.eq (g2 := F0 m 5 ls (.ref (wad j2) :: [])) rfl ?_
    refine lv_astore_n (lv' := [(3, .ref (wad j2)), (0, .ref (ad 0)), (1, .int x1), (2, .int x2)]) hx hb dX4_end_5 rfl hl (by decide) rfl (fun ls hl => ?_)
    refine lv_aload_n hx hb dX4_end_6 rfl (lv_at hl 0 rfl) ?_
    refine lv_ifnonnull (tgt := 13) hx hb dX4_end_7 rfl ?_
    refine lv_iload_n hx hb dX4_end_13 rfl (lv_at hl 3 rfl) ?_
    by_cases c3 : x2 = 0
    · have hrun := p_pos hrun c3
      refine j_lswIn (tgt := 40) hx hb dX4_end_14 0 c3 rfl rfl rfl ?_
      refine lv_aload_n hx hb dX4_end_40 rfl (lv_at hl 0 rfl) ?_
      refine gX_w_a hj2 C inm4_end_X3 hK hP fl4_end_112 dX4_end_41 ?_
      refine lv_aload_n hx hb dX4_end_44 rfl (lv_at hl 0 rfl) ?_
      refine gX_w_b hj2 C inm4_end_X3 hK hP fl4_end_115 dX4_end_45 ?_
      refine lv_iadd hx hb dX4_end_48 ?_
      cases hrun
      exact rS_i C hr hlk hQ (nbi _) rfl dX4_end_49
    · have hrun := p_neg hrun c3
      by_cases c4 : x2 = 1
      · have hrun := p_pos hrun c4
        refine j_lswIn (tgt := 50) hx hb dX4_end_14 1 c4 rfl rfl rfl ?_
        refine lv_aload_n hx hb dX4_end_50 rfl (lv_at hl 0 rfl) ?_
        refine gX_w_c hj2 C inm4_end_X3 hK hP fl4_end_118 dX4_end_51 ?_
        refine lv_aload_n hx hb dX4_end_54 rfl (lv_at hl 0 rfl) ?_
        refine gX_w_d hj2 C inm4_end_X3 hK hP fl4_end_121 dX4_end_55 ?_
        refine lv_iadd hx hb dX4_end_58 ?_
        cases hrun
        exact rS_i C hr hlk hQ (nbi _) rfl dX4_end_59
      · have hrun := p_neg hrun c4
        refine j_lswOut (tgt := 60) hx hb dX4_end_14 c3 c4 rfl ?_
        refine lv_ldc (v := (-2000000102)) hx hb C.2.2.2.1 (C.2.2.2.2 _ k4_end_36) dX4_end_60 ?_
        cases hrun
        exact rS_i C hr hlk hQ (nbi _) rfl dX4_end_62

abbrev rm4_alike : Room := { frames := 2, cells := 0, slots := 0, locals := 44 }
theorem fl4_alike_75 : Cond.fieldLink RX4 75 "RiverWords$Word" "size" "I" ∈ wsX4_alike := by decide +kernel
theorem fl4_alike_76 : Cond.fieldLink RX4 76 "RiverWords$Word" "bits" "I" ∈ wsX4_alike := by decide +kernel
theorem k4_alike_74 : Cond.constant RX4 74 (-2000000101) ∈ wsX4_alike := by decide +kernel
theorem k4_alike_130 : Cond.constant RX4 130 (-2000000001) ∈ wsX4_alike := by decide +kernel
theorem inm4_alike_X3 : ∀ w ∈ wsX30, w ∈ wsX4_alike := by decide +kernel
theorem hd4_alike : okD yX4_alike 2 := by decide +kernel
set_option maxHeartbeats 8000000 in
set_option maxRecDepth 100000 in
theorem c4_alike {x1 : Int32} {x2 : Int32} {res : Int32} (hrun : P4_alike v_roadCount v_wn v_wv x1 x2 = some res) : Met l yX4_alike wsX4_alike rm4_alike (va_Pc [.ref (ad 0), .int x1, .int x2] (PS D (tyX cI cR cG) (WX ad fa ca wad cI cR cG v_roadCount v_readings v_psize v_good v_pbits v_letters v_afterLetter v_codes v_disc v_rsize v_cycleCount v_fo v_cy v_s v_closed v_traces v_crossings v_db_bits v_db_size v_db_allBits v_db_a v_db_b v_db_c v_db_d v_dn_bits v_dn_size v_dn_allBits v_dn_a v_dn_b v_dn_c v_dn_d v_wn v_wv))) (vp_Si (fun x => x = res)) 0 0 (fun _ => False) := by
  refine S_in (cc := cX4_alike) (maxL := 5) (ret := (some .int)) (by decide) rfl (Nat.le_of_ble_eq_true rfl) ?_
  intro p e s m args below meth c ls Q hQ C hr hlk hK hN hP hl
  have C : CallFix p m c cX4_alike 5 s args wsX4_alike RX4 := C
  have hx := C.1
  have hb := C.2.1
  have hl : lv_has ls 5 [(0, .ref (ad 0)), (1, .int x1), (2, .int x2)] := hl
  unfold P4_alike at hrun
  refine lv_aload_n hx hb dX4_alike_0 rfl (lv_at hl 0 rfl) ?_
  refine lv_iload_n hx hb dX4_alike_1 rfl (lv_at hl 1 rfl) ?_
  obtain ⟨r1, h_r1, hrun⟩ := p_bnd hrun
  refine jVS_q (rest := []) C (c4_roadAt h_r1) gX4_alike_X4_roadAt hd4_roadAt hK hN hP rcX rfl ⟨rfl, rfl⟩ ⟨Nat.le_of_ble_eq_true rfl, Nat.le_of_ble_eq_true rfl⟩ rfl hl.1 rfl (Nat.le_of_ble_eq_true rfl) ⟨Nat.le_of_ble_eq_true rfl, Nat.le_of_ble_eq_true rfl⟩ dX4_alike_2 ?_
  rcases r1 with _ | j2
  · refine W.eq (g2 := F0 m 5 ls (.null :: [])) rfl ?_
    refine lv_astore_nN (lv' := [(3, .null), (0, .ref (ad 0)), (1, .int x1), (2, .int x2)]) hx hb dX4_alike_5 rfl hl (by decide) rfl (fun ls hl => ?_)
    refine lv_aload_n hx hb dX4_alike_6 rfl (lv_at hl 1 rfl) ?_
    refine lv_iload_n hx hb dX4_alike_7 rfl (lv_at hl 3 rfl) ?_
    obtain ⟨r3, h_r3, hrun⟩ := p_bnd hrun
    refine jVS_q (rest := []) C (c4_roadAt h_r3) gX4_alike_X4_roadAt hd4_roadAt hK hN hP rcX rfl ⟨rfl, rfl⟩ ⟨Nat.le_of_ble_eq_true rfl, Nat.le_of_ble_eq_true rfl⟩ rfl hl.1 rfl (Nat.le_of_ble_eq_true rfl) ⟨Nat.le_of_ble_eq_true rfl, Nat.le_of_ble_eq_true rfl⟩ dX4_alike_8 ?_
    rcases r3 with _ | j4
    · refine W.eq (g2 := F0 m 11 ls (.null :: [])) rfl ?_
      refine lv_astoreN (lv' := [(4, .null), (3, .null), (0, .ref (ad 0)), (1, .int x1), (2, .int x2)]) hx hb dX4_alike_11 hl (by decide) rfl (fun ls hl => ?_)
      refine lv_aload_nN hx hb dX4_alike_13 rfl (lv_at hl 1 rfl) ?_
      refine lv_ifnullN (tgt := 22) hx hb dX4_alike_14 rfl ?_
      refine lv_ldc (v := (-2000000101)) hx hb C.2.2.2.1 (C.2.2.2.2 _ k4_alike_74) dX4_alike_22 ?_
      cases hrun
      exact rS_i C hr hlk hQ (nbi _) rfl dX4_alike_24
    · have hj4 := P4_roadAt_lt h_r3
      refine W.eq (g2 := F0 m 11 ls (.ref (wad j4) :: [])) rfl ?_
      refine lv_astore (lv' := [(4, .ref (wad j4)), (3, .null), (0, .ref (ad 0)), (1, .int x1), (2, .int x2)]) hx hb dX4_alike_11 hl (by decide) rfl (fun ls hl => ?_)
      refine lv_aload_nN hx hb dX4_alike_13 rfl (lv_at hl 1 rfl) ?_
      refine lv_ifnullN (tgt := 22) hx hb dX4_alike_14 rfl ?_
      refine lv_ldc (v := (-2000000101)) hx hb C.2.2.2.1 (C.2.2.2.2 _ k4_alike_74) dX4_alike_22 ?_
      cases hrun
      exact rS_i C hr hlk hQ (nbi _) rfl dX4_alike_24
  · have hj2 := P4_roadAt_lt h_r1
    refine W.eq (g2 := F0 m 5 ls (.ref (wad j2) :: [])) rfl ?_
    refine lv_astore_n (lv' := [(3, .ref (wad j2)), (0, .ref (ad 0)), (1, .int x1), (2, .int x2)]) hx hb dX4_alike_5 rfl hl (by decide) rfl (fun ls hl => ?_)
    refine lv_aload_n hx hb dX4_alike_6 rfl (lv_at hl 1 rfl) ?_
    refine lv_iload_n hx hb dX4_alike_7 rfl (lv_at hl 3 rfl) ?_
    obtain ⟨r5, h_r5, hrun⟩ := p_bnd hrun
    refine jVS_q (rest := []) C (c4_roadAt h_r5) gX4_alike_X4_roadAt hd4_roadAt hK hN hP rcX rfl ⟨rfl, rfl⟩ ⟨Nat.le_of_ble_eq_true rfl, Nat.le_of_ble_eq_true rfl⟩ rfl hl.1 rfl (Nat.le_of_ble_eq_true rfl) ⟨Nat.le_of_ble_eq_true rfl, Nat.le_of_ble_eq_true rfl⟩ dX4_alike_8 ?_
    rcases r5 with _ | j6
    · refine W.eq (g2 := F0 m 11 ls (.null :: [])) rfl ?_
      refine lv_astoreN (lv' := [(4, .null), (3, .ref (wad j2)), (0, .ref (ad 0)), (1, .int x1), (2, .int x2)]) hx hb dX4_alike_11 hl (by decide) rfl (fun ls hl => ?_)
      refine lv_aload_n hx hb dX4_alike_13 rfl (lv_at hl 1 rfl) ?_
      refine lv_ifnull hx hb dX4_alike_14 ?_
      refine lv_aloadN hx hb dX4_alike_17 (lv_at hl 0 rfl) ?_
      refine lv_ifnonnullN hx hb dX4_alike_19 ?_
      refine lv_ldc (v := (-2000000101)) hx hb C.2.2.2.1 (C.2.2.2.2 _ k4_alike_74) dX4_alike_22 ?_
      cases hrun
      exact rS_i C hr hlk hQ (nbi _) rfl dX4_alike_24
    · have hj6 := P4_roadAt_lt h_r5
      refine W.eq (g2 := F0 m 11 ls (.ref (wad j6) :: [])) rfl ?_
      refine lv_astore (lv' := [(4, .ref (wad j6)), (3, .ref (wad j2)), (0, .ref (ad 0)), (1, .int x1), (2, .int x2)]) hx hb dX4_alike_11 hl (by decide) rfl (fun ls hl => ?_)
      refine lv_aload_n hx hb dX4_alike_13 rfl (lv_at hl 1 rfl) ?_
      refine lv_ifnull hx hb dX4_alike_14 ?_
      refine lv_aload hx hb dX4_alike_17 (lv_at hl 0 rfl) ?_
      refine lv_ifnonnull (tgt := 25) hx hb dX4_alike_19 rfl ?_
      refine lv_aload_n hx hb dX4_alike_25 rfl (lv_at hl 1 rfl) ?_
      refine gX_w_size hj2 C inm4_alike_X3 hK hP fl4_alike_75 dX4_alike_26 ?_
      refine lv_aload hx hb dX4_alike_29 (lv_at hl 0 rfl) ?_
      refine gX_w_size hj6 C inm4_alike_X3 hK hP fl4_alike_75 dX4_alike_31 ?_
      refine lv_icmp_ne (tgt := 50) hx hb dX4_alike_34 rfl (fun c7 => ?_) (fun c7 => ?_)
      · have hrun := p_neg hrun c7
        refine lv_ldc (v := (-2000000001)) hx hb C.2.2.2.1 (C.2.2.2.2 _ k4_alike_130) dX4_alike_50 ?_
        cases hrun
        exact rS_i C hr hlk hQ (nbi _) rfl dX4_alike_52
      · have hrun := p_pos hrun c7
        refine lv_aload_n hx hb dX4_alike_37 rfl (lv_at hl 1 rfl) ?_
        refine lv_aload hx hb dX4_alike_38 (lv_at hl 0 rfl) ?_
        refine gX_w_bits hj6 C inm4_alike_X3 hK hP fl4_alike_76 dX4_alike_40 ?_
        refine lv_iconst (v := 0) hx hb dX4_alike_43 rfl ?_
        obtain ⟨r8, h_r8, hrun⟩ := p_bnd hrun
        refine jVS_i (rest := []) C (c3_turnTo (WX_word hj2) h_r8) gX4_alike_X3_turnTo hd3_turnTo hK hN hP ⟨_, 3, _, _, (WX_word hj2), rfl, rfl⟩ rfl ⟨rfl, rfl⟩ ⟨Nat.le_of_ble_eq_true rfl, Nat.le_of_ble_eq_true rfl⟩ rfl hl.1 rfl (Nat.le_of_ble_eq_true rfl) ⟨Nat.le_of_ble_eq_true rfl, Nat.le_of_ble_eq_true rfl⟩ dX4_alike_44 ?_
        refine lv_goto (tgt := 52) hx hb dX4_alike_47 rfl ?_
        cases hrun
        exact rS_i C hr hlk hQ (nbi _) rfl dX4_alike_52

abbrev rm4_cross : Room := { frames := 3, cells := 0, slots := 0, locals := 71 }
theorem k4_cross_56 : Cond.constant RX4 56 (-2000000103) ∈ wsX4_cross := by decide +kernel
theorem k4_cross_74 : Cond.constant RX4 74 (-2000000101) ∈ wsX4_cross := by decide +kernel
theorem hd4_cross : okD yX4_cross 2 := by decide +kernel
set_option maxHeartbeats 8000000 in
set_option maxRecDepth 100000 in
theorem c4_cross {x1 : Int32} {x2 : Int32} {res : Int32} (hrun : P4_cross v_roadCount v_wn v_wv x1 x2 = some res) : Met l yX4_cross wsX4_cross rm4_cross (va_Pc [.ref (ad 0), .int x1, .int x2] (PS D (tyX cI cR cG) (WX ad fa ca wad cI cR cG v_roadCount v_readings v_psize v_good v_pbits v_letters v_afterLetter v_codes v_disc v_rsize v_cycleCount v_fo v_cy v_s v_closed v_traces v_crossings v_db_bits v_db_size v_db_allBits v_db_a v_db_b v_db_c v_db_d v_dn_bits v_dn_size v_dn_allBits v_dn_a v_dn_b v_dn_c v_dn_d v_wn v_wv))) (vp_Si (fun x => x = res)) 0 0 (fun _ => False) := by
  refine S_in (cc := cX4_cross) (maxL := 5) (ret := (some .int)) (by decide) rfl (Nat.le_of_ble_eq_true rfl) ?_
  intro p e s m args below meth c ls Q hQ C hr hlk hK hN hP hl
  have C : CallFix p m c cX4_cross 5 s args wsX4_cross RX4 := C
  have hx := C.1
  have hb := C.2.1
  have hl : lv_has ls 5 [(0, .ref (ad 0)), (1, .int x1), (2, .int x2)] := hl
  unfold P4_cross at hrun
  refine lv_aload_n hx hb dX4_cross_0 rfl (lv_at hl 0 rfl) ?_
  refine lv_iload_n hx hb dX4_cross_1 rfl (lv_at hl 1 rfl) ?_
  obtain ⟨r1, h_r1, hrun⟩ := p_bnd hrun
  refine jVS_q (rest := []) C (c4_roadAt h_r1) gX4_cross_X4_roadAt hd4_roadAt hK hN hP rcX rfl ⟨rfl, rfl⟩ ⟨Nat.le_of_ble_eq_true rfl, Nat.le_of_ble_eq_true rfl⟩ rfl hl.1 rfl (Nat.le_of_ble_eq_true rfl) ⟨Nat.le_of_ble_eq_true rfl, Nat.le_of_ble_eq_true rfl⟩ dX4_cross_2 ?_
  rcases r1 with _ | j2
  · refine W.eq (g2 := F0 m 5 ls (.null :: [])) rfl ?_
    refine lv_astore_nN (lv' := [(3, .null), (0, .ref (ad 0)), (1, .int x1), (2, .int x2)]) hx hb dX4_cross_5 rfl hl (by decide) rfl (fun ls hl => ?_)
    refine lv_aload_n hx hb dX4_cross_6 rfl (lv_at hl 1 rfl) ?_
    refine lv_iload_n hx hb dX4_cross_7 rfl (lv_at hl 3 rfl) ?_
    obtain ⟨r3, h_r3, hrun⟩ := p_bnd hrun
    refine jVS_q (rest := []) C (c4_roadAt h_r3) gX4_cross_X4_roadAt hd4_roadAt hK hN hP rcX rfl ⟨rfl, rfl⟩ ⟨Nat.le_of_ble_eq_true rfl, Nat.le_of_ble_eq_true rfl⟩ rfl hl.1 rfl (Nat.le_of_ble_eq_true rfl) ⟨Nat.le_of_ble_eq_true rfl, Nat.le_of_ble_eq_true rfl⟩ dX4_cross_8 ?_
    rcases r3 with _ | j4
    · refine W.eq (g2 := F0 m 11 ls (.null :: [])) rfl ?_
      refine lv_astoreN (lv' := [(4, .null), (3, .null), (0, .ref (ad 0)), (1, .int x1), (2, .int x2)]) hx hb dX4_cross_11 hl (by decide) rfl (fun ls hl => ?_)
      refine lv_aload_nN hx hb dX4_cross_13 rfl (lv_at hl 1 rfl) ?_
      refine lv_ifnullN (tgt := 22) hx hb dX4_cross_14 rfl ?_
      refine lv_ldc (v := (-2000000101)) hx hb C.2.2.2.1 (C.2.2.2.2 _ k4_cross_74) dX4_cross_22 ?_
      cases hrun
      exact rS_i C hr hlk hQ (nbi _) rfl dX4_cross_24
    · have hj4 := P4_roadAt_lt h_r3
      refine W.eq (g2 := F0 m 11 ls (.ref (wad j4) :: [])) rfl ?_
      refine lv_astore (lv' := [(4, .ref (wad j4)), (3, .null), (0, .ref (ad 0)), (1, .int x1), (2, .int x2)]) hx hb dX4_cross_11 hl (by decide) rfl (fun ls hl => ?_)
      refine lv_aload_nN hx hb dX4_cross_13 rfl (lv_at hl 1 rfl) ?_
      refine lv_ifnullN (tgt := 22) hx hb dX4_cross_14 rfl ?_
      refine lv_ldc (v := (-2000000101)) hx hb C.2.2.2.1 (C.2.2.2.2 _ k4_cross_74) dX4_cross_22 ?_
      cases hrun
      exact rS_i C hr hlk hQ (nbi _) rfl dX4_cross_24
  · have hj2 := P4_roadAt_lt h_r1
    refine W.eq (g2 := F0 m 5 ls (.ref (wad j2) :: [])) rfl ?_
    refine lv_astore_n (lv' := [(3, .ref (wad j2)), (0, .ref (ad 0)), (1, .int x1), (2, .int x2)]) hx hb dX4_cross_5 rfl hl (by decide) rfl (fun ls hl => ?_)
    refine lv_aload_n hx hb dX4_cross_6 rfl (lv_at hl 1 rfl) ?_
    refine lv_iload_n hx hb dX4_cross_7 rfl (lv_at hl 3 rfl) ?_
    obtain ⟨r5, h_r5, hrun⟩ := p_bnd hrun
    refine jVS_q (rest := []) C (c4_roadAt h_r5) gX4_cross_X4_roadAt hd4_roadAt hK hN hP rcX rfl ⟨rfl, rfl⟩ ⟨Nat.le_of_ble_eq_true rfl, Nat.le_of_ble_eq_true rfl⟩ rfl hl.1 rfl (Nat.le_of_ble_eq_true rfl) ⟨Nat.le_of_ble_eq_true rfl, Nat.le_of_ble_eq_true rfl⟩ dX4_cross_8 ?_
    rcases r5 with _ | j6
    · refine W.eq (g2 := F0 m 11 ls (.null :: [])) rfl ?_
      refine lv_astoreN (lv' := [(4, .null), (3, .ref (wad j2)), (0, .ref (ad 0)), (1, .int x1), (2, .int x2)]) hx hb dX4_cross_11 hl (by decide) rfl (fun ls hl => ?_)
      refine lv_aload_n hx hb dX4_cross_13 rfl (lv_at hl 1 rfl) ?_
      refine lv_ifnull hx hb dX4_cross_14 ?_
      refine lv_aloadN hx hb dX4_cross_17 (lv_at hl 0 rfl) ?_
      refine lv_ifnonnullN hx hb dX4_cross_19 ?_
      refine lv_ldc (v := (-2000000101)) hx hb C.2.2.2.1 (C.2.2.2.2 _ k4_cross_74) dX4_cross_22 ?_
      cases hrun
      exact rS_i C hr hlk hQ (nbi _) rfl dX4_cross_24
    · have hj6 := P4_roadAt_lt h_r5
      refine W.eq (g2 := F0 m 11 ls (.ref (wad j6) :: [])) rfl ?_
      refine lv_astore (lv' := [(4, .ref (wad j6)), (3, .ref (wad j2)), (0, .ref (ad 0)), (1, .int x1), (2, .int x2)]) hx hb dX4_cross_11 hl (by decide) rfl (fun ls hl => ?_)
      refine lv_aload_n hx hb dX4_cross_13 rfl (lv_at hl 1 rfl) ?_
      refine lv_ifnull hx hb dX4_cross_14 ?_
      refine lv_aload hx hb dX4_cross_17 (lv_at hl 0 rfl) ?_
      refine lv_ifnonnull (tgt := 25) hx hb dX4_cross_19 rfl ?_
      refine lv_aload_n hx hb dX4_cross_25 rfl (lv_at hl 1 rfl) ?_
      obtain ⟨r7, h_r7, hrun⟩ := p_bnd hrun
      refine jVS_i (rest := []) C (c3_isClosed (WX_word hj2) h_r7) gX4_cross_X3_isClosed hd3_isClosed hK hN hP ⟨_, 3, _, _, (WX_word hj2), rfl, rfl⟩ rfl ⟨rfl, rfl⟩ ⟨Nat.le_of_ble_eq_true rfl, Nat.le_of_ble_eq_true rfl⟩ rfl hl.1 rfl (Nat.le_of_ble_eq_true rfl) ⟨Nat.le_of_ble_eq_true rfl, Nat.le_of_ble_eq_true rfl⟩ dX4_cross_26 ?_
      refine lv_if_eq (tgt := 49) hx hb dX4_cross_29 rfl (fun c8 => ?_) (fun c8 => ?_)
      · have hrun := p_pos hrun c8
        refine lv_ldc (v := (-2000000103)) hx hb C.2.2.2.1 (C.2.2.2.2 _ k4_cross_56) dX4_cross_49 ?_
        cases hrun
        exact rS_i C hr hlk hQ (nbi _) rfl dX4_cross_51
      · have hrun := p_neg hrun c8
        refine lv_aload hx hb dX4_cross_32 (lv_at hl 0 rfl) ?_
        obtain ⟨r9, h_r9, hrun⟩ := p_bnd hrun
        refine jVS_i (rest := []) C (c3_isClosed (WX_word hj6) h_r9) gX4_cross_X3_isClosed hd3_isClosed hK hN hP ⟨_, 3, _, _, (WX_word hj6), rfl, rfl⟩ rfl ⟨rfl, rfl⟩ ⟨Nat.le_of_ble_eq_true rfl, Nat.le_of_ble_eq_true rfl⟩ rfl hl.1 rfl (Nat.le_of_ble_eq_true rfl) ⟨Nat.le_of_ble_eq_true rfl, Nat.le_of_ble_eq_true rfl⟩ dX4_cross_34 ?_
        refine lv_if_eq (tgt := 49) hx hb dX4_cross_37 rfl (fun c10 => ?_) (fun c10 => ?_)
        · have hrun := p_pos hrun c10
          refine lv_ldc (v := (-2000000103)) hx hb C.2.2.2.1 (C.2.2.2.2 _ k4_cross_56) dX4_cross_49 ?_
          cases hrun
          exact rS_i C hr hlk hQ (nbi _) rfl dX4_cross_51
        · have hrun := p_neg hrun c10
          refine lv_aload_n hx hb dX4_cross_40 rfl (lv_at hl 1 rfl) ?_
          refine lv_aload hx hb dX4_cross_41 (lv_at hl 0 rfl) ?_
          obtain ⟨r11, h_r11, hrun⟩ := p_bnd hrun
          refine jVS_i (rest := []) C (c3_crossings (WX_word hj2) (WX_word hj6) h_r11) gX4_cross_X3_crossings hd3_crossings hK hN hP ⟨_, 3, _, _, (WX_word hj2), rfl, rfl⟩ rfl ⟨rfl, rfl⟩ ⟨Nat.le_of_ble_eq_true rfl, Nat.le_of_ble_eq_true rfl⟩ rfl hl.1 rfl (Nat.le_of_ble_eq_true rfl) ⟨Nat.le_of_ble_eq_true rfl, Nat.le_of_ble_eq_true rfl⟩ dX4_cross_43 ?_
          refine lv_goto (tgt := 51) hx hb dX4_cross_46 rfl ?_
          cases hrun
          exact rS_i C hr hlk hQ (nbi _) rfl dX4_cross_51

abbrev rm4_turn : Room := { frames := 3, cells := 0, slots := 0, locals := 65 }
theorem fl4_turn_75 : Cond.fieldLink RX4 75 "RiverWords$Word" "size" "I" ∈ wsX4_turn := by decide +kernel
theorem k4_turn_36 : Cond.constant RX4 36 (-2000000102) ∈ wsX4_turn := by decide +kernel
theorem k4_turn_74 : Cond.constant RX4 74 (-2000000101) ∈ wsX4_turn := by decide +kernel
theorem inm4_turn_X3 : ∀ w ∈ wsX30, w ∈ wsX4_turn := by decide +kernel
theorem hd4_turn : okD yX4_turn 2 := by decide +kernel
set_option maxHeartbeats 8000000 in
set_option maxRecDepth 100000 in
theorem c4_turn {x1 : Int32} {x2 : Int32} {res : Int32 × (Nat → Nat → Int32)} (hrun : P4_turn v_roadCount v_wn v_wv x1 x2 = some res) : Met l yX4_turn wsX4_turn rm4_turn (va_Pc [.ref (ad 0), .int x1, .int x2] (PE D (tyX cI cR cG) sz (WX0 ad fa ca wad cI cR cG v_wn) (WX ad fa ca wad cI cR cG v_roadCount v_readings v_psize v_good v_pbits v_letters v_afterLetter v_codes v_disc v_rsize v_cycleCount v_fo v_cy v_s v_closed v_traces v_crossings v_db_bits v_db_size v_db_allBits v_db_a v_db_b v_db_c v_db_d v_dn_bits v_dn_size v_dn_allBits v_dn_a v_dn_b v_dn_c v_dn_d v_wn v_wv))) (va_Qi (fun (x : Int32) (_ : Unit) => x = res.1) (fun _ t => va_P D vwCl (WX ad fa ca wad cI cR cG v_roadCount v_readings v_psize v_good v_pbits v_letters v_afterLetter v_codes v_disc v_rsize v_cycleCount v_fo v_cy v_s v_closed v_traces v_crossings v_db_bits v_db_size v_db_allBits v_db_a v_db_b v_db_c v_db_d v_dn_bits v_dn_size v_dn_allBits v_dn_a v_dn_b v_dn_c v_dn_d v_wn res.2) t.heap) (va_A (WX0 ad fa ca wad cI cR cG v_wn) sz)) 0 0 (va_A (WX0 ad fa ca wad cI cR cG v_wn) sz) := by
  refine E_in (cc := cX4_turn) (maxL := 4) (ret := (some .int)) (by decide) rfl (Nat.le_of_ble_eq_true rfl) ?_
  intro p e s m args below meth c ls Q hQ C hr hlk hK hN hD hA I hl
  have C : CallFix p m c cX4_turn 4 s args wsX4_turn RX4 := C
  have hx := C.1
  have hb := C.2.1
  have hl : lv_has ls 4 [(0, .ref (ad 0)), (1, .int x1), (2, .int x2)] := hl
  unfold P4_turn at hrun
  refine lv_aload_n hx hb dX4_turn_0 rfl (lv_at hl 0 rfl) ?_
  refine lv_iload_n hx hb dX4_turn_1 rfl (lv_at hl 1 rfl) ?_
  obtain ⟨r1, h_r1, hrun⟩ := p_bnd hrun
  refine jVS_q (rest := []) C (c4_roadAt h_r1) gX4_turn_X4_roadAt hd4_roadAt hK hN I.1 rcX rfl ⟨rfl, rfl⟩ ⟨Nat.le_of_ble_eq_true rfl, Nat.le_of_ble_eq_true rfl⟩ rfl hl.1 rfl (Nat.le_of_ble_eq_true rfl) ⟨Nat.le_of_ble_eq_true rfl, Nat.le_of_ble_eq_true rfl⟩ dX4_turn_2 ?_
  rcases r1 with _ | j2
  · refine W.eq (g2 := F0 m 5 ls (.null :: [])) rfl ?_
    refine lv_astore_nN (lv' := [(3, .null), (0, .ref (ad 0)), (1, .int x1), (2, .int x2)]) hx hb dX4_turn_5 rfl hl (by decide) rfl (fun ls hl => ?_)
    refine lv_aload_nN hx hb dX4_turn_6 rfl (lv_at hl 0 rfl) ?_
    refine lv_ifnonnullN hx hb dX4_turn_7 ?_
    refine lv_ldc (v := (-2000000101)) hx hb C.2.2.2.1 (C.2.2.2.2 _ k4_turn_74) dX4_turn_10 ?_
    cases hrun
    exact rE_i C hr hlk hQ I (nbi _) rfl dX4_turn_12
  · have hj2 := P4_roadAt_lt h_r1
    refine W.eq (g2 := F0 m 5 ls (.ref (wad j2) :: [])) rfl ?_
    refine lv_astore_n (lv' := [(3, .ref (wad j2)), (0, .ref (ad 0)), (1, .int x1), (2, .int x2)]) hx hb dX4_turn_5 rfl hl (by decide) rfl (fun ls hl => ?_)
    refine lv_aload_n hx hb dX4_turn_6 rfl (lv_at hl 0 rfl) ?_
    refine lv_ifnonnull (tgt := 13) hx hb dX4_turn_7 rfl ?_
    refine lv_iload_n hx hb dX4_turn_13 rfl (lv_at hl 3 rfl) ?_
    refine lv_if_lt (tgt := 25) hx hb dX4_turn_14 rfl (fun c3 => ?_) (fun c3 => ?_)
    · have hrun := p_pos hrun c3
      refine lv_ldc (v := (-2000000102)) hx hb C.2.2.2.1 (C.2.2.2.2 _ k4_turn_36) dX4_turn_25 ?_
      cases hrun
      exact rE_i C hr hlk hQ I (nbi _) rfl dX4_turn_27
    · have hrun := p_neg hrun c3
      refine lv_iload_n hx hb dX4_turn_17 rfl (lv_at hl 3 rfl) ?_
      refine lv_aload_n hx hb dX4_turn_18 rfl (lv_at hl 0 rfl) ?_
      refine gX_w_size hj2 C inm4_turn_X3 hK I.1 fl4_turn_75 dX4_turn_19 ?_
      refine lv_icmp_lt (tgt := 28) hx hb dX4_turn_22 rfl (fun c4 => ?_) (fun c4 => ?_)
      · have hrun := p_pos hrun c4
        refine lv_aload_n hx hb dX4_turn_28 rfl (lv_at hl 0 rfl) ?_
        refine lv_aload_n hx hb dX4_turn_29 rfl (lv_at hl 0 rfl) ?_
        refine lv_iload_n hx hb dX4_turn_30 rfl (lv_at hl 3 rfl) ?_
        obtain ⟨r5, h_r5, hrun⟩ := p_bnd hrun
        refine jVS_i (rest := [.ref (wad j2)]) C (c3_rotation (WX_word hj2) h_r5) gX4_turn_X3_rotation hd3_rotation hK hN I.1 ⟨_, 3, _, _, (WX_word hj2), rfl, rfl⟩ rfl ⟨rfl, rfl⟩ ⟨Nat.le_of_ble_eq_true rfl, Nat.le_of_ble_eq_true rfl⟩ rfl hl.1 rfl (Nat.le_of_ble_eq_true rfl) ⟨Nat.le_of_ble_eq_true rfl, Nat.le_of_ble_eq_true rfl⟩ dX4_turn_31 ?_
        refine lv_aload_n hx hb dX4_turn_34 rfl (lv_at hl 0 rfl) ?_
        refine gX_w_size hj2 C inm4_turn_X3 hK I.1 fl4_turn_75 dX4_turn_35 ?_
        obtain ⟨r6, h_r6, hrun⟩ := p_bnd hrun
        refine jW_become_slot (rest := []) hj2 C h_r6 gX4_turn_X3_become hd3_become hK hN hD hA I ⟨Nat.le_of_ble_eq_true rfl, Nat.le_of_ble_eq_true rfl⟩ rfl hl.1 rfl (Nat.le_of_ble_eq_true rfl) ⟨Nat.le_of_ble_eq_true rfl, Nat.le_of_ble_eq_true rfl⟩ dX4_turn_38 (fun H locs I => ?_)
        refine lv_aload_n hx hb dX4_turn_41 rfl (lv_at hl 0 rfl) ?_
        obtain ⟨r7, h_r7, hrun⟩ := p_bnd hrun
        refine jVS_i (rest := []) C (c3_period (WX_word hj2) h_r7) gX4_turn_X3_period hd3_period hK hN I.1 ⟨_, 3, _, _, (WX_word hj2), rfl, rfl⟩ rfl ⟨rfl, rfl⟩ ⟨Nat.le_of_ble_eq_true rfl, Nat.le_of_ble_eq_true rfl⟩ rfl hl.1 rfl (Nat.le_of_ble_eq_true rfl) ⟨Nat.le_of_ble_eq_true rfl, Nat.le_of_ble_eq_true rfl⟩ dX4_turn_42 ?_
        cases hrun
        exact rE_i C hr hlk hQ I (nbi _) rfl dX4_turn_45
      · have hrun := p_neg hrun c4
        refine lv_ldc (v := (-2000000102)) hx hb C.2.2.2.1 (C.2.2.2.2 _ k4_turn_36) dX4_turn_25 ?_
        cases hrun
        exact rE_i C hr hlk hQ I (nbi _) rfl dX4_turn_27

end X93
