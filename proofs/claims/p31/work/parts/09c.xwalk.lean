section X92
variable {l : Launch} {D : va_G} {sz : Nat}
variable {ad fa ca wad : Nat → Nat} {cI cR cG : ClassId}
variable {v_roadCount v_readings v_psize v_good v_pbits v_letters v_afterLetter v_disc v_rsize v_cycleCount v_closed v_traces v_crossings v_db_bits v_db_size v_db_allBits v_db_a v_db_b v_db_c v_db_d v_dn_bits v_dn_size v_dn_allBits v_dn_a v_dn_b v_dn_c v_dn_d : Int32}
variable {v_s : Int64}
variable {v_codes : Nat → Int32}
variable {v_fo v_cy v_wv : Nat → Nat → Int32}
variable {v_wn : Nat}
abbrev rm1_append : Room := { frames := 1, cells := 0, slots := 0, locals := 26 }
theorem fl1_append_9 : Cond.fieldLink RX1 9 "RiverWords$Page" "codes" "[I" ∈ wsX1_append := by decide +kernel
theorem fl1_append_15 : Cond.fieldLink RX1 15 "RiverWords$Page" "size" "I" ∈ wsX1_append := by decide +kernel
theorem fl1_append_19 : Cond.fieldLink RX1 19 "RiverWords$Page" "good" "I" ∈ wsX1_append := by decide +kernel
theorem inm1_append_X1 : ∀ w ∈ wsX10, w ∈ wsX1_append := by decide +kernel
theorem hd1_append : okD yX1_append 1 := by decide +kernel
set_option maxHeartbeats 8000000 in
set_option maxRecDepth 100000 in
theorem c1_append {x1 : Int32} {res : Int32 × Int32 × Int32 × Int32 × Int32 × (Nat → Int32)} (hrun : P1_append v_psize v_good v_pbits v_letters v_afterLetter v_codes x1 = some res) : Met l yX1_append wsX1_append rm1_append (va_Pc [.ref (ad 1), .int x1] (PE D (tyX cI cR cG) sz (WX0 ad fa ca wad cI cR cG v_wn) (WX ad fa ca wad cI cR cG v_roadCount v_readings v_psize v_good v_pbits v_letters v_afterLetter v_codes v_disc v_rsize v_cycleCount v_fo v_cy v_s v_closed v_traces v_crossings v_db_bits v_db_size v_db_allBits v_db_a v_db_b v_db_c v_db_d v_dn_bits v_dn_size v_dn_allBits v_dn_a v_dn_b v_dn_c v_dn_d v_wn v_wv))) (va_Qv (fun _ : Unit => True) (fun _ t => va_P D vwCl (WX ad fa ca wad cI cR cG v_roadCount v_readings res.1 res.2.1 res.2.2.1 res.2.2.2.1 res.2.2.2.2.1 res.2.2.2.2.2 v_disc v_rsize v_cycleCount v_fo v_cy v_s v_closed v_traces v_crossings v_db_bits v_db_size v_db_allBits v_db_a v_db_b v_db_c v_db_d v_dn_bits v_dn_size v_dn_allBits v_dn_a v_dn_b v_dn_c v_dn_d v_wn v_wv) t.heap) (va_A (WX0 ad fa ca wad cI cR cG v_wn) sz)) 0 0 (va_A (WX0 ad fa ca wad cI cR cG v_wn) sz) := by
  refine E_in (cc := cX1_append) (maxL := 2) (ret := none) (by decide) rfl (Nat.le_of_ble_eq_true rfl) ?_
  intro p e s m args below meth c ls Q hQ C hr hlk hK hN hD hA I hl
  have C : CallFix p m c cX1_append 2 s args wsX1_append RX1 := C
  have hx := C.1
  have hb := C.2.1
  have hl : lv_has ls 2 [(0, .ref (ad 1)), (1, .int x1)] := hl
  unfold P1_append at hrun
  refine lv_aload_n hx hb dX1_append_0 rfl (lv_at hl 0 rfl) ?_
  refine gX_P_size C inm1_append_X1 hK I.1 fl1_append_15 dX1_append_1 ?_
  refine lv_if_lt (tgt := 19) hx hb dX1_append_4 rfl (fun c1 => ?_) (fun c1 => ?_)
  · have hrun := p_pos hrun c1
    cases hrun
    exact rE_v C hr hlk hQ I dX1_append_19
  · have hrun := p_neg hrun c1
    refine lv_aload_n hx hb dX1_append_7 rfl (lv_at hl 0 rfl) ?_
    refine gX_P_size C inm1_append_X1 hK I.1 fl1_append_15 dX1_append_8 ?_
    refine lv_aload_n hx hb dX1_append_11 rfl (lv_at hl 0 rfl) ?_
    refine gX_P_codes C inm1_append_X1 hK I.1 fl1_append_9 dX1_append_12 ?_
    refine alX_codes C hK I.1 dX1_append_15 ?_
    refine lv_icmp_lt (tgt := 20) hx hb dX1_append_16 rfl (fun c2 => ?_) (fun c2 => ?_)
    · have hrun := p_pos hrun c2
      refine lv_aload_n hx hb dX1_append_20 rfl (lv_at hl 0 rfl) ?_
      refine gX_P_good C inm1_append_X1 hK I.1 fl1_append_19 dX1_append_21 ?_
      refine lv_aload_n hx hb dX1_append_24 rfl (lv_at hl 0 rfl) ?_
      refine gX_P_size C inm1_append_X1 hK I.1 fl1_append_15 dX1_append_25 ?_
      refine lv_icmp_ne (tgt := 49) hx hb dX1_append_28 rfl (fun c3 => ?_) (fun c3 => ?_)
      · have hrun := p_neg hrun c3
        refine lv_aload_n hx hb dX1_append_49 rfl (lv_at hl 0 rfl) ?_
        refine gX_P_codes C inm1_append_X1 hK I.1 fl1_append_9 dX1_append_50 ?_
        refine lv_aload_n hx hb dX1_append_53 rfl (lv_at hl 0 rfl) ?_
        refine gX_P_size C inm1_append_X1 hK I.1 fl1_append_15 dX1_append_54 ?_
        refine lv_iload_n hx hb dX1_append_57 rfl (lv_at hl 1 rfl) ?_
        obtain ⟨b4, hrun⟩ := p_chk hrun
        refine stX_codes C hK hD I b4 dX1_append_58 (fun H locs I => ?_)
        refine lv_aload_n hx hb dX1_append_59 rfl (lv_at hl 0 rfl) ?_
        refine lv_dup hx hb dX1_append_60 rfl ?_
        refine gX_P_size C inm1_append_X1 hK I.1 fl1_append_15 dX1_append_61 ?_
        refine lv_iconst (v := 1) hx hb dX1_append_64 rfl ?_
        refine lv_iadd hx hb dX1_append_65 ?_
        refine pX_P_size C inm1_append_X1 hK hD I fl1_append_15 dX1_append_66 (fun H locs I => ?_)
        cases hrun
        exact rE_v C hr hlk hQ I dX1_append_69
      · have hrun := p_pos hrun c3
        refine lv_aload_n hx hb dX1_append_31 rfl (lv_at hl 0 rfl) ?_
        refine lv_iload_n hx hb dX1_append_32 rfl (lv_at hl 1 rfl) ?_
        obtain ⟨r5, h_r5, hrun⟩ := p_bnd hrun
        refine jVE_i (rest := []) C (c1_continues h_r5) gX1_append_X1_continues hd1_continues hK hN hD hA I rcP rfl ⟨rfl, rfl⟩ ⟨Nat.le_of_ble_eq_true rfl, Nat.le_of_ble_eq_true rfl⟩ rfl hl.1 rfl (Nat.le_of_ble_eq_true rfl) ⟨Nat.le_of_ble_eq_true rfl, Nat.le_of_ble_eq_true rfl⟩ dX1_append_33 (fun H locs I => ?_)
        refine lv_if_eq (tgt := 49) hx hb dX1_append_36 rfl (fun c6 => ?_) (fun c6 => ?_)
        · have hrun := p_pos hrun c6
          refine lv_aload_n hx hb dX1_append_49 rfl (lv_at hl 0 rfl) ?_
          refine gX_P_codes C inm1_append_X1 hK I.1 fl1_append_9 dX1_append_50 ?_
          refine lv_aload_n hx hb dX1_append_53 rfl (lv_at hl 0 rfl) ?_
          refine gX_P_size C inm1_append_X1 hK I.1 fl1_append_15 dX1_append_54 ?_
          refine lv_iload_n hx hb dX1_append_57 rfl (lv_at hl 1 rfl) ?_
          obtain ⟨b7, hrun⟩ := p_chk hrun
          refine stX_codes C hK hD I b7 dX1_append_58 (fun H locs I => ?_)
          refine lv_aload_n hx hb dX1_append_59 rfl (lv_at hl 0 rfl) ?_
          refine lv_dup hx hb dX1_append_60 rfl ?_
          refine gX_P_size C inm1_append_X1 hK I.1 fl1_append_15 dX1_append_61 ?_
          refine lv_iconst (v := 1) hx hb dX1_append_64 rfl ?_
          refine lv_iadd hx hb dX1_append_65 ?_
          refine pX_P_size C inm1_append_X1 hK hD I fl1_append_15 dX1_append_66 (fun H locs I => ?_)
          cases hrun
          exact rE_v C hr hlk hQ I dX1_append_69
        · have hrun := p_neg hrun c6
          refine lv_aload_n hx hb dX1_append_39 rfl (lv_at hl 0 rfl) ?_
          refine lv_dup hx hb dX1_append_40 rfl ?_
          refine gX_P_good C inm1_append_X1 hK I.1 fl1_append_19 dX1_append_41 ?_
          refine lv_iconst (v := 1) hx hb dX1_append_44 rfl ?_
          refine lv_iadd hx hb dX1_append_45 ?_
          refine pX_P_good C inm1_append_X1 hK hD I fl1_append_19 dX1_append_46 (fun H locs I => ?_)
          refine lv_aload_n hx hb dX1_append_49 rfl (lv_at hl 0 rfl) ?_
          refine gX_P_codes C inm1_append_X1 hK I.1 fl1_append_9 dX1_append_50 ?_
          refine lv_aload_n hx hb dX1_append_53 rfl (lv_at hl 0 rfl) ?_
          refine gX_P_size C inm1_append_X1 hK I.1 fl1_append_15 dX1_append_54 ?_
          refine lv_iload_n hx hb dX1_append_57 rfl (lv_at hl 1 rfl) ?_
          obtain ⟨b8, hrun⟩ := p_chk hrun
          refine stX_codes C hK hD I b8 dX1_append_58 (fun H locs I => ?_)
          refine lv_aload_n hx hb dX1_append_59 rfl (lv_at hl 0 rfl) ?_
          refine lv_dup hx hb dX1_append_60 rfl ?_
          refine gX_P_size C inm1_append_X1 hK I.1 fl1_append_15 dX1_append_61 ?_
          refine lv_iconst (v := 1) hx hb dX1_append_64 rfl ?_
          refine lv_iadd hx hb dX1_append_65 ?_
          refine pX_P_size C inm1_append_X1 hK hD I fl1_append_15 dX1_append_66 (fun H locs I => ?_)
          cases hrun
          exact rE_v C hr hlk hQ I dX1_append_69
    · have hrun := p_neg hrun c2
      cases hrun
      exact rE_v C hr hlk hQ I dX1_append_19

abbrev rm1_isWord : Room := { frames := 0, cells := 0, slots := 0, locals := 0 }
theorem fl1_isWord_15 : Cond.fieldLink RX1 15 "RiverWords$Page" "size" "I" ∈ wsX1_isWord := by decide +kernel
theorem fl1_isWord_19 : Cond.fieldLink RX1 19 "RiverWords$Page" "good" "I" ∈ wsX1_isWord := by decide +kernel
theorem inm1_isWord_X1 : ∀ w ∈ wsX10, w ∈ wsX1_isWord := by decide +kernel
theorem hd1_isWord : okD yX1_isWord 0 := by decide +kernel
set_option maxHeartbeats 8000000 in
set_option maxRecDepth 100000 in
theorem c1_isWord {res : Int32} (hrun : P1_isWord v_psize v_good = some res) : Met l yX1_isWord wsX1_isWord rm1_isWord (va_Pc [.ref (ad 1)] (PS D (tyX cI cR cG) (WX ad fa ca wad cI cR cG v_roadCount v_readings v_psize v_good v_pbits v_letters v_afterLetter v_codes v_disc v_rsize v_cycleCount v_fo v_cy v_s v_closed v_traces v_crossings v_db_bits v_db_size v_db_allBits v_db_a v_db_b v_db_c v_db_d v_dn_bits v_dn_size v_dn_allBits v_dn_a v_dn_b v_dn_c v_dn_d v_wn v_wv))) (vp_Si (fun x => x = res)) 0 0 (fun _ => False) := by
  refine S_in (cc := cX1_isWord) (maxL := 1) (ret := (some .boolean)) (by decide) rfl (Nat.le_of_ble_eq_true rfl) ?_
  intro p e s m args below meth c ls Q hQ C hr hlk hK hN hP hl
  have C : CallFix p m c cX1_isWord 1 s args wsX1_isWord RX1 := C
  have hx := C.1
  have hb := C.2.1
  have hl : lv_has ls 1 [(0, .ref (ad 1))] := hl
  unfold P1_isWord at hrun
  refine lv_aload_n hx hb dX1_isWord_0 rfl (lv_at hl 0 rfl) ?_
  refine gX_P_size C inm1_isWord_X1 hK hP fl1_isWord_15 dX1_isWord_1 ?_
  refine lv_if_le (tgt := 22) hx hb dX1_isWord_4 rfl (fun c1 => ?_) (fun c1 => ?_)
  · have hrun := p_pos hrun c1
    refine lv_iconst (v := 0) hx hb dX1_isWord_22 rfl ?_
    cases hrun
    exact rS_i C hr hlk hQ (nb01 (Or.inl rfl)) rfl dX1_isWord_23
  · have hrun := p_neg hrun c1
    refine lv_aload_n hx hb dX1_isWord_7 rfl (lv_at hl 0 rfl) ?_
    refine gX_P_good C inm1_isWord_X1 hK hP fl1_isWord_19 dX1_isWord_8 ?_
    refine lv_aload_n hx hb dX1_isWord_11 rfl (lv_at hl 0 rfl) ?_
    refine gX_P_size C inm1_isWord_X1 hK hP fl1_isWord_15 dX1_isWord_12 ?_
    refine lv_icmp_ne (tgt := 22) hx hb dX1_isWord_15 rfl (fun c2 => ?_) (fun c2 => ?_)
    · have hrun := p_neg hrun c2
      refine lv_iconst (v := 0) hx hb dX1_isWord_22 rfl ?_
      cases hrun
      exact rS_i C hr hlk hQ (nb01 (Or.inl rfl)) rfl dX1_isWord_23
    · have hrun := p_pos hrun c2
      refine lv_iconst (v := 1) hx hb dX1_isWord_18 rfl ?_
      refine lv_goto (tgt := 23) hx hb dX1_isWord_19 rfl ?_
      cases hrun
      exact rS_i C hr hlk hQ (nb01 (Or.inr rfl)) rfl dX1_isWord_23

abbrev rm4_letter : Room := { frames := 2, cells := 0, slots := 0, locals := 47 }
theorem fl4_letter_10 : Cond.fieldLink RX4 10 "RiverWords" "page" "LRiverWords$Page;" ∈ wsX4_letter := by decide +kernel
theorem fl4_letter_37 : Cond.fieldLink RX4 37 "RiverWords$Page" "size" "I" ∈ wsX4_letter := by decide +kernel
theorem k4_letter_36 : Cond.constant RX4 36 (-2000000102) ∈ wsX4_letter := by decide +kernel
theorem k4_letter_41 : Cond.constant RX4 41 (-2000000104) ∈ wsX4_letter := by decide +kernel
theorem inm4_letter_X1 : ∀ w ∈ wsX10, w ∈ wsX4_letter := by decide +kernel
theorem inm4_letter_X4 : ∀ w ∈ wsX40, w ∈ wsX4_letter := by decide +kernel
theorem hd4_letter : okD yX4_letter 1 := by decide +kernel
set_option maxHeartbeats 8000000 in
set_option maxRecDepth 100000 in
theorem c4_letter {x1 : Int32} {res : Int32 × Int32 × Int32 × Int32 × Int32 × Int32 × (Nat → Int32)} (hrun : P4_letter v_psize v_good v_pbits v_letters v_afterLetter v_codes x1 = some res) : Met l yX4_letter wsX4_letter rm4_letter (va_Pc [.ref (ad 0), .int x1] (PE D (tyX cI cR cG) sz (WX0 ad fa ca wad cI cR cG v_wn) (WX ad fa ca wad cI cR cG v_roadCount v_readings v_psize v_good v_pbits v_letters v_afterLetter v_codes v_disc v_rsize v_cycleCount v_fo v_cy v_s v_closed v_traces v_crossings v_db_bits v_db_size v_db_allBits v_db_a v_db_b v_db_c v_db_d v_dn_bits v_dn_size v_dn_allBits v_dn_a v_dn_b v_dn_c v_dn_d v_wn v_wv))) (va_Qi (fun (x : Int32) (_ : Unit) => x = res.1) (fun _ t => va_P D vwCl (WX ad fa ca wad cI cR cG v_roadCount v_readings res.2.1 res.2.2.1 res.2.2.2.1 res.2.2.2.2.1 res.2.2.2.2.2.1 res.2.2.2.2.2.2 v_disc v_rsize v_cycleCount v_fo v_cy v_s v_closed v_traces v_crossings v_db_bits v_db_size v_db_allBits v_db_a v_db_b v_db_c v_db_d v_dn_bits v_dn_size v_dn_allBits v_dn_a v_dn_b v_dn_c v_dn_d v_wn v_wv) t.heap) (va_A (WX0 ad fa ca wad cI cR cG v_wn) sz)) 0 0 (va_A (WX0 ad fa ca wad cI cR cG v_wn) sz) := by
  refine E_in (cc := cX4_letter) (maxL := 2) (ret := (some .int)) (by decide) rfl (Nat.le_of_ble_eq_true rfl) ?_
  intro p e s m args below meth c ls Q hQ C hr hlk hK hN hD hA I hl
  have C : CallFix p m c cX4_letter 2 s args wsX4_letter RX4 := C
  have hx := C.1
  have hb := C.2.1
  have hl : lv_has ls 2 [(0, .ref (ad 0)), (1, .int x1)] := hl
  unfold P4_letter at hrun
  refine lv_iload_n hx hb dX4_letter_0 rfl (lv_at hl 1 rfl) ?_
  refine lv_bipush (v := 32) hx hb dX4_letter_1 rfl ?_
  refine lv_icmp_lt (tgt := 12) hx hb dX4_letter_3 rfl (fun c1 => ?_) (fun c1 => ?_)
  · have hrun := p_pos hrun c1
    refine lv_ldc (v := (-2000000102)) hx hb C.2.2.2.1 (C.2.2.2.2 _ k4_letter_36) dX4_letter_12 ?_
    cases hrun
    exact rE_i C hr hlk hQ I (nbi _) rfl dX4_letter_14
  · have hrun := p_neg hrun c1
    refine lv_iload_n hx hb dX4_letter_6 rfl (lv_at hl 1 rfl) ?_
    refine lv_bipush (v := 126) hx hb dX4_letter_7 rfl ?_
    refine lv_icmp_le (tgt := 15) hx hb dX4_letter_9 rfl (fun c2 => ?_) (fun c2 => ?_)
    · have hrun := p_pos hrun c2
      refine lv_aload_n hx hb dX4_letter_15 rfl (lv_at hl 0 rfl) ?_
      refine gX_X_page C inm4_letter_X4 hK I.1 fl4_letter_10 dX4_letter_16 ?_
      refine gX_P_size C inm4_letter_X1 hK I.1 fl4_letter_37 dX4_letter_19 ?_
      refine lv_bipush (v := 20) hx hb dX4_letter_22 rfl ?_
      refine lv_icmp_lt (tgt := 30) hx hb dX4_letter_24 rfl (fun c3 => ?_) (fun c3 => ?_)
      · have hrun := p_pos hrun c3
        refine lv_aload_n hx hb dX4_letter_30 rfl (lv_at hl 0 rfl) ?_
        refine gX_X_page C inm4_letter_X4 hK I.1 fl4_letter_10 dX4_letter_31 ?_
        refine lv_iload_n hx hb dX4_letter_34 rfl (lv_at hl 1 rfl) ?_
        obtain ⟨r4, h_r4, hrun⟩ := p_bnd hrun
        refine jVE_v (rest := []) C (c1_append h_r4) gX4_letter_X1_append hd1_append hK hN hD hA I rcP rfl ⟨rfl, rfl⟩ ⟨Nat.le_of_ble_eq_true rfl, Nat.le_of_ble_eq_true rfl⟩ rfl hl.1 rfl (Nat.le_of_ble_eq_true rfl) ⟨Nat.le_of_ble_eq_true rfl, Nat.le_of_ble_eq_true rfl⟩ dX4_letter_35 (fun H locs I => ?_)
        refine lv_aload_n hx hb dX4_letter_38 rfl (lv_at hl 0 rfl) ?_
        refine gX_X_page C inm4_letter_X4 hK I.1 fl4_letter_10 dX4_letter_39 ?_
        refine gX_P_size C inm4_letter_X1 hK I.1 fl4_letter_37 dX4_letter_42 ?_
        cases hrun
        exact rE_i C hr hlk hQ I (nbi _) rfl dX4_letter_45
      · have hrun := p_neg hrun c3
        refine lv_ldc (v := (-2000000104)) hx hb C.2.2.2.1 (C.2.2.2.2 _ k4_letter_41) dX4_letter_27 ?_
        cases hrun
        exact rE_i C hr hlk hQ I (nbi _) rfl dX4_letter_29
    · have hrun := p_neg hrun c2
      refine lv_ldc (v := (-2000000102)) hx hb C.2.2.2.1 (C.2.2.2.2 _ k4_letter_36) dX4_letter_12 ?_
      cases hrun
      exact rE_i C hr hlk hQ I (nbi _) rfl dX4_letter_14

abbrev rm4_blank : Room := { frames := 1, cells := 0, slots := 0, locals := 20 }
theorem fl4_blank_10 : Cond.fieldLink RX4 10 "RiverWords" "page" "LRiverWords$Page;" ∈ wsX4_blank := by decide +kernel
theorem fl4_blank_37 : Cond.fieldLink RX4 37 "RiverWords$Page" "size" "I" ∈ wsX4_blank := by decide +kernel
theorem inm4_blank_X1 : ∀ w ∈ wsX10, w ∈ wsX4_blank := by decide +kernel
theorem inm4_blank_X4 : ∀ w ∈ wsX40, w ∈ wsX4_blank := by decide +kernel
theorem hd4_blank : okD yX4_blank 0 := by decide +kernel
set_option maxHeartbeats 8000000 in
set_option maxRecDepth 100000 in
theorem c4_blank {res : Int32 × Int32 × Int32 × Int32 × Int32 × Int32} (hrun : P4_blank v_psize = some res) : Met l yX4_blank wsX4_blank rm4_blank (va_Pc [.ref (ad 0)] (PE D (tyX cI cR cG) sz (WX0 ad fa ca wad cI cR cG v_wn) (WX ad fa ca wad cI cR cG v_roadCount v_readings v_psize v_good v_pbits v_letters v_afterLetter v_codes v_disc v_rsize v_cycleCount v_fo v_cy v_s v_closed v_traces v_crossings v_db_bits v_db_size v_db_allBits v_db_a v_db_b v_db_c v_db_d v_dn_bits v_dn_size v_dn_allBits v_dn_a v_dn_b v_dn_c v_dn_d v_wn v_wv))) (va_Qi (fun (x : Int32) (_ : Unit) => x = res.1) (fun _ t => va_P D vwCl (WX ad fa ca wad cI cR cG v_roadCount v_readings res.2.1 res.2.2.1 res.2.2.2.1 res.2.2.2.2.1 res.2.2.2.2.2 v_codes v_disc v_rsize v_cycleCount v_fo v_cy v_s v_closed v_traces v_crossings v_db_bits v_db_size v_db_allBits v_db_a v_db_b v_db_c v_db_d v_dn_bits v_dn_size v_dn_allBits v_dn_a v_dn_b v_dn_c v_dn_d v_wn v_wv) t.heap) (va_A (WX0 ad fa ca wad cI cR cG v_wn) sz)) 0 0 (va_A (WX0 ad fa ca wad cI cR cG v_wn) sz) := by
  refine E_in (cc := cX4_blank) (maxL := 2) (ret := (some .int)) (by decide) rfl (Nat.le_of_ble_eq_true rfl) ?_
  intro p e s m args below meth c ls Q hQ C hr hlk hK hN hD hA I hl
  have C : CallFix p m c cX4_blank 2 s args wsX4_blank RX4 := C
  have hx := C.1
  have hb := C.2.1
  have hl : lv_has ls 2 [(0, .ref (ad 0))] := hl
  unfold P4_blank at hrun
  refine lv_aload_n hx hb dX4_blank_0 rfl (lv_at hl 0 rfl) ?_
  refine gX_X_page C inm4_blank_X4 hK I.1 fl4_blank_10 dX4_blank_1 ?_
  refine gX_P_size C inm4_blank_X1 hK I.1 fl4_blank_37 dX4_blank_4 ?_
  refine lv_istore_n (lv' := [(1, .int v_psize), (0, .ref (ad 0))]) hx hb dX4_blank_7 rfl hl (by decide) rfl (fun ls hl => ?_)
  refine lv_aload_n hx hb dX4_blank_8 rfl (lv_at hl 1 rfl) ?_
  refine gX_X_page C inm4_blank_X4 hK I.1 fl4_blank_10 dX4_blank_9 ?_
  obtain ⟨r1, h_r1, hrun⟩ := p_bnd hrun
  refine jVE_v (rest := []) C (c1_clear h_r1) gX4_blank_X1_clear hd1_clear hK hN hD hA I rcP rfl ⟨rfl, rfl⟩ ⟨Nat.le_of_ble_eq_true rfl, Nat.le_of_ble_eq_true rfl⟩ rfl hl.1 rfl (Nat.le_of_ble_eq_true rfl) ⟨Nat.le_of_ble_eq_true rfl, Nat.le_of_ble_eq_true rfl⟩ dX4_blank_12 (fun H locs I => ?_)
  refine lv_iload_n hx hb dX4_blank_15 rfl (lv_at hl 0 rfl) ?_
  cases hrun
  exact rE_i C hr hlk hQ I (nbi _) rfl dX4_blank_16

abbrev rm4_fault : Room := { frames := 0, cells := 0, slots := 0, locals := 0 }
theorem fl4_fault_10 : Cond.fieldLink RX4 10 "RiverWords" "page" "LRiverWords$Page;" ∈ wsX4_fault := by decide +kernel
theorem fl4_fault_49 : Cond.fieldLink RX4 49 "RiverWords$Page" "good" "I" ∈ wsX4_fault := by decide +kernel
theorem inm4_fault_X1 : ∀ w ∈ wsX10, w ∈ wsX4_fault := by decide +kernel
theorem inm4_fault_X4 : ∀ w ∈ wsX40, w ∈ wsX4_fault := by decide +kernel
theorem hd4_fault : okD yX4_fault 0 := by decide +kernel
set_option maxHeartbeats 8000000 in
set_option maxRecDepth 100000 in
theorem c4_fault {res : Int32} (hrun : P4_fault v_good = some res) : Met l yX4_fault wsX4_fault rm4_fault (va_Pc [.ref (ad 0)] (PS D (tyX cI cR cG) (WX ad fa ca wad cI cR cG v_roadCount v_readings v_psize v_good v_pbits v_letters v_afterLetter v_codes v_disc v_rsize v_cycleCount v_fo v_cy v_s v_closed v_traces v_crossings v_db_bits v_db_size v_db_allBits v_db_a v_db_b v_db_c v_db_d v_dn_bits v_dn_size v_dn_allBits v_dn_a v_dn_b v_dn_c v_dn_d v_wn v_wv))) (vp_Si (fun x => x = res)) 0 0 (fun _ => False) := by
  refine S_in (cc := cX4_fault) (maxL := 1) (ret := (some .int)) (by decide) rfl (Nat.le_of_ble_eq_true rfl) ?_
  intro p e s m args below meth c ls Q hQ C hr hlk hK hN hP hl
  have C : CallFix p m c cX4_fault 1 s args wsX4_fault RX4 := C
  have hx := C.1
  have hb := C.2.1
  have hl : lv_has ls 1 [(0, .ref (ad 0))] := hl
  unfold P4_fault at hrun
  refine lv_aload_n hx hb dX4_fault_0 rfl (lv_at hl 0 rfl) ?_
  refine gX_X_page C inm4_fault_X4 hK hP fl4_fault_10 dX4_fault_1 ?_
  refine gX_P_good C inm4_fault_X1 hK hP fl4_fault_49 dX4_fault_4 ?_
  cases hrun
  exact rS_i C hr hlk hQ (nbi _) rfl dX4_fault_7

abbrev rm4_word : Room := { frames := 4, cells := 1, slots := 7, locals := 89 }
theorem fl4_word_10 : Cond.fieldLink RX4 10 "RiverWords" "page" "LRiverWords$Page;" ∈ wsX4_word := by decide +kernel
theorem fl4_word_57 : Cond.fieldLink RX4 57 "RiverWords$Page" "bits" "I" ∈ wsX4_word := by decide +kernel
theorem fl4_word_60 : Cond.fieldLink RX4 60 "RiverWords$Page" "letters" "I" ∈ wsX4_word := by decide +kernel
theorem fl4_word_67 : Cond.fieldLink RX4 67 "RiverWords" "readings" "I" ∈ wsX4_word := by decide +kernel
theorem k4_word_56 : Cond.constant RX4 56 (-2000000103) ∈ wsX4_word := by decide +kernel
theorem inm4_word_X1 : ∀ w ∈ wsX10, w ∈ wsX4_word := by decide +kernel
theorem inm4_word_X4 : ∀ w ∈ wsX40, w ∈ wsX4_word := by decide +kernel
theorem hd4_word : okD yX4_word 0 := by decide +kernel
set_option maxHeartbeats 8000000 in
set_option maxRecDepth 100000 in
theorem c4_word {res : Int32 × Int32 × Int32 × Int32 × Int32 × Int32 × Int32 × Int32 × Nat × (Nat → Nat → Int32)} (hrun : P4_word v_roadCount v_readings v_psize v_good v_pbits v_letters v_afterLetter v_wn v_wv = some res) : Met l yX4_word wsX4_word rm4_word (va_Pc [.ref (ad 0)] (PE D (tyX cI cR cG) sz (WX0 ad fa ca wad cI cR cG v_wn) (WX ad fa ca wad cI cR cG v_roadCount v_readings v_psize v_good v_pbits v_letters v_afterLetter v_codes v_disc v_rsize v_cycleCount v_fo v_cy v_s v_closed v_traces v_crossings v_db_bits v_db_size v_db_allBits v_db_a v_db_b v_db_c v_db_d v_dn_bits v_dn_size v_dn_allBits v_dn_a v_dn_b v_dn_c v_dn_d v_wn v_wv))) (va_Qi (fun (x : Int32) (_ : Nat → Nat) => x = res.1) (fun u t => va_P D vwCl (WX ad fa ca u cI cR cG res.2.1 res.2.2.1 res.2.2.2.1 res.2.2.2.2.1 res.2.2.2.2.2.1 res.2.2.2.2.2.2.1 res.2.2.2.2.2.2.2.1 v_codes v_disc v_rsize v_cycleCount v_fo v_cy v_s v_closed v_traces v_crossings v_db_bits v_db_size v_db_allBits v_db_a v_db_b v_db_c v_db_d v_dn_bits v_dn_size v_dn_allBits v_dn_a v_dn_b v_dn_c v_dn_d res.2.2.2.2.2.2.2.2.1 res.2.2.2.2.2.2.2.2.2) t.heap ∧ va_D (va_A (WX0 ad fa ca wad cI cR cG v_wn) sz) (WX0 ad fa ca u cI cR cG res.2.2.2.2.2.2.2.2.1)) (va_A (WX0 ad fa ca wad cI cR cG v_wn) sz)) 1 7 (va_A (WX0 ad fa ca wad cI cR cG v_wn) sz) := by
  refine E_in (cc := cX4_word) (maxL := 2) (ret := (some .int)) (by decide) rfl (Nat.le_of_ble_eq_true rfl) ?_
  intro p e s m args below meth c ls Q hQ C hr hlk hK hN hD hA I hl
  have C : CallFix p m c cX4_word 2 s args wsX4_word RX4 := C
  have hx := C.1
  have hb := C.2.1
  have hl : lv_has ls 2 [(0, .ref (ad 0))] := hl
  unfold P4_word at hrun
  refine lv_aload_n hx hb dX4_word_0 rfl (lv_at hl 0 rfl) ?_
  refine gX_X_page C inm4_word_X4 hK I.1 fl4_word_10 dX4_word_1 ?_
  obtain ⟨r1, h_r1, hrun⟩ := p_bnd hrun
  refine jVS_i (rest := []) C (c1_isWord h_r1) gX4_word_X1_isWord hd1_isWord hK hN I.1 rcP rfl ⟨rfl, rfl⟩ ⟨Nat.le_of_ble_eq_true rfl, Nat.le_of_ble_eq_true rfl⟩ rfl hl.1 rfl (Nat.le_of_ble_eq_true rfl) ⟨Nat.le_of_ble_eq_true rfl, Nat.le_of_ble_eq_true rfl⟩ dX4_word_4 ?_
  refine lv_if_ne (tgt := 13) hx hb dX4_word_7 rfl (fun c2 => ?_) (fun c2 => ?_)
  · have hrun := p_neg hrun c2
    refine lv_aload_n hx hb dX4_word_13 rfl (lv_at hl 0 rfl) ?_
    refine lv_aload_n hx hb dX4_word_14 rfl (lv_at hl 0 rfl) ?_
    refine gX_X_page C inm4_word_X4 hK I.1 fl4_word_10 dX4_word_15 ?_
    refine gX_P_bits C inm4_word_X1 hK I.1 fl4_word_57 dX4_word_18 ?_
    refine lv_aload_n hx hb dX4_word_21 rfl (lv_at hl 0 rfl) ?_
    refine gX_X_page C inm4_word_X4 hK I.1 fl4_word_10 dX4_word_22 ?_
    refine gX_P_letters C inm4_word_X1 hK I.1 fl4_word_60 dX4_word_25 ?_
    obtain ⟨r3, h_r3, hrun⟩ := p_bnd hrun
    refine jVG_i (rest := []) C (c4_addRoad h_r3) gX4_word_X4_addRoad hd4_addRoad hK hN hD hA I rcX rfl ⟨rfl, rfl⟩ ⟨Nat.le_of_ble_eq_true rfl, Nat.le_of_ble_eq_true rfl⟩ rfl hl.1 rfl (Nat.le_of_ble_eq_true rfl) ⟨Nat.le_of_ble_eq_true rfl, Nat.le_of_ble_eq_true rfl⟩ dX4_word_28 (fun wad H locs hD I => ?_)
    refine lv_istore_n (lv' := [(1, .int r3.1), (0, .ref (ad 0))]) hx hb dX4_word_31 rfl hl (by decide) rfl (fun ls hl => ?_)
    refine lv_iload_n hx hb dX4_word_32 rfl (lv_at hl 0 rfl) ?_
    refine lv_if_lt (tgt := 53) hx hb dX4_word_33 rfl (fun c4 => ?_) (fun c4 => ?_)
    · have hrun := p_pos hrun c4
      refine lv_iload_n hx hb dX4_word_53 rfl (lv_at hl 0 rfl) ?_
      cases hrun
      exact rG_i (u := wad) C hr hlk hQ I hD (nbi _) rfl dX4_word_54
    · have hrun := p_neg hrun c4
      refine lv_aload_n hx hb dX4_word_36 rfl (lv_at hl 1 rfl) ?_
      refine gX_X_page C inm4_word_X4 hK I.1 fl4_word_10 dX4_word_37 ?_
      obtain ⟨r5, h_r5, hrun⟩ := p_bnd hrun
      refine jVE_v (rest := []) C (c1_clear h_r5) gX4_word_X1_clear hd1_clear hK hN hD hA I rcP rfl ⟨rfl, rfl⟩ ⟨Nat.le_of_ble_eq_true rfl, Nat.le_of_ble_eq_true rfl⟩ rfl hl.1 rfl (Nat.le_of_ble_eq_true rfl) ⟨Nat.le_of_ble_eq_true rfl, Nat.le_of_ble_eq_true rfl⟩ dX4_word_40 (fun H locs I => ?_)
      refine lv_aload_n hx hb dX4_word_43 rfl (lv_at hl 1 rfl) ?_
      refine lv_dup hx hb dX4_word_44 rfl ?_
      refine gX_X_readings C inm4_word_X4 hK I.1 fl4_word_67 dX4_word_45 ?_
      refine lv_iconst (v := 1) hx hb dX4_word_48 rfl ?_
      refine lv_iadd hx hb dX4_word_49 ?_
      refine pX_X_readings C inm4_word_X4 hK hD I fl4_word_67 dX4_word_50 (fun H locs I => ?_)
      refine lv_iload_n hx hb dX4_word_53 rfl (lv_at hl 0 rfl) ?_
      cases hrun
      exact rG_i (u := wad) C hr hlk hQ I hD (nbi _) rfl dX4_word_54
  · have hrun := p_pos hrun c2
    refine lv_ldc (v := (-2000000103)) hx hb C.2.2.2.1 (C.2.2.2.2 _ k4_word_56) dX4_word_10 ?_
    cases hrun
    refine W.widen (k := 1) (n := 7) (Nat.zero_le _) (Nat.zero_le _) ?_
    exact rG_i (u := wad) C hr hlk hQ I hD (nbi _) rfl dX4_word_12

abbrev rm4_roadAt : Room := { frames := 0, cells := 0, slots := 0, locals := 0 }
theorem fl4_roadAt_18 : Cond.fieldLink RX4 18 "RiverWords" "roads" "[LRiverWords$Word;" ∈ wsX4_roadAt := by decide +kernel
theorem fl4_roadAt_148 : Cond.fieldLink RX4 148 "RiverWords" "roadCount" "I" ∈ wsX4_roadAt := by decide +kernel
theorem inm4_roadAt_X4 : ∀ w ∈ wsX40, w ∈ wsX4_roadAt := by decide +kernel
theorem hd4_roadAt : okD yX4_roadAt 1 := by decide +kernel
set_option maxHeartbeats 8000000 in
set_option maxRecDepth 100000 in
theorem c4_roadAt {x1 : Int32} {res : Option Nat} (hrun : P4_roadAt v_roadCount v_wn x1 = some res) : Met l yX4_roadAt wsX4_roadAt rm4_roadAt (va_Pc [.ref (ad 0), .int x1] (PS D (tyX cI cR cG) (WX ad fa ca wad cI cR cG v_roadCount v_readings v_psize v_good v_pbits v_letters v_afterLetter v_codes v_disc v_rsize v_cycleCount v_fo v_cy v_s v_closed v_traces v_crossings v_db_bits v_db_size v_db_allBits v_db_a v_db_b v_db_c v_db_d v_dn_bits v_dn_size v_dn_allBits v_dn_a v_dn_b v_dn_c v_dn_d v_wn v_wv))) (va_Sq (fun x => x = Option.map wad res)) 0 0 (fun _ => False) := by
  refine S_in (cc := cX4_roadAt) (maxL := 2) (ret := (some (.object "RiverWords$Word"))) (by decide) rfl (Nat.le_of_ble_eq_true rfl) ?_
  intro p e s m args below meth c ls Q hQ C hr hlk hK hN hP hl
  have C : CallFix p m c cX4_roadAt 2 s args wsX4_roadAt RX4 := C
  have hx := C.1
  have hb := C.2.1
  have hl : lv_has ls 2 [(0, .ref (ad 0)), (1, .int x1)] := hl
  unfold P4_roadAt at hrun
  refine lv_iload_n hx hb dX4_roadAt_0 rfl (lv_at hl 1 rfl) ?_
  refine lv_if_lt (tgt := 30) hx hb dX4_roadAt_1 rfl (fun c1 => ?_) (fun c1 => ?_)
  · have hrun := p_pos hrun c1
    refine lv_null hx hb dX4_roadAt_30 ?_
    cases hrun
    exact rS_q (v := none) C hr hlk hQ rfl dX4_roadAt_31
  · have hrun := p_neg hrun c1
    refine lv_iload_n hx hb dX4_roadAt_4 rfl (lv_at hl 1 rfl) ?_
    refine lv_aload_n hx hb dX4_roadAt_5 rfl (lv_at hl 0 rfl) ?_
    refine gX_X_roadCount C inm4_roadAt_X4 hK hP fl4_roadAt_148 dX4_roadAt_6 ?_
    refine lv_icmp_ge (tgt := 30) hx hb dX4_roadAt_9 rfl (fun c2 => ?_) (fun c2 => ?_)
    · have hrun := p_pos hrun c2
      refine lv_null hx hb dX4_roadAt_30 ?_
      cases hrun
      exact rS_q (v := none) C hr hlk hQ rfl dX4_roadAt_31
    · have hrun := p_neg hrun c2
      refine lv_iload_n hx hb dX4_roadAt_12 rfl (lv_at hl 1 rfl) ?_
      refine lv_aload_n hx hb dX4_roadAt_13 rfl (lv_at hl 0 rfl) ?_
      refine gX_X_roads C inm4_roadAt_X4 hK hP fl4_roadAt_18 dX4_roadAt_14 ?_
      refine alX_roads C hK hP dX4_roadAt_17 ?_
      refine lv_icmp_ge (tgt := 30) hx hb dX4_roadAt_18 rfl (fun c3 => ?_) (fun c3 => ?_)
      · have hrun := p_pos hrun c3
        refine lv_null hx hb dX4_roadAt_30 ?_
        cases hrun
        exact rS_q (v := none) C hr hlk hQ rfl dX4_roadAt_31
      · have hrun := p_neg hrun c3
        refine lv_aload_n hx hb dX4_roadAt_21 rfl (lv_at hl 0 rfl) ?_
        refine gX_X_roads C inm4_roadAt_X4 hK hP fl4_roadAt_18 dX4_roadAt_22 ?_
        refine lv_iload_n hx hb dX4_roadAt_25 rfl (lv_at hl 1 rfl) ?_
        obtain ⟨b4, hrun⟩ := p_chk hrun
        refine axX_roads C hK hP b4 dX4_roadAt_26 ?_
        refine lv_goto (tgt := 31) hx hb dX4_roadAt_27 rfl ?_
        cases hrun
        exact rS_q (v := (if Int32.toNatClampNeg x1 < v_wn then some (wad (Int32.toNatClampNeg x1)) else none)) C hr hlk hQ (j_mapif _ _) dX4_roadAt_31

abbrev rm4_road : Room := { frames := 3, cells := 0, slots := 0, locals := 65 }
theorem fl4_road_75 : Cond.fieldLink RX4 75 "RiverWords$Word" "size" "I" ∈ wsX4_road := by decide +kernel
theorem fl4_road_76 : Cond.fieldLink RX4 76 "RiverWords$Word" "bits" "I" ∈ wsX4_road := by decide +kernel
theorem k4_road_36 : Cond.constant RX4 36 (-2000000102) ∈ wsX4_road := by decide +kernel
theorem k4_road_74 : Cond.constant RX4 74 (-2000000101) ∈ wsX4_road := by decide +kernel
theorem inm4_road_X3 : ∀ w ∈ wsX30, w ∈ wsX4_road := by decide +kernel
theorem hd4_road : okD yX4_road 2 := by decide +kernel
set_option maxHeartbeats 8000000 in
set_option maxRecDepth 100000 in
theorem c4_road {x1 : Int32} {x2 : Int32} {res : Int32} (hrun : P4_road v_roadCount v_wn v_wv x1 x2 = some res) : Met l yX4_road wsX4_road rm4_road (va_Pc [.ref (ad 0), .int x1, .int x2] (PS D (tyX cI cR cG) (WX ad fa ca wad cI cR cG v_roadCount v_readings v_psize v_good v_pbits v_letters v_afterLetter v_codes v_disc v_rsize v_cycleCount v_fo v_cy v_s v_closed v_traces v_crossings v_db_bits v_db_size v_db_allBits v_db_a v_db_b v_db_c v_db_d v_dn_bits v_dn_size v_dn_allBits v_dn_a v_dn_b v_dn_c v_dn_d v_wn v_wv))) (vp_Si (fun x => x = res)) 0 0 (fun _ => False) := by
  refine S_in (cc := cX4_road) (maxL := 4) (ret := (some .int)) (by decide) rfl (Nat.le_of_ble_eq_true rfl) ?_
  intro p e s m args below meth c ls Q hQ C hr hlk hK hN hP hl
  have C : CallFix p m c cX4_road 4 s args wsX4_road RX4 := C
  have hx := C.1
  have hb := C.2.1
  have hl : lv_has ls 4 [(0, .ref (ad 0)), (1, .int x1), (2, .int x2)] := hl
  unfold P4_road at hrun
  refine lv_aload_n hx hb dX4_road_0 rfl (lv_at hl 0 rfl) ?_
  refine lv_iload_n hx hb dX4_road_1 rfl (lv_at hl 1 rfl) ?_
  obtain ⟨r1, h_r1, hrun⟩ := p_bnd hrun
  refine jVS_q (rest := []) C (c4_roadAt h_r1) gX4_road_X4_roadAt hd4_roadAt hK hN hP rcX rfl ⟨rfl, rfl⟩ ⟨Nat.le_of_ble_eq_true rfl, Nat.le_of_ble_eq_true rfl⟩ rfl hl.1 rfl (Nat.le_of_ble_eq_true rfl) ⟨Nat.le_of_ble_eq_true rfl, Nat.le_of_ble_eq_true rfl⟩ dX4_road_2 ?_
  rcases r1 with _ | j2
  · refine W.eq (g2 := F0 m 5 ls (.null :: [])) rfl ?_
    refine lv_astore_nN (lv' := [(3, .null), (0, .ref (ad 0)), (1, .int x1), (2, .int x2)]) hx hb dX4_road_5 rfl hl (by decide) rfl (fun ls hl => ?_)
    refine lv_aload_nN hx hb dX4_road_6 rfl (lv_at hl 0 rfl) ?_
    refine lv_ifnonnullN hx hb dX4_road_7 ?_
    refine lv_ldc (v := (-2000000101)) hx hb C.2.2.2.1 (C.2.2.2.2 _ k4_road_74) dX4_road_10 ?_
    cases hrun
    exact rS_i C hr hlk hQ (nbi _) rfl dX4_road_12
  · have hj2 := P4_roadAt_lt h_r1
    refine W.eq (g2 := F0 m 5 ls (.ref (wad j2) :: [])) rfl ?_
    refine lv_astore_n (lv' := [(3, .ref (wad j2)), (0, .ref (ad 0)), (1, .int x1), (2, .int x2)]) hx hb dX4_road_5 rfl hl (by decide) rfl (fun ls hl => ?_)
    refine lv_aload_n hx hb dX4_road_6 rfl (lv_at hl 0 rfl) ?_
    refine lv_ifnonnull (tgt := 13) hx hb dX4_road_7 rfl ?_
    refine lv_iload_n hx hb dX4_road_13 rfl (lv_at hl 3 rfl) ?_
    by_cases c3 : x2 = 0
    · have hrun := p_pos hrun c3
      refine j_tswIn  (tgt := 68) hx hb 0 c3 dX4_road_14 (by decide) (by decide) rfl rfl ?_
      refine lv_aload_n hx hb dX4_road_68 rfl (lv_at hl 0 rfl) ?_
      refine gX_w_size hj2 C inm4_road_X3 hK hP fl4_road_75 dX4_road_69 ?_
      cases hrun
      exact rS_i C hr hlk hQ (nbi _) rfl dX4_road_72
    · have hrun := p_neg hrun c3
      by_cases c4 : x2 = 1
      · have hrun := p_pos hrun c4
        refine j_tswIn  (tgt := 73) hx hb 1 c4 dX4_road_14 (by decide) (by decide) rfl rfl ?_
        refine lv_aload_n hx hb dX4_road_73 rfl (lv_at hl 0 rfl) ?_
        refine gX_w_size hj2 C inm4_road_X3 hK hP fl4_road_75 dX4_road_74 ?_
        refine lv_aload_n hx hb dX4_road_77 rfl (lv_at hl 0 rfl) ?_
        refine gX_w_bits hj2 C inm4_road_X3 hK hP fl4_road_76 dX4_road_78 ?_
        refine jSS_i (rest := [.int (v_wv j2 1)]) C c6_bitCount gX4_road_J6_bitCount_0f7a4 hd6_bitCount rfl ⟨rfl, rfl⟩ ⟨Nat.le_of_ble_eq_true rfl, Nat.le_of_ble_eq_true rfl⟩ rfl hl.1 rfl (Nat.le_of_ble_eq_true rfl) ⟨Nat.le_of_ble_eq_true rfl, Nat.le_of_ble_eq_true rfl⟩ dX4_road_81 ?_
        refine lv_isub hx hb dX4_road_84 ?_
        cases hrun
        exact rS_i C hr hlk hQ (nbi _) rfl dX4_road_85
      · have hrun := p_neg hrun c4
        by_cases c5 : x2 = 2
        · have hrun := p_pos hrun c5
          refine j_tswIn  (tgt := 86) hx hb 2 c5 dX4_road_14 (by decide) (by decide) rfl rfl ?_
          refine lv_aload_n hx hb dX4_road_86 rfl (lv_at hl 0 rfl) ?_
          refine gX_w_bits hj2 C inm4_road_X3 hK hP fl4_road_76 dX4_road_87 ?_
          refine jSS_i (rest := []) C c6_bitCount gX4_road_J6_bitCount_0f7a4 hd6_bitCount rfl ⟨rfl, rfl⟩ ⟨Nat.le_of_ble_eq_true rfl, Nat.le_of_ble_eq_true rfl⟩ rfl hl.1 rfl (Nat.le_of_ble_eq_true rfl) ⟨Nat.le_of_ble_eq_true rfl, Nat.le_of_ble_eq_true rfl⟩ dX4_road_90 ?_
          cases hrun
          exact rS_i C hr hlk hQ (nbi _) rfl dX4_road_93
        · have hrun := p_neg hrun c5
          by_cases c6 : x2 = 3
          · have hrun := p_pos hrun c6
            refine j_tswIn  (tgt := 94) hx hb 3 c6 dX4_road_14 (by decide) (by decide) rfl rfl ?_
            refine lv_aload_n hx hb dX4_road_94 rfl (lv_at hl 0 rfl) ?_
            obtain ⟨r7, h_r7, hrun⟩ := p_bnd hrun
            refine jVS_i (rest := []) C (c3_period (WX_word hj2) h_r7) gX4_road_X3_period hd3_period hK hN hP ⟨_, 3, _, _, (WX_word hj2), rfl, rfl⟩ rfl ⟨rfl, rfl⟩ ⟨Nat.le_of_ble_eq_true rfl, Nat.le_of_ble_eq_true rfl⟩ rfl hl.1 rfl (Nat.le_of_ble_eq_true rfl) ⟨Nat.le_of_ble_eq_true rfl, Nat.le_of_ble_eq_true rfl⟩ dX4_road_95 ?_
            cases hrun
            exact rS_i C hr hlk hQ (nbi _) rfl dX4_road_98
          · have hrun := p_neg hrun c6
            by_cases c8 : x2 = 4
            · have hrun := p_pos hrun c8
              refine j_tswIn  (tgt := 99) hx hb 4 c8 dX4_road_14 (by decide) (by decide) rfl rfl ?_
              refine lv_aload_n hx hb dX4_road_99 rfl (lv_at hl 0 rfl) ?_
              obtain ⟨r9, h_r9, hrun⟩ := p_bnd hrun
              refine jVS_i (rest := []) C (c3_leastTurn (WX_word hj2) h_r9) gX4_road_X3_leastTurn hd3_leastTurn hK hN hP ⟨_, 3, _, _, (WX_word hj2), rfl, rfl⟩ rfl ⟨rfl, rfl⟩ ⟨Nat.le_of_ble_eq_true rfl, Nat.le_of_ble_eq_true rfl⟩ rfl hl.1 rfl (Nat.le_of_ble_eq_true rfl) ⟨Nat.le_of_ble_eq_true rfl, Nat.le_of_ble_eq_true rfl⟩ dX4_road_100 ?_
              cases hrun
              exact rS_i C hr hlk hQ (nbi _) rfl dX4_road_103
            · have hrun := p_neg hrun c8
              by_cases c10 : x2 = 5
              · have hrun := p_pos hrun c10
                refine j_tswIn  (tgt := 104) hx hb 5 c10 dX4_road_14 (by decide) (by decide) rfl rfl ?_
                refine lv_aload_n hx hb dX4_road_104 rfl (lv_at hl 0 rfl) ?_
                obtain ⟨r11, h_r11, hrun⟩ := p_bnd hrun
                refine jVS_i (rest := []) C (c3_traceSum (WX_word hj2) h_r11) gX4_road_X3_traceSum hd3_traceSum hK hN hP ⟨_, 3, _, _, (WX_word hj2), rfl, rfl⟩ rfl ⟨rfl, rfl⟩ ⟨Nat.le_of_ble_eq_true rfl, Nat.le_of_ble_eq_true rfl⟩ rfl hl.1 rfl (Nat.le_of_ble_eq_true rfl) ⟨Nat.le_of_ble_eq_true rfl, Nat.le_of_ble_eq_true rfl⟩ dX4_road_105 ?_
                cases hrun
                exact rS_i C hr hlk hQ (nbi _) rfl dX4_road_108
              · have hrun := p_neg hrun c10
                by_cases c12 : x2 = 6
                · have hrun := p_pos hrun c12
                  refine j_tswIn  (tgt := 109) hx hb 6 c12 dX4_road_14 (by decide) (by decide) rfl rfl ?_
                  refine lv_aload_n hx hb dX4_road_109 rfl (lv_at hl 0 rfl) ?_
                  obtain ⟨r13, h_r13, hrun⟩ := p_bnd hrun
                  refine jVS_i (rest := []) C (c3_isClosed (WX_word hj2) h_r13) gX4_road_X3_isClosed hd3_isClosed hK hN hP ⟨_, 3, _, _, (WX_word hj2), rfl, rfl⟩ rfl ⟨rfl, rfl⟩ ⟨Nat.le_of_ble_eq_true rfl, Nat.le_of_ble_eq_true rfl⟩ rfl hl.1 rfl (Nat.le_of_ble_eq_true rfl) ⟨Nat.le_of_ble_eq_true rfl, Nat.le_of_ble_eq_true rfl⟩ dX4_road_110 ?_
                  refine lv_if_eq (tgt := 120) hx hb dX4_road_113 rfl (fun c14 => ?_) (fun c14 => ?_)
                  · have hrun := p_pos hrun c14
                    refine lv_iconst (v := 0) hx hb dX4_road_120 rfl ?_
                    cases hrun
                    exact rS_i C hr hlk hQ (nbi _) rfl dX4_road_121
                  · have hrun := p_neg hrun c14
                    refine lv_iconst (v := 1) hx hb dX4_road_116 rfl ?_
                    refine lv_goto (tgt := 121) hx hb dX4_road_117 rfl ?_
                    cases hrun
                    exact rS_i C hr hlk hQ (nbi _) rfl dX4_road_121
                · have hrun := p_neg hrun c12
                  by_cases c15 : x2 = 7
                  · have hrun := p_pos hrun c15
                    refine j_tswIn  (tgt := 122) hx hb 7 c15 dX4_road_14 (by decide) (by decide) rfl rfl ?_
                    refine lv_aload_n hx hb dX4_road_122 rfl (lv_at hl 0 rfl) ?_
                    refine lv_aload_n hx hb dX4_road_123 rfl (lv_at hl 0 rfl) ?_
                    obtain ⟨r16, h_r16, hrun⟩ := p_bnd hrun
                    refine jVS_i (rest := [.ref (wad j2)]) C (c3_reversal (WX_word hj2) h_r16) gX4_road_X3_reversal hd3_reversal hK hN hP ⟨_, 3, _, _, (WX_word hj2), rfl, rfl⟩ rfl ⟨rfl, rfl⟩ ⟨Nat.le_of_ble_eq_true rfl, Nat.le_of_ble_eq_true rfl⟩ rfl hl.1 rfl (Nat.le_of_ble_eq_true rfl) ⟨Nat.le_of_ble_eq_true rfl, Nat.le_of_ble_eq_true rfl⟩ dX4_road_124 ?_
                    obtain ⟨r17, h_r17, hrun⟩ := p_bnd hrun
                    refine jVS_i (rest := []) C (c3_isConjugate (WX_word hj2) h_r17) gX4_road_X3_isConjugate hd3_isConjugate hK hN hP ⟨_, 3, _, _, (WX_word hj2), rfl, rfl⟩ rfl ⟨rfl, rfl⟩ ⟨Nat.le_of_ble_eq_true rfl, Nat.le_of_ble_eq_true rfl⟩ rfl hl.1 rfl (Nat.le_of_ble_eq_true rfl) ⟨Nat.le_of_ble_eq_true rfl, Nat.le_of_ble_eq_true rfl⟩ dX4_road_127 ?_
                    refine lv_if_eq (tgt := 137) hx hb dX4_road_130 rfl (fun c18 => ?_) (fun c18 => ?_)
                    · have hrun := p_pos hrun c18
                      refine lv_iconst (v := 0) hx hb dX4_road_137 rfl ?_
                      cases hrun
                      exact rS_i C hr hlk hQ (nbi _) rfl dX4_road_138
                    · have hrun := p_neg hrun c18
                      refine lv_iconst (v := 1) hx hb dX4_road_133 rfl ?_
                      refine lv_goto (tgt := 138) hx hb dX4_road_134 rfl ?_
                      cases hrun
                      exact rS_i C hr hlk hQ (nbi _) rfl dX4_road_138
                  · have hrun := p_neg hrun c15
                    by_cases c19 : x2 = 8
                    · have hrun := p_pos hrun c19
                      refine j_tswIn  (tgt := 139) hx hb 8 c19 dX4_road_14 (by decide) (by decide) rfl rfl ?_
                      refine lv_aload_n hx hb dX4_road_139 rfl (lv_at hl 0 rfl) ?_
                      refine lv_aload_n hx hb dX4_road_140 rfl (lv_at hl 0 rfl) ?_
                      refine lv_aload_n hx hb dX4_road_141 rfl (lv_at hl 0 rfl) ?_
                      refine gX_w_bits hj2 C inm4_road_X3 hK hP fl4_road_76 dX4_road_142 ?_
                      obtain ⟨r20, h_r20, hrun⟩ := p_bnd hrun
                      refine jVS_i (rest := [.ref (wad j2)]) C (c3_complement (WX_word hj2) h_r20) gX4_road_X3_complement hd3_complement hK hN hP ⟨_, 3, _, _, (WX_word hj2), rfl, rfl⟩ rfl ⟨rfl, rfl⟩ ⟨Nat.le_of_ble_eq_true rfl, Nat.le_of_ble_eq_true rfl⟩ rfl hl.1 rfl (Nat.le_of_ble_eq_true rfl) ⟨Nat.le_of_ble_eq_true rfl, Nat.le_of_ble_eq_true rfl⟩ dX4_road_145 ?_
                      obtain ⟨r21, h_r21, hrun⟩ := p_bnd hrun
                      refine jVS_i (rest := []) C (c3_isConjugate (WX_word hj2) h_r21) gX4_road_X3_isConjugate hd3_isConjugate hK hN hP ⟨_, 3, _, _, (WX_word hj2), rfl, rfl⟩ rfl ⟨rfl, rfl⟩ ⟨Nat.le_of_ble_eq_true rfl, Nat.le_of_ble_eq_true rfl⟩ rfl hl.1 rfl (Nat.le_of_ble_eq_true rfl) ⟨Nat.le_of_ble_eq_true rfl, Nat.le_of_ble_eq_true rfl⟩ dX4_road_148 ?_
                      refine lv_if_eq (tgt := 158) hx hb dX4_road_151 rfl (fun c22 => ?_) (fun c22 => ?_)
                      · have hrun := p_pos hrun c22
                        refine lv_iconst (v := 0) hx hb dX4_road_158 rfl ?_
                        cases hrun
                        exact rS_i C hr hlk hQ (nbi _) rfl dX4_road_159
                      · have hrun := p_neg hrun c22
                        refine lv_iconst (v := 1) hx hb dX4_road_154 rfl ?_
                        refine lv_goto (tgt := 159) hx hb dX4_road_155 rfl ?_
                        cases hrun
                        exact rS_i C hr hlk hQ (nbi _) rfl dX4_road_159
                    · have hrun := p_neg hrun c19
                      by_cases c23 : x2 = 9
                      · have hrun := p_pos hrun c23
                        refine j_tswIn  (tgt := 160) hx hb 9 c23 dX4_road_14 (by decide) (by decide) rfl rfl ?_
                        refine lv_aload_n hx hb dX4_road_160 rfl (lv_at hl 0 rfl) ?_
                        refine lv_aload_n hx hb dX4_road_161 rfl (lv_at hl 0 rfl) ?_
                        refine lv_aload_n hx hb dX4_road_162 rfl (lv_at hl 0 rfl) ?_
                        obtain ⟨r24, h_r24, hrun⟩ := p_bnd hrun
                        refine jVS_i (rest := [.ref (wad j2), .ref (wad j2)]) C (c3_reversal (WX_word hj2) h_r24) gX4_road_X3_reversal hd3_reversal hK hN hP ⟨_, 3, _, _, (WX_word hj2), rfl, rfl⟩ rfl ⟨rfl, rfl⟩ ⟨Nat.le_of_ble_eq_true rfl, Nat.le_of_ble_eq_true rfl⟩ rfl hl.1 rfl (Nat.le_of_ble_eq_true rfl) ⟨Nat.le_of_ble_eq_true rfl, Nat.le_of_ble_eq_true rfl⟩ dX4_road_163 ?_
                        obtain ⟨r25, h_r25, hrun⟩ := p_bnd hrun
                        refine jVS_i (rest := [.ref (wad j2)]) C (c3_complement (WX_word hj2) h_r25) gX4_road_X3_complement hd3_complement hK hN hP ⟨_, 3, _, _, (WX_word hj2), rfl, rfl⟩ rfl ⟨rfl, rfl⟩ ⟨Nat.le_of_ble_eq_true rfl, Nat.le_of_ble_eq_true rfl⟩ rfl hl.1 rfl (Nat.le_of_ble_eq_true rfl) ⟨Nat.le_of_ble_eq_true rfl, Nat.le_of_ble_eq_true rfl⟩ dX4_road_166 ?_
                        obtain ⟨r26, h_r26, hrun⟩ := p_bnd hrun
                        refine jVS_i (rest := []) C (c3_isConjugate (WX_word hj2) h_r26) gX4_road_X3_isConjugate hd3_isConjugate hK hN hP ⟨_, 3, _, _, (WX_word hj2), rfl, rfl⟩ rfl ⟨rfl, rfl⟩ ⟨Nat.le_of_ble_eq_true rfl, Nat.le_of_ble_eq_true rfl⟩ rfl hl.1 rfl (Nat.le_of_ble_eq_true rfl) ⟨Nat.le_of_ble_eq_true rfl, Nat.le_of_ble_eq_true rfl⟩ dX4_road_169 ?_
                        refine lv_if_eq (tgt := 179) hx hb dX4_road_172 rfl (fun c27 => ?_) (fun c27 => ?_)
                        · have hrun := p_pos hrun c27
                          refine lv_iconst (v := 0) hx hb dX4_road_179 rfl ?_
                          cases hrun
                          exact rS_i C hr hlk hQ (nbi _) rfl dX4_road_180
                        · have hrun := p_neg hrun c27
                          refine lv_iconst (v := 1) hx hb dX4_road_175 rfl ?_
                          refine lv_goto (tgt := 180) hx hb dX4_road_176 rfl ?_
                          cases hrun
                          exact rS_i C hr hlk hQ (nbi _) rfl dX4_road_180
                      · have hrun := p_neg hrun c23
                        refine lv_tableOut (tgt := 181) hx hb dX4_road_14 (j_tswOut (lo := 0) (hi := 9) [0, 1, 2, 3, 4, 5, 6, 7, 8, 9] (by decide) (fun k hk => by simp only [List.mem_cons, List.not_mem_nil, or_false] at hk; rcases hk with rfl | rfl | rfl | rfl | rfl | rfl | rfl | rfl | rfl | rfl <;> assumption)) rfl ?_
                        refine lv_ldc (v := (-2000000102)) hx hb C.2.2.2.1 (C.2.2.2.2 _ k4_road_36) dX4_road_181 ?_
                        cases hrun
                        exact rS_i C hr hlk hQ (nbi _) rfl dX4_road_183

end X92
