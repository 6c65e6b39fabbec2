section X92
variable {l : Launch} {D : va_G} {sz : Nat}
variable {ad fa ca wad : Nat → Nat} {cI cR cG : ClassId}
variable {v_roadCount v_readings v_psize v_good v_pbits v_letters v_afterLetter v_disc v_rsize v_cycleCount v_closed v_traces v_crossings v_db_bits v_db_size v_db_allBits v_db_a v_db_b v_db_c v_db_d v_dn_bits v_dn_size v_dn_allBits v_dn_a v_dn_b v_dn_c v_dn_d : Int32}
variable {v_s : Int64}
variable {v_codes : Nat → Int32}
variable {v_fo v_cy v_wv : Nat → Nat → Int32}
variable {v_wn : Nat}
abbrev rm1_append : Room := { frames := 1, cells := 0, slots := 0, locals := 26 }
theorem fl1_append_9 : Cond.fieldLink RX1 9 "RiverWords$Page" "codes" "[I" ∈ wsX1_append := by decide +kernel
theorem fl1_append_15 : Cond.fieldLink RX1 15 "RiverWords$Page" "size" "I" ∈ wsX1_append := by decide +kernel
theorem fl1_append_19 : Cond.fieldLink RX1 19 "RiverWords$Page" "good" "I" ∈ wsX1_append := by decide +kernel
theorem inm1_append_X1 : ∀ w ∈ wsX10, w ∈ wsX1_append := by decide +kernel
theorem hd1_append : okD yX1_append 1 := by decide +kernel
set_option maxHeartbeats 8000000 in
set_option maxRecDepth 100000 in
theorem c1_append {x1 : Int32} {res : Int32 × Int32 × Int32 × Int32 × Int32 × (Nat → Int32)} (hrun : P1_append v_psize v_good v_pbits v_letters v_afterLetter v_codes x1 = some res) : Met l yX1_append wsX1_append rm1_append (va_Pc [.ref (ad 1), .int x1] (PE D (tyX cI cR cG) sz (WX0 ad fa ca wad cI cR cG v_wn) (WX ad fa ca wad cI cR cG v_roadCount v_readings v_psize v_good v_pbits v_letters v_afterLetter v_codes v_disc v_rsize v_cycleCount v_fo v_cy v_s v_closed v_traces v_crossings v_db_bits v_db_size v_db_allBits v_db_a v_db_b v_db_c v_db_d v_dn_bits v_dn_size v_dn_allBits v_dn_a v_dn_b v_dn_c v_dn_d v_wn v_wv))) (va_Qv (fun _ : Unit => True) (fun _ t => va_P D vwCl (WX ad fa ca wad cI cR cG v_roadCount v_readings res.1 res.2.1 res.2.2.1 res.2.2.2.1 res.2.2.2.2.1 res.2.2.2.2.2 v_disc v_rsize v_cycleCount v_fo v_cy v_s v_closed v_traces v_crossings v_db_bits v_db_size v_db_allBits v_db_a v_db_b v_db_c v_db_d v_dn_bits v_dn_size v_dn_allBits v_dn_a v_dn_b v_dn_c v_dn_d v_wn v_wv) t.heap) (va_A (WX0 ad fa ca wad cI cR cG v_wn) sz)) 0 0 (va_A (WX0 ad fa ca wad cI cR cG v_wn) sz) := by
  refine E_in (cc := cX1_append) (maxL := 2) (ret := none) (by decide) rfl (Nat.le_of_ble_eq_true rfl) ?_
  intro p e s m args below meth c ls Q hQ C hr hlk hK hN hD hA I hl
  have C : CallFix p m c cX1_append 2 s args wsX1_append RX1 := C
  have hx := C.1
  have hb := C.2.1
  have hl : lv_has ls 2 [(0, .ref (ad 1)), (1, .int x1)] := hl
  unfold P1_append at hrun
  refine lv_aload_n hx hb dX1_append_0 rfl (lv_at hl 0 rfl) ?_
  refine gX_P_size C inm1_append_X1 hK I.1 fl1_append_15 dX1_append_1 ?_
  refine lv_if_lt (tgt := 19) hx hb dX1_append_4 rfl (fun c1 => ?_) (fun c1 => ?_)
  · have hrun := p_pos hrun c1
    cases hrun
    exact rE_v C hr hlk hQ I dX1_append_19
  · have hrun := p_neg hrun c1
    refine lv_aload_n hx hb dX1_append_7 rfl (lv_at hl 0 rfl) ?_
    refine gX_P_size C inm1_append_X1 hK I.1 fl1_append_15 dX1_append_8 ?_
    refine lv_aload_n hx hb dX1_append_11 rfl (lv_at hl 0 rfl) ?_
    refine gX_P_codes C inm1_append_X1 hK I.1 fl1_append_9 dX1_append_12 ?_
    refine alX_codes C hK I.1 dX1_append_15 ?_
    refine lv_icmp_lt (tgt := 20) hx hb dX1_append_16 rfl (fun c2 => ?_) (fun c2 => ?_)
    · have hrun := p_pos hrun c2
      refine lv_aload_n hx hb dX1_append_20 rfl (lv_at hl 0 rfl) ?_
      refine gX_P_good C inm1_append_X1 hK I.1 fl1_append_19 dX1_append_21 ?_
      refine lv_aload_n hx hb dX1_append_24 rfl (lv_at hl 0 rfl) ?_
      refine gX_P_size C inm1_append_X1 hK I.1 fl1_append_15 dX1_append_25 ?_
      refine lv_icmp_ne (tgt := 49) hx hb dX1_append_28 rfl (fun c3 => ?_) (fun c3 => ?_)
      · have hrun := p_neg hrun c3
        refine lv_aload_n hx hb dX1_append_49 rfl (lv_at hl 0 rfl) ?_
        refine gX_P_codes C inm1_append_X1 hK I.1 fl1_append_9 dX1_append_50 ?_
        refine lv_aload_n hx hb dX1_append_53 rfl (lv_at hl 0 rfl) ?_
        refine gX_P_size C inm1_append_X1 hK I.1 fl1_append_15 dX1_append_54 ?_
        refine lv_iload_n hx hb dX1_append_57 rfl (lv_at hl 1 rfl) ?_
        obtain ⟨b4, hrun⟩ := p_chk hrun
        refine stX_codes C hK hD I b4 dX1_append_58 (fun H locs I => ?_)
        refine lv_aload_n hx hb dX1_append_59 rfl (lv_at hl 0 rfl) ?_
        refine lv_dup hx hb dX1_append_60 rfl ?_
        refine gX_P_size C inm1_append_X1 hK I.1 fl1_append_15 dX1_append_61 ?_
        refine lv_iconst (v := 1) hx hb dX1_append_64 rfl ?_
        refine lv_iadd hx hb dX1_append_65 ?_
        refine pX_P_size C inm1_append_X1 hK hD I fl1_append_15 dX1_append_66 (fun H locs I => ?_)
        cases hrun
        exact rE_v C hr hlk hQ I dX1_append_69
      · have hrun := p_pos hrun c3
        refine lv_aload_n hx hb dX1_append_31 rfl (lv_at hl 0 rfl) ?_
        refine lv_iload_n hx hb dX1_append_32 rfl (lv_at hl 1 rfl) ?_
        obtain ⟨r5, h_r5, hrun⟩ := p_bnd hrun
        refine jVE_i (rest := []) C (c1_continues h_r5) gX1_append_X1_continues hd1_continues hK hN hD hA I rcP rfl ⟨rfl, rfl⟩ ⟨Nat.le_of_ble_eq_true rfl, Nat.le_of_ble_eq_true rfl⟩ rfl hl.1 rfl (Nat.le_of_ble_eq_true rfl) ⟨Nat.le_of_ble_eq_true rfl, Nat.le_of_ble_eq_true rfl⟩ dX1_append_33 (fun H locs I => ?_)
        refine lv_if_eq (tgt := 49) hx hb dX1_append_36 rfl (fun c6 => ?_) (fun c6 => ?_)
        · have hrun := p_pos hrun c6
          refine lv_aload_n hx hb dX1_append_49 rfl (lv_at hl 0 rfl) ?_
          refine gX_P_codes C inm1_append_X1 hK I.1 fl1_append_9 dX1_append_50 ?_
          refine lv_aload_n hx hb dX1_append_53 rfl (lv_at hl 0 rfl) ?_
          refine gX_P_size C inm1_append_X1 hK I.1 fl1_append_15 dX1_append_54 ?_
          refine lv_iload_n hx hb dX1_append_57 rfl (lv_at hl 1 rfl) ?_
          obtain ⟨b7, hrun⟩ := p_chk hrun
          refine stX_codes C hK hD I b7 dX1_append_58 (fun H locs I => ?_)
          refine lv_aload_n hx hb dX1_append_59 rfl (lv_at hl 0 rfl) ?_
          refine lv_dup hx hb dX1_append_60 rfl ?_
          refine gX_P_size C inm1_append_X1 hK I.1 fl1_append_15 dX1_append_61 ?_
          refine lv_iconst (v := 1) hx hb dX1_append_64 rfl ?_
          refine lv_iadd hx hb dX1_append_65 ?_
          refine pX_P_size C inm1_append_X1 hK hD I fl1_append_15 dX1_append_66 (fun H locs I => ?_)
          cases hrun
          exact rE_v C hr hlk hQ I dX1_append_69
        · have hrun := p_neg hrun c6
          refine lv_aload_n hx hb dX1_append_39 rfl (lv_at hl 0 rfl) ?_
          refine lv_dup hx hb dX1_append_40 rfl ?_
          refine gX_P_good C inm1_append_X1 hK I.1 fl1_append_19 dX1_append_41 ?_
          refine lv_iconst (v := 1) hx hb dX1_append_44 rfl ?_
          refine lv_iadd hx hb dX1_append_45 ?_
          refine pX_P_good C inm1_append_X1 hK hD I fl1_append_19 dX1_append_46 (fun H locs I => ?_)
          refine lv_aload_n hx hb dX1_append_49 rfl (lv_at hl 0 rfl) ?_
          refine gX_P_codes C inm1_append_X1 hK I.1 fl1_append_9 dX1_append_50 ?_
          refine lv_aload_n hx hb dX1_append_53 rfl (lv_at hl 0 rfl) ?_
          refine gX_P_size C inm1_append_X1 hK I.1 fl1_append_15 dX1_append_54 ?_
          refine lv_iload_n hx hb dX1_append_57 rfl (lv_at hl 1 rfl) ?_
          obtain ⟨b8, hrun⟩ := p_chk hrun
          refine stX_codes C hK hD I b8 dX1_append_58 (fun H locs I => ?_)
          refine lv_aload_n hx hb dX1_append_59 rfl (lv_at hl 0 rfl) ?_
          refine lv_dup hx hb dX1_append_60 rfl ?_
          refine gX_P_size C inm1_append_X1 hK I.1 fl1_append_15 dX1_append_61 ?_
          refine lv_iconst (v := 1) hx hb dX1_append_64 rfl ?_
          refine lv_iadd hx hb dX1_append_65 ?_
          refine pX_P_size C inm1_append_X1 hK hD I fl1_append_15 dX1_append_66 (fun H locs I => ?_)
          cases hrun
          exact rE_v C hr hlk hQ I dX1_append_69
    · have hrun := p_neg hrun c2
      cases hrun
      exact rE_v C hr hlk hQ I dX1_append_19

abbrev rm1_isWord : Room := { frames := 0, cells := 0, slots := 0, locals := 0 }
theorem fl1_isWord_15 : Cond.fieldLink RX1 15 "RiverWords$Page" "size" "I" ∈ wsX1_isWord := by decide +kernel
theorem fl1_isWord_19 : Cond.fieldLink RX1 19 "RiverWords$Page" "good" "I" ∈ wsX1_isWord := by decide +kernel
theorem inm1_isWord_X1 : ∀ w ∈ wsX10, w ∈ wsX1_isWord := by decide +kernel
theorem hd1_isWord : okD yX1_isWord 0 := by decide +kernel
set_option maxHeartbeats 8000000 in
set_option maxRecDepth 100000 in
theorem c1_isWord {res : Int32} (hrun : P1_isWord v_psize v_good = some res) : Met l yX1_isWord wsX1_isWord rm1_isWord (va_Pc [.ref (ad 1)] (PS D (tyX cI cR cG) (WX ad fa ca wad cI cR cG v_roadCount v_readings v_psize v_good v_pbits v_letters v_afterLetter v_codes v_disc v_rsize v_cycleCount v_fo v_cy v_s v_closed v_traces v_crossings v_db_bits v_db_size v_db_allBits v_db_a v_db_b v_db_c v_db_d v_dn_bits v_dn_size v_dn_allBits v_dn_a v_dn_b v_dn_c v_dn_d v_wn v_wv))) (vp_Si (fun x => x = res)) 0 0 (fun _ => False) := by
  refine S_in (cc := cX1_isWord) (maxL := 1) (ret := (some .boolean)) (by decide) rfl (Nat.le_of_ble_eq_true rfl) ?_
  intro p e s m args below meth c ls Q hQ C hr hlk hK hN hP hl
  have C : CallFix p m c cX1_isWord 1 s args wsX1_isWord RX1 := C
  have hx := C.1
  have hb := C.2.1
  have hl : lv_has ls 1 [(0, .ref (ad 1))] := hl
  unfold P1_isWord at hrun
  refine lv_aload_n hx hb dX1_isWord_0 rfl (lv_at hl 0 rfl) ?_
  refine gX_P_size C inm1_isWord_X1 hK hP fl1_isWord_15 dX1_isWord_1 ?_
  refine lv_if_le (tgt := 22) hx hb dX1_isWord_4 rfl (fun c1 => ?_) (fun c1 => ?_)
  · have hrun := p_pos hrun c1
    refine lv_iconst (v := 0) hx hb dX1_isWord_22 rfl ?_
    cases hrun
    exact rS_i C hr hlk hQ (nb01 (Or.inl rfl)) rfl dX1_isWord_23
  · have hrun := p_neg hrun c1
    refine lv_aload_n hx hb dX1_isWord_7 rfl (lv_at hl 0 rfl) ?_
    refine gX_P_good C inm1_isWord_X1 hK hP fl1_isWord_19 dX1_isWord_8 ?_
    refine lv_aload_n hx hb dX1_isWord_11 rfl (lv_at hl 0 rfl) ?_
    refine gX_P_size C inm1_isWord_X1 hK hP fl1_isWord_15 dX1_isWord_12 ?_
    refine lv_icmp_ne (tgt := 22) hx hb dX1_isWord_15 rfl (fun c2 => ?_) (fun c2 => ?_)
    · have hrun := p_neg hrun c2
      refine lv_iconst (v := 0) hx hb dX1_isWord_22 rfl ?_
      cases hrun
      exact rS_i C hr hlk hQ (nb01 (Or.inl rfl)) rfl dX1_isWord_23
    · have hrun := p_pos hrun c2
      refine lv_iconst (v := 1) hx hb dX1_isWord_18 rfl ?_
      refine lv_goto (tgt := 23) hx hb dX1_isWord_19 rfl ?_
      cases hrun
      exact rS_i C hr hlk hQ (nb01 (Or.inr rfl)) rfl dX1_isWord_23

abbrev rm1_hashed : Room := { frames := 1, cells := 0, slots := 0, locals := 22 }
theorem fl1_hashed_9 : Cond.fieldLink RX1 9 "RiverWords$Page" "codes" "[I" ∈ wsX1_hashed := by decide +kernel
theorem fl1_hashed_15 : Cond.fieldLink RX1 15 "RiverWords$Page" "size" "I" ∈ wsX1_hashed := by decide +kernel
theorem inm1_hashed_X1 : ∀ w ∈ wsX10, w ∈ wsX1_hashed := by decide +kernel
theorem ns1_hashed_X4_mix : Cond.static yX4_mix ∈ wsX1_hashed := by decide +kernel
theorem ni1_hashed : Cond.initialized RX4 ∈ wsX1_hashed := by decide +kernel
theorem hd1_hashed : okD yX1_hashed 1 := by decide +kernel
set_option maxHeartbeats 8000000 in
set_option maxRecDepth 100000 in
theorem c1_hashed {l1 : Int64} {res : Int64} (hrun : P1_hashed v_psize v_codes l1 = some res) : Met l yX1_hashed wsX1_hashed rm1_hashed (va_Pc [.ref (ad 1), .long l1] (PS D (tyX cI cR cG) (WX ad fa ca wad cI cR cG v_roadCount v_readings v_psize v_good v_pbits v_letters v_afterLetter v_codes v_disc v_rsize v_cycleCount v_fo v_cy v_s v_closed v_traces v_crossings v_db_bits v_db_size v_db_allBits v_db_a v_db_b v_db_c v_db_d v_dn_bits v_dn_size v_dn_allBits v_dn_a v_dn_b v_dn_c v_dn_d v_wn v_wv))) (vp_Sl (fun x => x = res)) 0 0 (fun _ => False) := by
  refine S_in (cc := cX1_hashed) (maxL := 6) (ret := (some .long)) (by decide) rfl (Nat.le_of_ble_eq_true rfl) ?_
  intro p e s m args below meth c ls Q hQ C hr hlk hK hN hP hl
  have C : CallFix p m c cX1_hashed 6 s args wsX1_hashed RX1 := C
  have hx := C.1
  have hb := C.2.1
  have hl : lv_has ls 6 [(0, .ref (ad 1)), (1, .long l1)] := hl
  have loop_5 : ∀ (n : Nat) (l3 : Int64) (x5 : Int32) (out : Int64), P1_hashed_5 v_psize v_codes n l3 x5 = some out → (∀ (ls : Array Slot), lv_has ls 6 [(3, .long out)] → W p l e rm1_hashed s m args below meth c s.heap [] 0 0 Q (F0 m 42 ls [])) → ∀ (ls : Array Slot), lv_has ls 6 [(0, .ref (ad 1)), (3, .long l3), (5, .int x5)] → W p l e rm1_hashed s m args below meth c s.heap [] 0 0 Q (F0 m 5 ls []) := by
    intro n
    induction n with
    | zero =>
      intro l3 x5 out hrun K ls hl
      cases hrun
    | succ n ih =>
      intro l3 x5 out hrun K ls hl
      rw [P1_hashed_5] at hrun
      refine lv_iload hx hb dX1_hashed_5 (lv_at hl 2 rfl) ?_
      refine lv_aload_n hx hb dX1_hashed_7 rfl (lv_at hl 0 rfl) ?_
      refine gX_P_size C inm1_hashed_X1 hK hP fl1_hashed_15 dX1_hashed_8 ?_
      refine lv_icmp_ge (tgt := 42) hx hb dX1_hashed_11 rfl (fun c1 => ?_) (fun c1 => ?_)
      · have hrun := p_pos hrun c1
        cases hrun
        exact K _ (lv_sub hl [1] rfl)
      · have hrun := p_neg hrun c1
        refine lv_iload hx hb dX1_hashed_14 (lv_at hl 2 rfl) ?_
        refine lv_aload_n hx hb dX1_hashed_16 rfl (lv_at hl 0 rfl) ?_
        refine gX_P_codes C inm1_hashed_X1 hK hP fl1_hashed_9 dX1_hashed_17 ?_
        refine alX_codes C hK hP dX1_hashed_20 ?_
        refine lv_icmp_ge (tgt := 42) hx hb dX1_hashed_21 rfl (fun c2 => ?_) (fun c2 => ?_)
        · have hrun := p_pos hrun c2
          cases hrun
          exact K _ (lv_sub hl [1] rfl)
        · have hrun := p_neg hrun c2
          refine lv_lload_n hx hb dX1_hashed_24 rfl (lv_at hl 1 rfl) ?_
          refine lv_aload_n hx hb dX1_hashed_25 rfl (lv_at hl 0 rfl) ?_
          refine gX_P_codes C inm1_hashed_X1 hK hP fl1_hashed_9 dX1_hashed_26 ?_
          refine lv_iload hx hb dX1_hashed_29 (lv_at hl 2 rfl) ?_
          obtain ⟨b3, hrun⟩ := p_chk hrun
          refine ldX_codes C hK hP b3 dX1_hashed_31 ?_
          obtain ⟨r4, h_r4, hrun⟩ := p_bnd hrun
          refine jNS_l (rest := []) C (c4_mix h_r4) gX1_hashed_X4_mix_n36 hN.2.2.2.1 ni1_hashed ns1_hashed_X4_mix hd4_mix rfl ⟨rfl, rfl⟩ ⟨Nat.le_of_ble_eq_true rfl, Nat.le_of_ble_eq_true rfl⟩ rfl hl.1 rfl (Nat.le_of_ble_eq_true rfl) ⟨Nat.le_of_ble_eq_true rfl, Nat.le_of_ble_eq_true rfl⟩ dX1_hashed_32 ?_
          refine lv_lstore_n (lv' := [(3, .long r4), (0, .ref (ad 1)), (5, .int x5)]) hx hb dX1_hashed_35 rfl hl (by decide) rfl (fun ls hl => ?_)
          refine lv_iinc (v := x5 + 1) (lv' := [(5, .int (x5 + 1)), (3, .long r4), (0, .ref (ad 1))]) hx hb dX1_hashed_36 hl (k := 2) rfl rfl (by decide) rfl (fun ls hl => ?_)
          refine lv_goto (tgt := 5) hx hb dX1_hashed_39 rfl ?_
          exact ih r4 (x5 + 1) out hrun K _ (lv_sub hl [2, 1, 0] rfl)
  unfold P1_hashed at hrun
  refine lv_lload_n hx hb dX1_hashed_0 rfl (lv_at hl 1 rfl) ?_
  refine lv_lstore_n (lv' := [(3, .long l1), (0, .ref (ad 1)), (1, .long l1)]) hx hb dX1_hashed_1 rfl hl (by decide) rfl (fun ls hl => ?_)
  refine lv_iconst (v := 0) hx hb dX1_hashed_2 rfl ?_
  refine lv_istore (lv' := [(5, .int 0), (3, .long l1), (0, .ref (ad 1)), (1, .long l1)]) hx hb dX1_hashed_3 hl (by decide) rfl (fun ls hl => ?_)
  obtain ⟨o5, h_o5, hrun⟩ := p_bnd hrun
  refine loop_5 FU l1 0 o5 h_o5 (fun ls hl => ?_) _ (lv_sub hl [2, 1, 0] rfl)
  refine lv_lload_n hx hb dX1_hashed_42 rfl (lv_at hl 0 rfl) ?_
  cases hrun
  exact rS_l C hr hlk hQ rfl dX1_hashed_43

abbrev rm2_exists : Room := { frames := 0, cells := 0, slots := 0, locals := 0 }
theorem fl2_exists_19 : Cond.fieldLink RX2 19 "RiverWords$River" "size" "I" ∈ wsX2_exists := by decide +kernel
theorem inm2_exists_X2 : ∀ w ∈ wsX20, w ∈ wsX2_exists := by decide +kernel
theorem hd2_exists : okD yX2_exists 0 := by decide +kernel
set_option maxHeartbeats 8000000 in
set_option maxRecDepth 100000 in
theorem c2_exists {res : Int32} (hrun : P2_exists v_rsize = some res) : Met l yX2_exists wsX2_exists rm2_exists (va_Pc [.ref (ad 4)] (PS D (tyX cI cR cG) (WX ad fa ca wad cI cR cG v_roadCount v_readings v_psize v_good v_pbits v_letters v_afterLetter v_codes v_disc v_rsize v_cycleCount v_fo v_cy v_s v_closed v_traces v_crossings v_db_bits v_db_size v_db_allBits v_db_a v_db_b v_db_c v_db_d v_dn_bits v_dn_size v_dn_allBits v_dn_a v_dn_b v_dn_c v_dn_d v_wn v_wv))) (vp_Si (fun x => x = res)) 0 0 (fun _ => False) := by
  refine S_in (cc := cX2_exists) (maxL := 1) (ret := (some .boolean)) (by decide) rfl (Nat.le_of_ble_eq_true rfl) ?_
  intro p e s m args below meth c ls Q hQ C hr hlk hK hN hP hl
  have C : CallFix p m c cX2_exists 1 s args wsX2_exists RX2 := C
  have hx := C.1
  have hb := C.2.1
  have hl : lv_has ls 1 [(0, .ref (ad 4))] := hl
  unfold P2_exists at hrun
  refine lv_aload_n hx hb dX2_exists_0 rfl (lv_at hl 0 rfl) ?_
  refine gX_R_size C inm2_exists_X2 hK hP fl2_exists_19 dX2_exists_1 ?_
  refine lv_if_le (tgt := 11) hx hb dX2_exists_4 rfl (fun c1 => ?_) (fun c1 => ?_)
  · have hrun := p_pos hrun c1
    refine lv_iconst (v := 0) hx hb dX2_exists_11 rfl ?_
    cases hrun
    exact rS_i C hr hlk hQ (nb01 (Or.inl rfl)) rfl dX2_exists_12
  · have hrun := p_neg hrun c1
    refine lv_iconst (v := 1) hx hb dX2_exists_7 rfl ?_
    refine lv_goto (tgt := 12) hx hb dX2_exists_8 rfl ?_
    cases hrun
    exact rS_i C hr hlk hQ (nb01 (Or.inr rfl)) rfl dX2_exists_12

abbrev rm2_hasForm : Room := { frames := 0, cells := 0, slots := 0, locals := 0 }
theorem fl2_hasForm_19 : Cond.fieldLink RX2 19 "RiverWords$River" "size" "I" ∈ wsX2_hasForm := by decide +kernel
theorem inm2_hasForm_X2 : ∀ w ∈ wsX20, w ∈ wsX2_hasForm := by decide +kernel
theorem hd2_hasForm : okD yX2_hasForm 1 := by decide +kernel
set_option maxHeartbeats 8000000 in
set_option maxRecDepth 100000 in
theorem c2_hasForm {x1 : Int32} {res : Int32} (hrun : P2_hasForm v_rsize x1 = some res) : Met l yX2_hasForm wsX2_hasForm rm2_hasForm (va_Pc [.ref (ad 4), .int x1] (PS D (tyX cI cR cG) (WX ad fa ca wad cI cR cG v_roadCount v_readings v_psize v_good v_pbits v_letters v_afterLetter v_codes v_disc v_rsize v_cycleCount v_fo v_cy v_s v_closed v_traces v_crossings v_db_bits v_db_size v_db_allBits v_db_a v_db_b v_db_c v_db_d v_dn_bits v_dn_size v_dn_allBits v_dn_a v_dn_b v_dn_c v_dn_d v_wn v_wv))) (vp_Si (fun x => x = res)) 0 0 (fun _ => False) := by
  refine S_in (cc := cX2_hasForm) (maxL := 2) (ret := (some .boolean)) (by decide) rfl (Nat.le_of_ble_eq_true rfl) ?_
  intro p e s m args below meth c ls Q hQ C hr hlk hK hN hP hl
  have C : CallFix p m c cX2_hasForm 2 s args wsX2_hasForm RX2 := C
  have hx := C.1
  have hb := C.2.1
  have hl : lv_has ls 2 [(0, .ref (ad 4)), (1, .int x1)] := hl
  unfold P2_hasForm at hrun
  refine lv_iload_n hx hb dX2_hasForm_0 rfl (lv_at hl 1 rfl) ?_
  refine lv_if_lt (tgt := 23) hx hb dX2_hasForm_1 rfl (fun c1 => ?_) (fun c1 => ?_)
  · have hrun := p_pos hrun c1
    refine lv_iconst (v := 0) hx hb dX2_hasForm_23 rfl ?_
    cases hrun
    exact rS_i C hr hlk hQ (nb01 (Or.inl rfl)) rfl dX2_hasForm_24
  · have hrun := p_neg hrun c1
    refine lv_iload_n hx hb dX2_hasForm_4 rfl (lv_at hl 1 rfl) ?_
    refine lv_aload_n hx hb dX2_hasForm_5 rfl (lv_at hl 0 rfl) ?_
    refine gX_R_size C inm2_hasForm_X2 hK hP fl2_hasForm_19 dX2_hasForm_6 ?_
    refine lv_icmp_ge (tgt := 23) hx hb dX2_hasForm_9 rfl (fun c2 => ?_) (fun c2 => ?_)
    · have hrun := p_pos hrun c2
      refine lv_iconst (v := 0) hx hb dX2_hasForm_23 rfl ?_
      cases hrun
      exact rS_i C hr hlk hQ (nb01 (Or.inl rfl)) rfl dX2_hasForm_24
    · have hrun := p_neg hrun c2
      refine lv_iload_n hx hb dX2_hasForm_12 rfl (lv_at hl 1 rfl) ?_
      refine lv_sipush (v := 320) hx hb dX2_hasForm_13 rfl ?_
      refine lv_icmp_ge (tgt := 23) hx hb dX2_hasForm_16 rfl (fun c3 => ?_) (fun c3 => ?_)
      · have hrun := p_pos hrun c3
        refine lv_iconst (v := 0) hx hb dX2_hasForm_23 rfl ?_
        cases hrun
        exact rS_i C hr hlk hQ (nb01 (Or.inl rfl)) rfl dX2_hasForm_24
      · have hrun := p_neg hrun c3
        refine lv_iconst (v := 1) hx hb dX2_hasForm_19 rfl ?_
        refine lv_goto (tgt := 24) hx hb dX2_hasForm_20 rfl ?_
        cases hrun
        exact rS_i C hr hlk hQ (nb01 (Or.inr rfl)) rfl dX2_hasForm_24

abbrev rm2_hasCycle : Room := { frames := 0, cells := 0, slots := 0, locals := 0 }
theorem fl2_hasCycle_23 : Cond.fieldLink RX2 23 "RiverWords$River" "cycleCount" "I" ∈ wsX2_hasCycle := by decide +kernel
theorem inm2_hasCycle_X2 : ∀ w ∈ wsX20, w ∈ wsX2_hasCycle := by decide +kernel
theorem hd2_hasCycle : okD yX2_hasCycle 1 := by decide +kernel
set_option maxHeartbeats 8000000 in
set_option maxRecDepth 100000 in
theorem c2_hasCycle {x1 : Int32} {res : Int32} (hrun : P2_hasCycle v_cycleCount x1 = some res) : Met l yX2_hasCycle wsX2_hasCycle rm2_hasCycle (va_Pc [.ref (ad 4), .int x1] (PS D (tyX cI cR cG) (WX ad fa ca wad cI cR cG v_roadCount v_readings v_psize v_good v_pbits v_letters v_afterLetter v_codes v_disc v_rsize v_cycleCount v_fo v_cy v_s v_closed v_traces v_crossings v_db_bits v_db_size v_db_allBits v_db_a v_db_b v_db_c v_db_d v_dn_bits v_dn_size v_dn_allBits v_dn_a v_dn_b v_dn_c v_dn_d v_wn v_wv))) (vp_Si (fun x => x = res)) 0 0 (fun _ => False) := by
  refine S_in (cc := cX2_hasCycle) (maxL := 2) (ret := (some .boolean)) (by decide) rfl (Nat.le_of_ble_eq_true rfl) ?_
  intro p e s m args below meth c ls Q hQ C hr hlk hK hN hP hl
  have C : CallFix p m c cX2_hasCycle 2 s args wsX2_hasCycle RX2 := C
  have hx := C.1
  have hb := C.2.1
  have hl : lv_has ls 2 [(0, .ref (ad 4)), (1, .int x1)] := hl
  unfold P2_hasCycle at hrun
  refine lv_iload_n hx hb dX2_hasCycle_0 rfl (lv_at hl 1 rfl) ?_
  refine lv_if_lt (tgt := 22) hx hb dX2_hasCycle_1 rfl (fun c1 => ?_) (fun c1 => ?_)
  · have hrun := p_pos hrun c1
    refine lv_iconst (v := 0) hx hb dX2_hasCycle_22 rfl ?_
    cases hrun
    exact rS_i C hr hlk hQ (nb01 (Or.inl rfl)) rfl dX2_hasCycle_23
  · have hrun := p_neg hrun c1
    refine lv_iload_n hx hb dX2_hasCycle_4 rfl (lv_at hl 1 rfl) ?_
    refine lv_aload_n hx hb dX2_hasCycle_5 rfl (lv_at hl 0 rfl) ?_
    refine gX_R_cycleCount C inm2_hasCycle_X2 hK hP fl2_hasCycle_23 dX2_hasCycle_6 ?_
    refine lv_icmp_ge (tgt := 22) hx hb dX2_hasCycle_9 rfl (fun c2 => ?_) (fun c2 => ?_)
    · have hrun := p_pos hrun c2
      refine lv_iconst (v := 0) hx hb dX2_hasCycle_22 rfl ?_
      cases hrun
      exact rS_i C hr hlk hQ (nb01 (Or.inl rfl)) rfl dX2_hasCycle_23
    · have hrun := p_neg hrun c2
      refine lv_iload_n hx hb dX2_hasCycle_12 rfl (lv_at hl 1 rfl) ?_
      refine lv_bipush (v := 10) hx hb dX2_hasCycle_13 rfl ?_
      refine lv_icmp_ge (tgt := 22) hx hb dX2_hasCycle_15 rfl (fun c3 => ?_) (fun c3 => ?_)
      · have hrun := p_pos hrun c3
        refine lv_iconst (v := 0) hx hb dX2_hasCycle_22 rfl ?_
        cases hrun
        exact rS_i C hr hlk hQ (nb01 (Or.inl rfl)) rfl dX2_hasCycle_23
      · have hrun := p_neg hrun c3
        refine lv_iconst (v := 1) hx hb dX2_hasCycle_18 rfl ?_
        refine lv_goto (tgt := 23) hx hb dX2_hasCycle_19 rfl ?_
        cases hrun
        exact rS_i C hr hlk hQ (nb01 (Or.inr rfl)) rfl dX2_hasCycle_23

abbrev rm2_ofForm : Room := { frames := 1, cells := 0, slots := 0, locals := 21 }
theorem fl2_ofForm_13 : Cond.fieldLink RX2 13 "RiverWords$River" "forms" "[[I" ∈ wsX2_ofForm := by decide +kernel
theorem k2_ofForm_30 : Cond.constant RX2 30 (-2000000001) ∈ wsX2_ofForm := by decide +kernel
theorem inm2_ofForm_X2 : ∀ w ∈ wsX20, w ∈ wsX2_ofForm := by decide +kernel
theorem hd2_ofForm : okD yX2_ofForm 2 := by decide +kernel
set_option maxHeartbeats 8000000 in
set_option maxRecDepth 100000 in
theorem c2_ofForm {x1 : Int32} {x2 : Int32} {res : Int32} (hrun : P2_ofForm v_rsize v_fo x1 x2 = some res) : Met l yX2_ofForm wsX2_ofForm rm2_ofForm (va_Pc [.ref (ad 4), .int x1, .int x2] (PS D (tyX cI cR cG) (WX ad fa ca wad cI cR cG v_roadCount v_readings v_psize v_good v_pbits v_letters v_afterLetter v_codes v_disc v_rsize v_cycleCount v_fo v_cy v_s v_closed v_traces v_crossings v_db_bits v_db_size v_db_allBits v_db_a v_db_b v_db_c v_db_d v_dn_bits v_dn_size v_dn_allBits v_dn_a v_dn_b v_dn_c v_dn_d v_wn v_wv))) (vp_Si (fun x => x = res)) 0 0 (fun _ => False) := by
  refine S_in (cc := cX2_ofForm) (maxL := 3) (ret := (some .int)) (by decide) rfl (Nat.le_of_ble_eq_true rfl) ?_
  intro p e s m args below meth c ls Q hQ C hr hlk hK hN hP hl
  have C : CallFix p m c cX2_ofForm 3 s args wsX2_ofForm RX2 := C
  have hx := C.1
  have hb := C.2.1
  have hl : lv_has ls 3 [(0, .ref (ad 4)), (1, .int x1), (2, .int x2)] := hl
  unfold P2_ofForm at hrun
  refine lv_aload_n hx hb dX2_ofForm_0 rfl (lv_at hl 0 rfl) ?_
  refine lv_iload_n hx hb dX2_ofForm_1 rfl (lv_at hl 1 rfl) ?_
  obtain ⟨r1, h_r1, hrun⟩ := p_bnd hrun
  refine jVS_i (rest := []) C (c2_hasForm h_r1) gX2_ofForm_X2_hasForm hd2_hasForm hK hN hP rcR rfl ⟨rfl, rfl⟩ ⟨Nat.le_of_ble_eq_true rfl, Nat.le_of_ble_eq_true rfl⟩ rfl hl.1 rfl (Nat.le_of_ble_eq_true rfl) ⟨Nat.le_of_ble_eq_true rfl, Nat.le_of_ble_eq_true rfl⟩ dX2_ofForm_2 ?_
  refine lv_if_eq (tgt := 29) hx hb dX2_ofForm_5 rfl (fun c2 => ?_) (fun c2 => ?_)
  · have hrun := p_pos hrun c2
    refine lv_ldc (v := (-2000000001)) hx hb C.2.2.2.1 (C.2.2.2.2 _ k2_ofForm_30) dX2_ofForm_29 ?_
    cases hrun
    exact rS_i C hr hlk hQ (nbi _) rfl dX2_ofForm_31
  · have hrun := p_neg hrun c2
    refine lv_iload_n hx hb dX2_ofForm_8 rfl (lv_at hl 2 rfl) ?_
    refine lv_if_lt (tgt := 29) hx hb dX2_ofForm_9 rfl (fun c3 => ?_) (fun c3 => ?_)
    · have hrun := p_pos hrun c3
      refine lv_ldc (v := (-2000000001)) hx hb C.2.2.2.1 (C.2.2.2.2 _ k2_ofForm_30) dX2_ofForm_29 ?_
      cases hrun
      exact rS_i C hr hlk hQ (nbi _) rfl dX2_ofForm_31
    · have hrun := p_neg hrun c3
      refine lv_iload_n hx hb dX2_ofForm_12 rfl (lv_at hl 2 rfl) ?_
      refine lv_bipush (v := 8) hx hb dX2_ofForm_13 rfl ?_
      refine lv_icmp_ge (tgt := 29) hx hb dX2_ofForm_15 rfl (fun c4 => ?_) (fun c4 => ?_)
      · have hrun := p_pos hrun c4
        refine lv_ldc (v := (-2000000001)) hx hb C.2.2.2.1 (C.2.2.2.2 _ k2_ofForm_30) dX2_ofForm_29 ?_
        cases hrun
        exact rS_i C hr hlk hQ (nbi _) rfl dX2_ofForm_31
      · have hrun := p_neg hrun c4
        refine lv_aload_n hx hb dX2_ofForm_18 rfl (lv_at hl 0 rfl) ?_
        refine gX_R_forms C inm2_ofForm_X2 hK hP fl2_ofForm_13 dX2_ofForm_19 ?_
        refine lv_iload_n hx hb dX2_ofForm_22 rfl (lv_at hl 2 rfl) ?_
        obtain ⟨b5, hrun⟩ := p_chk hrun
        refine axX_fo C hK hP b5 dX2_ofForm_23 ?_
        refine lv_iload_n hx hb dX2_ofForm_24 rfl (lv_at hl 1 rfl) ?_
        obtain ⟨b6, hrun⟩ := p_chk hrun
        refine ldX_fo C hK hP b5 b6 dX2_ofForm_25 ?_
        refine lv_goto (tgt := 31) hx hb dX2_ofForm_26 rfl ?_
        cases hrun
        exact rS_i C hr hlk hQ (nbi _) rfl dX2_ofForm_31

abbrev rm2_ofCycle : Room := { frames := 1, cells := 0, slots := 0, locals := 21 }
theorem fl2_ofCycle_16 : Cond.fieldLink RX2 16 "RiverWords$River" "cycles" "[[I" ∈ wsX2_ofCycle := by decide +kernel
theorem k2_ofCycle_30 : Cond.constant RX2 30 (-2000000001) ∈ wsX2_ofCycle := by decide +kernel
theorem inm2_ofCycle_X2 : ∀ w ∈ wsX20, w ∈ wsX2_ofCycle := by decide +kernel
theorem hd2_ofCycle : okD yX2_ofCycle 2 := by decide +kernel
set_option maxHeartbeats 8000000 in
set_option maxRecDepth 100000 in
theorem c2_ofCycle {x1 : Int32} {x2 : Int32} {res : Int32} (hrun : P2_ofCycle v_cycleCount v_cy x1 x2 = some res) : Met l yX2_ofCycle wsX2_ofCycle rm2_ofCycle (va_Pc [.ref (ad 4), .int x1, .int x2] (PS D (tyX cI cR cG) (WX ad fa ca wad cI cR cG v_roadCount v_readings v_psize v_good v_pbits v_letters v_afterLetter v_codes v_disc v_rsize v_cycleCount v_fo v_cy v_s v_closed v_traces v_crossings v_db_bits v_db_size v_db_allBits v_db_a v_db_b v_db_c v_db_d v_dn_bits v_dn_size v_dn_allBits v_dn_a v_dn_b v_dn_c v_dn_d v_wn v_wv))) (vp_Si (fun x => x = res)) 0 0 (fun _ => False) := by
  refine S_in (cc := cX2_ofCycle) (maxL := 3) (ret := (some .int)) (by decide) rfl (Nat.le_of_ble_eq_true rfl) ?_
  intro p e s m args below meth c ls Q hQ C hr hlk hK hN hP hl
  have C : CallFix p m c cX2_ofCycle 3 s args wsX2_ofCycle RX2 := C
  have hx := C.1
  have hb := C.2.1
  have hl : lv_has ls 3 [(0, .ref (ad 4)), (1, .int x1), (2, .int x2)] := hl
  unfold P2_ofCycle at hrun
  refine lv_aload_n hx hb dX2_ofCycle_0 rfl (lv_at hl 0 rfl) ?_
  refine lv_iload_n hx hb dX2_ofCycle_1 rfl (lv_at hl 1 rfl) ?_
  obtain ⟨r1, h_r1, hrun⟩ := p_bnd hrun
  refine jVS_i (rest := []) C (c2_hasCycle h_r1) gX2_ofCycle_X2_hasCycle hd2_hasCycle hK hN hP rcR rfl ⟨rfl, rfl⟩ ⟨Nat.le_of_ble_eq_true rfl, Nat.le_of_ble_eq_true rfl⟩ rfl hl.1 rfl (Nat.le_of_ble_eq_true rfl) ⟨Nat.le_of_ble_eq_true rfl, Nat.le_of_ble_eq_true rfl⟩ dX2_ofCycle_2 ?_
  refine lv_if_eq (tgt := 28) hx hb dX2_ofCycle_5 rfl (fun c2 => ?_) (fun c2 => ?_)
  · have hrun := p_pos hrun c2
    refine lv_ldc (v := (-2000000001)) hx hb C.2.2.2.1 (C.2.2.2.2 _ k2_ofCycle_30) dX2_ofCycle_28 ?_
    cases hrun
    exact rS_i C hr hlk hQ (nbi _) rfl dX2_ofCycle_30
  · have hrun := p_neg hrun c2
    refine lv_iload_n hx hb dX2_ofCycle_8 rfl (lv_at hl 2 rfl) ?_
    refine lv_if_lt (tgt := 28) hx hb dX2_ofCycle_9 rfl (fun c3 => ?_) (fun c3 => ?_)
    · have hrun := p_pos hrun c3
      refine lv_ldc (v := (-2000000001)) hx hb C.2.2.2.1 (C.2.2.2.2 _ k2_ofCycle_30) dX2_ofCycle_28 ?_
      cases hrun
      exact rS_i C hr hlk hQ (nbi _) rfl dX2_ofCycle_30
    · have hrun := p_neg hrun c3
      refine lv_iload_n hx hb dX2_ofCycle_12 rfl (lv_at hl 2 rfl) ?_
      refine lv_iconst (v := 5) hx hb dX2_ofCycle_13 rfl ?_
      refine lv_icmp_ge (tgt := 28) hx hb dX2_ofCycle_14 rfl (fun c4 => ?_) (fun c4 => ?_)
      · have hrun := p_pos hrun c4
        refine lv_ldc (v := (-2000000001)) hx hb C.2.2.2.1 (C.2.2.2.2 _ k2_ofCycle_30) dX2_ofCycle_28 ?_
        cases hrun
        exact rS_i C hr hlk hQ (nbi _) rfl dX2_ofCycle_30
      · have hrun := p_neg hrun c4
        refine lv_aload_n hx hb dX2_ofCycle_17 rfl (lv_at hl 0 rfl) ?_
        refine gX_R_cycles C inm2_ofCycle_X2 hK hP fl2_ofCycle_16 dX2_ofCycle_18 ?_
        refine lv_iload_n hx hb dX2_ofCycle_21 rfl (lv_at hl 2 rfl) ?_
        obtain ⟨b5, hrun⟩ := p_chk hrun
        refine axX_cy C hK hP b5 dX2_ofCycle_22 ?_
        refine lv_iload_n hx hb dX2_ofCycle_23 rfl (lv_at hl 1 rfl) ?_
        obtain ⟨b6, hrun⟩ := p_chk hrun
        refine ldX_cy C hK hP b5 b6 dX2_ofCycle_24 ?_
        refine lv_goto (tgt := 30) hx hb dX2_ofCycle_25 rfl ?_
        cases hrun
        exact rS_i C hr hlk hQ (nbi _) rfl dX2_ofCycle_30

abbrev rm2_setForm : Room := { frames := 1, cells := 0, slots := 0, locals := 21 }
theorem fl2_setForm_13 : Cond.fieldLink RX2 13 "RiverWords$River" "forms" "[[I" ∈ wsX2_setForm := by decide +kernel
theorem inm2_setForm_X2 : ∀ w ∈ wsX20, w ∈ wsX2_setForm := by decide +kernel
theorem hd2_setForm : okD yX2_setForm 3 := by decide +kernel
set_option maxHeartbeats 8000000 in
set_option maxRecDepth 100000 in
theorem c2_setForm {x1 : Int32} {x2 : Int32} {x3 : Int32} {res : (Nat → Nat → Int32)} (hrun : P2_setForm v_rsize v_fo x1 x2 x3 = some res) : Met l yX2_setForm wsX2_setForm rm2_setForm (va_Pc [.ref (ad 4), .int x1, .int x2, .int x3] (PE D (tyX cI cR cG) sz (WX0 ad fa ca wad cI cR cG v_wn) (WX ad fa ca wad cI cR cG v_roadCount v_readings v_psize v_good v_pbits v_letters v_afterLetter v_codes v_disc v_rsize v_cycleCount v_fo v_cy v_s v_closed v_traces v_crossings v_db_bits v_db_size v_db_allBits v_db_a v_db_b v_db_c v_db_d v_dn_bits v_dn_size v_dn_allBits v_dn_a v_dn_b v_dn_c v_dn_d v_wn v_wv))) (va_Qv (fun _ : Unit => True) (fun _ t => va_P D vwCl (WX ad fa ca wad cI cR cG v_roadCount v_readings v_psize v_good v_pbits v_letters v_afterLetter v_codes v_disc v_rsize v_cycleCount res v_cy v_s v_closed v_traces v_crossings v_db_bits v_db_size v_db_allBits v_db_a v_db_b v_db_c v_db_d v_dn_bits v_dn_size v_dn_allBits v_dn_a v_dn_b v_dn_c v_dn_d v_wn v_wv) t.heap) (va_A (WX0 ad fa ca wad cI cR cG v_wn) sz)) 0 0 (va_A (WX0 ad fa ca wad cI cR cG v_wn) sz) := by
  refine E_in (cc := cX2_setForm) (maxL := 4) (ret := none) (by decide) rfl (Nat.le_of_ble_eq_true rfl) ?_
  intro p e s m args below meth c ls Q hQ C hr hlk hK hN hD hA I hl
  have C : CallFix p m c cX2_setForm 4 s args wsX2_setForm RX2 := C
  have hx := C.1
  have hb := C.2.1
  have hl : lv_has ls 4 [(0, .ref (ad 4)), (1, .int x1), (2, .int x2), (3, .int x3)] := hl
  unfold P2_setForm at hrun
  refine lv_aload_n hx hb dX2_setForm_0 rfl (lv_at hl 0 rfl) ?_
  refine lv_iload_n hx hb dX2_setForm_1 rfl (lv_at hl 1 rfl) ?_
  obtain ⟨r1, h_r1, hrun⟩ := p_bnd hrun
  refine jVS_i (rest := []) C (c2_hasForm h_r1) gX2_setForm_X2_hasForm hd2_hasForm hK hN I.1 rcR rfl ⟨rfl, rfl⟩ ⟨Nat.le_of_ble_eq_true rfl, Nat.le_of_ble_eq_true rfl⟩ rfl hl.1 rfl (Nat.le_of_ble_eq_true rfl) ⟨Nat.le_of_ble_eq_true rfl, Nat.le_of_ble_eq_true rfl⟩ dX2_setForm_2 ?_
  refine lv_if_eq (tgt := 27) hx hb dX2_setForm_5 rfl (fun c2 => ?_) (fun c2 => ?_)
  · have hrun := p_pos hrun c2
    cases hrun
    exact rE_v C hr hlk hQ I dX2_setForm_27
  · have hrun := p_neg hrun c2
    refine lv_iload_n hx hb dX2_setForm_8 rfl (lv_at hl 2 rfl) ?_
    refine lv_if_lt (tgt := 27) hx hb dX2_setForm_9 rfl (fun c3 => ?_) (fun c3 => ?_)
    · have hrun := p_pos hrun c3
      cases hrun
      exact rE_v C hr hlk hQ I dX2_setForm_27
    · have hrun := p_neg hrun c3
      refine lv_iload_n hx hb dX2_setForm_12 rfl (lv_at hl 2 rfl) ?_
      refine lv_bipush (v := 8) hx hb dX2_setForm_13 rfl ?_
      refine lv_icmp_ge (tgt := 27) hx hb dX2_setForm_15 rfl (fun c4 => ?_) (fun c4 => ?_)
      · have hrun := p_pos hrun c4
        cases hrun
        exact rE_v C hr hlk hQ I dX2_setForm_27
      · have hrun := p_neg hrun c4
        refine lv_aload_n hx hb dX2_setForm_18 rfl (lv_at hl 0 rfl) ?_
        refine gX_R_forms C inm2_setForm_X2 hK I.1 fl2_setForm_13 dX2_setForm_19 ?_
        refine lv_iload_n hx hb dX2_setForm_22 rfl (lv_at hl 2 rfl) ?_
        obtain ⟨b5, hrun⟩ := p_chk hrun
        refine axX_fo C hK I.1 b5 dX2_setForm_23 ?_
        refine lv_iload_n hx hb dX2_setForm_24 rfl (lv_at hl 1 rfl) ?_
        refine lv_iload_n hx hb dX2_setForm_25 rfl (lv_at hl 3 rfl) ?_
        obtain ⟨b6, hrun⟩ := p_chk hrun
        refine stX_fo C hK hD I b5 b6 dX2_setForm_26 (fun H locs I => ?_)
        cases hrun
        exact rE_v C hr hlk hQ I dX2_setForm_27

abbrev rm2_setCycle : Room := { frames := 1, cells := 0, slots := 0, locals := 21 }
theorem fl2_setCycle_16 : Cond.fieldLink RX2 16 "RiverWords$River" "cycles" "[[I" ∈ wsX2_setCycle := by decide +kernel
theorem inm2_setCycle_X2 : ∀ w ∈ wsX20, w ∈ wsX2_setCycle := by decide +kernel
theorem hd2_setCycle : okD yX2_setCycle 3 := by decide +kernel
set_option maxHeartbeats 8000000 in
set_option maxRecDepth 100000 in
theorem c2_setCycle {x1 : Int32} {x2 : Int32} {x3 : Int32} {res : (Nat → Nat → Int32)} (hrun : P2_setCycle v_cycleCount v_cy x1 x2 x3 = some res) : Met l yX2_setCycle wsX2_setCycle rm2_setCycle (va_Pc [.ref (ad 4), .int x1, .int x2, .int x3] (PE D (tyX cI cR cG) sz (WX0 ad fa ca wad cI cR cG v_wn) (WX ad fa ca wad cI cR cG v_roadCount v_readings v_psize v_good v_pbits v_letters v_afterLetter v_codes v_disc v_rsize v_cycleCount v_fo v_cy v_s v_closed v_traces v_crossings v_db_bits v_db_size v_db_allBits v_db_a v_db_b v_db_c v_db_d v_dn_bits v_dn_size v_dn_allBits v_dn_a v_dn_b v_dn_c v_dn_d v_wn v_wv))) (va_Qv (fun _ : Unit => True) (fun _ t => va_P D vwCl (WX ad fa ca wad cI cR cG v_roadCount v_readings v_psize v_good v_pbits v_letters v_afterLetter v_codes v_disc v_rsize v_cycleCount v_fo res v_s v_closed v_traces v_crossings v_db_bits v_db_size v_db_allBits v_db_a v_db_b v_db_c v_db_d v_dn_bits v_dn_size v_dn_allBits v_dn_a v_dn_b v_dn_c v_dn_d v_wn v_wv) t.heap) (va_A (WX0 ad fa ca wad cI cR cG v_wn) sz)) 0 0 (va_A (WX0 ad fa ca wad cI cR cG v_wn) sz) := by
  refine E_in (cc := cX2_setCycle) (maxL := 4) (ret := none) (by decide) rfl (Nat.le_of_ble_eq_true rfl) ?_
  intro p e s m args below meth c ls Q hQ C hr hlk hK hN hD hA I hl
  have C : CallFix p m c cX2_setCycle 4 s args wsX2_setCycle RX2 := C
  have hx := C.1
  have hb := C.2.1
  have hl : lv_has ls 4 [(0, .ref (ad 4)), (1, .int x1), (2, .int x2), (3, .int x3)] := hl
  unfold P2_setCycle at hrun
  refine lv_aload_n hx hb dX2_setCycle_0 rfl (lv_at hl 0 rfl) ?_
  refine lv_iload_n hx hb dX2_setCycle_1 rfl (lv_at hl 1 rfl) ?_
  obtain ⟨r1, h_r1, hrun⟩ := p_bnd hrun
  refine jVS_i (rest := []) C (c2_hasCycle h_r1) gX2_setCycle_X2_hasCycle hd2_hasCycle hK hN I.1 rcR rfl ⟨rfl, rfl⟩ ⟨Nat.le_of_ble_eq_true rfl, Nat.le_of_ble_eq_true rfl⟩ rfl hl.1 rfl (Nat.le_of_ble_eq_true rfl) ⟨Nat.le_of_ble_eq_true rfl, Nat.le_of_ble_eq_true rfl⟩ dX2_setCycle_2 ?_
  refine lv_if_eq (tgt := 26) hx hb dX2_setCycle_5 rfl (fun c2 => ?_) (fun c2 => ?_)
  · have hrun := p_pos hrun c2
    cases hrun
    exact rE_v C hr hlk hQ I dX2_setCycle_26
  · have hrun := p_neg hrun c2
    refine lv_iload_n hx hb dX2_setCycle_8 rfl (lv_at hl 2 rfl) ?_
    refine lv_if_lt (tgt := 26) hx hb dX2_setCycle_9 rfl (fun c3 => ?_) (fun c3 => ?_)
    · have hrun := p_pos hrun c3
      cases hrun
      exact rE_v C hr hlk hQ I dX2_setCycle_26
    · have hrun := p_neg hrun c3
      refine lv_iload_n hx hb dX2_setCycle_12 rfl (lv_at hl 2 rfl) ?_
      refine lv_iconst (v := 5) hx hb dX2_setCycle_13 rfl ?_
      refine lv_icmp_ge (tgt := 26) hx hb dX2_setCycle_14 rfl (fun c4 => ?_) (fun c4 => ?_)
      · have hrun := p_pos hrun c4
        cases hrun
        exact rE_v C hr hlk hQ I dX2_setCycle_26
      · have hrun := p_neg hrun c4
        refine lv_aload_n hx hb dX2_setCycle_17 rfl (lv_at hl 0 rfl) ?_
        refine gX_R_cycles C inm2_setCycle_X2 hK I.1 fl2_setCycle_16 dX2_setCycle_18 ?_
        refine lv_iload_n hx hb dX2_setCycle_21 rfl (lv_at hl 2 rfl) ?_
        obtain ⟨b5, hrun⟩ := p_chk hrun
        refine axX_cy C hK I.1 b5 dX2_setCycle_22 ?_
        refine lv_iload_n hx hb dX2_setCycle_23 rfl (lv_at hl 1 rfl) ?_
        refine lv_iload_n hx hb dX2_setCycle_24 rfl (lv_at hl 3 rfl) ?_
        obtain ⟨b6, hrun⟩ := p_chk hrun
        refine stX_cy C hK hD I b5 b6 dX2_setCycle_25 (fun H locs I => ?_)
        cases hrun
        exact rE_v C hr hlk hQ I dX2_setCycle_26

abbrev rm2_addForm : Room := { frames := 2, cells := 0, slots := 0, locals := 44 }
theorem fl2_addForm_19 : Cond.fieldLink RX2 19 "RiverWords$River" "size" "I" ∈ wsX2_addForm := by decide +kernel
theorem k2_addForm_30 : Cond.constant RX2 30 (-2000000001) ∈ wsX2_addForm := by decide +kernel
theorem inm2_addForm_X2 : ∀ w ∈ wsX20, w ∈ wsX2_addForm := by decide +kernel
theorem hd2_addForm : okD yX2_addForm 3 := by decide +kernel
set_option maxHeartbeats 8000000 in
set_option maxRecDepth 100000 in
theorem c2_addForm {x1 : Int32} {x2 : Int32} {x3 : Int32} {res : Int32 × (Nat → Nat → Int32)} (hrun : P2_addForm v_rsize v_fo x1 x2 x3 = some res) : Met l yX2_addForm wsX2_addForm rm2_addForm (va_Pc [.ref (ad 4), .int x1, .int x2, .int x3] (PE D (tyX cI cR cG) sz (WX0 ad fa ca wad cI cR cG v_wn) (WX ad fa ca wad cI cR cG v_roadCount v_readings v_psize v_good v_pbits v_letters v_afterLetter v_codes v_disc v_rsize v_cycleCount v_fo v_cy v_s v_closed v_traces v_crossings v_db_bits v_db_size v_db_allBits v_db_a v_db_b v_db_c v_db_d v_dn_bits v_dn_size v_dn_allBits v_dn_a v_dn_b v_dn_c v_dn_d v_wn v_wv))) (va_Qv (fun _ : Unit => True) (fun _ t => va_P D vwCl (WX ad fa ca wad cI cR cG v_roadCount v_readings v_psize v_good v_pbits v_letters v_afterLetter v_codes v_disc res.1 v_cycleCount res.2 v_cy v_s v_closed v_traces v_crossings v_db_bits v_db_size v_db_allBits v_db_a v_db_b v_db_c v_db_d v_dn_bits v_dn_size v_dn_allBits v_dn_a v_dn_b v_dn_c v_dn_d v_wn v_wv) t.heap) (va_A (WX0 ad fa ca wad cI cR cG v_wn) sz)) 0 0 (va_A (WX0 ad fa ca wad cI cR cG v_wn) sz) := by
  refine E_in (cc := cX2_addForm) (maxL := 5) (ret := none) (by decide) rfl (Nat.le_of_ble_eq_true rfl) ?_
  intro p e s m args below meth c ls Q hQ C hr hlk hK hN hD hA I hl
  have C : CallFix p m c cX2_addForm 5 s args wsX2_addForm RX2 := C
  have hx := C.1
  have hb := C.2.1
  have hl : lv_has ls 5 [(0, .ref (ad 4)), (1, .int x1), (2, .int x2), (3, .int x3)] := hl
  unfold P2_addForm at hrun
  refine lv_aload_n hx hb dX2_addForm_0 rfl (lv_at hl 0 rfl) ?_
  refine gX_R_size C inm2_addForm_X2 hK I.1 fl2_addForm_19 dX2_addForm_1 ?_
  refine lv_sipush (v := 320) hx hb dX2_addForm_4 rfl ?_
  refine lv_icmp_lt (tgt := 11) hx hb dX2_addForm_7 rfl (fun c1 => ?_) (fun c1 => ?_)
  · have hrun := p_pos hrun c1
    refine lv_aload_n hx hb dX2_addForm_11 rfl (lv_at hl 0 rfl) ?_
    refine gX_R_size C inm2_addForm_X2 hK I.1 fl2_addForm_19 dX2_addForm_12 ?_
    refine lv_istore (lv' := [(4, .int v_rsize), (0, .ref (ad 4)), (1, .int x1), (2, .int x2), (3, .int x3)]) hx hb dX2_addForm_15 hl (by decide) rfl (fun ls hl => ?_)
    refine lv_aload_n hx hb dX2_addForm_17 rfl (lv_at hl 1 rfl) ?_
    refine lv_dup hx hb dX2_addForm_18 rfl ?_
    refine gX_R_size C inm2_addForm_X2 hK I.1 fl2_addForm_19 dX2_addForm_19 ?_
    refine lv_iconst (v := 1) hx hb dX2_addForm_22 rfl ?_
    refine lv_iadd hx hb dX2_addForm_23 ?_
    refine pX_R_size C inm2_addForm_X2 hK hD I fl2_addForm_19 dX2_addForm_24 (fun H locs I => ?_)
    refine lv_aload_n hx hb dX2_addForm_27 rfl (lv_at hl 1 rfl) ?_
    refine lv_iload hx hb dX2_addForm_28 (lv_at hl 0 rfl) ?_
    refine lv_iconst (v := 0) hx hb dX2_addForm_30 rfl ?_
    refine lv_iload_n hx hb dX2_addForm_31 rfl (lv_at hl 2 rfl) ?_
    obtain ⟨r2, h_r2, hrun⟩ := p_bnd hrun
    refine jVE_v (rest := []) C (c2_setForm h_r2) gX2_addForm_X2_setForm hd2_setForm hK hN hD hA I rcR rfl ⟨rfl, rfl⟩ ⟨Nat.le_of_ble_eq_true rfl, Nat.le_of_ble_eq_true rfl⟩ rfl hl.1 rfl (Nat.le_of_ble_eq_true rfl) ⟨Nat.le_of_ble_eq_true rfl, Nat.le_of_ble_eq_true rfl⟩ dX2_addForm_32 (fun H locs I => ?_)
    refine lv_aload_n hx hb dX2_addForm_35 rfl (lv_at hl 1 rfl) ?_
    refine lv_iload hx hb dX2_addForm_36 (lv_at hl 0 rfl) ?_
    refine lv_iconst (v := 1) hx hb dX2_addForm_38 rfl ?_
    refine lv_iload_n hx hb dX2_addForm_39 rfl (lv_at hl 3 rfl) ?_
    obtain ⟨r3, h_r3, hrun⟩ := p_bnd hrun
    refine jVE_v (rest := []) C (c2_setForm h_r3) gX2_addForm_X2_setForm hd2_setForm hK hN hD hA I rcR rfl ⟨rfl, rfl⟩ ⟨Nat.le_of_ble_eq_true rfl, Nat.le_of_ble_eq_true rfl⟩ rfl hl.1 rfl (Nat.le_of_ble_eq_true rfl) ⟨Nat.le_of_ble_eq_true rfl, Nat.le_of_ble_eq_true rfl⟩ dX2_addForm_40 (fun H locs I => ?_)
    refine lv_aload_n hx hb dX2_addForm_43 rfl (lv_at hl 1 rfl) ?_
    refine lv_iload hx hb dX2_addForm_44 (lv_at hl 0 rfl) ?_
    refine lv_iconst (v := 2) hx hb dX2_addForm_46 rfl ?_
    refine lv_iload_n hx hb dX2_addForm_47 rfl (lv_at hl 4 rfl) ?_
    obtain ⟨r4, h_r4, hrun⟩ := p_bnd hrun
    refine jVE_v (rest := []) C (c2_setForm h_r4) gX2_addForm_X2_setForm hd2_setForm hK hN hD hA I rcR rfl ⟨rfl, rfl⟩ ⟨Nat.le_of_ble_eq_true rfl, Nat.le_of_ble_eq_true rfl⟩ rfl hl.1 rfl (Nat.le_of_ble_eq_true rfl) ⟨Nat.le_of_ble_eq_true rfl, Nat.le_of_ble_eq_true rfl⟩ dX2_addForm_48 (fun H locs I => ?_)
    refine lv_aload_n hx hb dX2_addForm_51 rfl (lv_at hl 1 rfl) ?_
    refine lv_iload hx hb dX2_addForm_52 (lv_at hl 0 rfl) ?_
    refine lv_iconst (v := 3) hx hb dX2_addForm_54 rfl ?_
    refine lv_ldc (v := (-2000000001)) hx hb C.2.2.2.1 (C.2.2.2.2 _ k2_addForm_30) dX2_addForm_55 ?_
    obtain ⟨r5, h_r5, hrun⟩ := p_bnd hrun
    refine jVE_v (rest := []) C (c2_setForm h_r5) gX2_addForm_X2_setForm hd2_setForm hK hN hD hA I rcR rfl ⟨rfl, rfl⟩ ⟨Nat.le_of_ble_eq_true rfl, Nat.le_of_ble_eq_true rfl⟩ rfl hl.1 rfl (Nat.le_of_ble_eq_true rfl) ⟨Nat.le_of_ble_eq_true rfl, Nat.le_of_ble_eq_true rfl⟩ dX2_addForm_57 (fun H locs I => ?_)
    cases hrun
    exact rE_v C hr hlk hQ I dX2_addForm_60
  · have hrun := p_neg hrun c1
    cases hrun
    exact rE_v C hr hlk hQ I dX2_addForm_10

end X92
