section X93
variable {l : Launch} {D : va_G} {sz : Nat}
variable {ad fa ca wad : Nat → Nat} {cI cR cG : ClassId}
variable {v_roadCount v_readings v_psize v_good v_pbits v_letters v_afterLetter v_disc v_rsize v_cycleCount v_closed v_traces v_crossings v_db_bits v_db_size v_db_allBits v_db_a v_db_b v_db_c v_db_d v_dn_bits v_dn_size v_dn_allBits v_dn_a v_dn_b v_dn_c v_dn_d : Int32}
variable {v_s : Int64}
variable {v_codes : Nat → Int32}
variable {v_fo v_cy v_wv : Nat → Nat → Int32}
variable {v_wn : Nat}
abbrev rm2_addForms : Room := { frames := 3, cells := 0, slots := 0, locals := 68 }
theorem ns2_addForms_X4_commonDivisor : Cond.static yX4_commonDivisor ∈ wsX2_addForms := by decide +kernel
theorem ni2_addForms : Cond.initialized RX4 ∈ wsX2_addForms := by decide +kernel
theorem hd2_addForms : okD yX2_addForms 2 := by decide +kernel
set_option maxHeartbeats 8000000 in
set_option maxRecDepth 100000 in
theorem c2_addForms {x1 : Int32} {x2 : Int32} {res : Int32 × (Nat → Nat → Int32)} (hrun : P2_addForms v_rsize v_fo x1 x2 = some res) : Met l yX2_addForms wsX2_addForms rm2_addForms (va_Pc [.ref (ad 4), .int x1, .int x2] (PE D (tyX cI cR cG) sz (WX0 ad fa ca wad cI cR cG v_wn) (WX ad fa ca wad cI cR cG v_roadCount v_readings v_psize v_good v_pbits v_letters v_afterLetter v_codes v_disc v_rsize v_cycleCount v_fo v_cy v_s v_closed v_traces v_crossings v_db_bits v_db_size v_db_allBits v_db_a v_db_b v_db_c v_db_d v_dn_bits v_dn_size v_dn_allBits v_dn_a v_dn_b v_dn_c v_dn_d v_wn v_wv))) (va_Qv (fun _ : Unit => True) (fun _ t => va_P D vwCl (WX ad fa ca wad cI cR cG v_roadCount v_readings v_psize v_good v_pbits v_letters v_afterLetter v_codes v_disc res.1 v_cycleCount res.2 v_cy v_s v_closed v_traces v_crossings v_db_bits v_db_size v_db_allBits v_db_a v_db_b v_db_c v_db_d v_dn_bits v_dn_size v_dn_allBits v_dn_a v_dn_b v_dn_c v_dn_d v_wn v_wv) t.heap) (va_A (WX0 ad fa ca wad cI cR cG v_wn) sz)) 0 0 (va_A (WX0 ad fa ca wad cI cR cG v_wn) sz) := by
  refine E_in (cc := cX2_addForms) (maxL := 4) (ret := none) (by decide) rfl (Nat.le_of_ble_eq_true rfl) ?_
  intro p e s m args below meth c ls Q hQ C hr hlk hK hN hD hA I hl
  have C : CallFix p m c cX2_addForms 4 s args wsX2_addForms RX2 := C
  have hx := C.1
  have hb := C.2.1
  have hl : lv_has ls 4 [(0, .ref (ad 4)), (1, .int x1), (2, .int x2)] := hl
  have loop_2 : ∀ (n : Nat) (v_rsize : Int32) (v_fo : Nat → Nat → Int32) (x3 : Int32) (out : Int32 × (Nat → Nat → Int32)), P2_addForms_2 x1 x2 n v_rsize v_fo x3 = some out → (∀ (H : Heap) (locs : List Loc) (ls : Array Slot), IM D (va_A (WX0 ad fa ca wad cI cR cG v_wn) sz) s.heap H locs (WX ad fa ca wad cI cR cG v_roadCount v_readings v_psize v_good v_pbits v_letters v_afterLetter v_codes v_disc out.1 v_cycleCount out.2 v_cy v_s v_closed v_traces v_crossings v_db_bits v_db_size v_db_allBits v_db_a v_db_b v_db_c v_db_d v_dn_bits v_dn_size v_dn_allBits v_dn_a v_dn_b v_dn_c v_dn_d v_wn v_wv) → lv_has ls 4 [] → W p l e rm2_addForms s m args below meth c H locs 0 0 Q (F0 m 44 ls [])) → ∀ (H : Heap) (locs : List Loc) (ls : Array Slot), IM D (va_A (WX0 ad fa ca wad cI cR cG v_wn) sz) s.heap H locs (WX ad fa ca wad cI cR cG v_roadCount v_readings v_psize v_good v_pbits v_letters v_afterLetter v_codes v_disc v_rsize v_cycleCount v_fo v_cy v_s v_closed v_traces v_crossings v_db_bits v_db_size v_db_allBits v_db_a v_db_b v_db_c v_db_d v_dn_bits v_dn_size v_dn_allBits v_dn_a v_dn_b v_dn_c v_dn_d v_wn v_wv) → lv_has ls 4 [(0, .ref (ad 4)), (1, .int x1), (2, .int x2), (3, .int x3)] → W p l e rm2_addForms s m args below meth c H locs 0 0 Q (F0 m 2 ls []) := by
    intro n
    induction n with
    | zero =>
      intro v_rsize v_fo x3 out hrun K H locs ls I hl
      cases hrun
    | succ n ih =>
      intro v_rsize v_fo x3 out hrun K H locs ls I hl
      rw [P2_addForms_2] at hrun
      refine lv_iload_n hx hb dX2_addForms_2 rfl (lv_at hl 3 rfl) ?_
      refine lv_iload_n hx hb dX2_addForms_3 rfl (lv_at hl 2 rfl) ?_
      refine lv_icmp_gt (tgt := 44) hx hb dX2_addForms_4 rfl (fun c1 => ?_) (fun c1 => ?_)
      · have hrun := p_pos hrun c1
        cases hrun
        exact K _ _ _ I (lv_sub hl [] rfl)
      · have hrun := p_neg hrun c1
        refine lv_iload_n hx hb dX2_addForms_7 rfl (lv_at hl 2 rfl) ?_
        refine lv_iload_n hx hb dX2_addForms_8 rfl (lv_at hl 3 rfl) ?_
        obtain ⟨z2, hrun⟩ := p_chk hrun
        refine j_irem hx hb dX2_addForms_9 z2 ?_
        refine lv_if_ne (tgt := 38) hx hb dX2_addForms_10 rfl (fun c3 => ?_) (fun c3 => ?_)
        · have hrun := p_neg hrun c3
          refine lv_iinc (v := x3 + 1) (lv' := [(3, .int (x3 + 1)), (0, .ref (ad 4)), (1, .int x1), (2, .int x2)]) hx hb dX2_addForms_38 hl (k := 3) rfl rfl (by decide) rfl (fun ls hl => ?_)
          refine lv_goto (tgt := 2) hx hb dX2_addForms_41 rfl ?_
          exact ih v_rsize v_fo (x3 + 1) out hrun K _ _ _ I (lv_sub hl [1, 2, 3, 0] rfl)
        · have hrun := p_pos hrun c3
          refine lv_iload_n hx hb dX2_addForms_13 rfl (lv_at hl 3 rfl) ?_
          refine lv_iload_n hx hb dX2_addForms_14 rfl (lv_at hl 1 rfl) ?_
          obtain ⟨r4, h_r4, hrun⟩ := p_bnd hrun
          refine jNS_i (rest := []) C (c4_commonDivisor h_r4) gX2_addForms_X4_commonDivisor_n50 hN.2.2.1 ni2_addForms ns2_addForms_X4_commonDivisor hd4_commonDivisor rfl ⟨rfl, rfl⟩ ⟨Nat.le_of_ble_eq_true rfl, Nat.le_of_ble_eq_true rfl⟩ rfl hl.1 rfl (Nat.le_of_ble_eq_true rfl) ⟨Nat.le_of_ble_eq_true rfl, Nat.le_of_ble_eq_true rfl⟩ dX2_addForms_15 ?_
          refine lv_iload_n hx hb dX2_addForms_18 rfl (lv_at hl 2 rfl) ?_
          refine lv_iload_n hx hb dX2_addForms_19 rfl (lv_at hl 3 rfl) ?_
          obtain ⟨z5, hrun⟩ := p_chk hrun
          refine lv_idiv hx hb dX2_addForms_20 z5 ?_
          obtain ⟨r6, h_r6, hrun⟩ := p_bnd hrun
          refine jNS_i (rest := []) C (c4_commonDivisor h_r6) gX2_addForms_X4_commonDivisor_n50 hN.2.2.1 ni2_addForms ns2_addForms_X4_commonDivisor hd4_commonDivisor rfl ⟨rfl, rfl⟩ ⟨Nat.le_of_ble_eq_true rfl, Nat.le_of_ble_eq_true rfl⟩ rfl hl.1 rfl (Nat.le_of_ble_eq_true rfl) ⟨Nat.le_of_ble_eq_true rfl, Nat.le_of_ble_eq_true rfl⟩ dX2_addForms_21 ?_
          refine lv_iconst (v := 1) hx hb dX2_addForms_24 rfl ?_
          refine lv_icmp_ne (tgt := 38) hx hb dX2_addForms_25 rfl (fun c7 => ?_) (fun c7 => ?_)
          · have hrun := p_neg hrun c7
            refine lv_iinc (v := x3 + 1) (lv' := [(3, .int (x3 + 1)), (0, .ref (ad 4)), (1, .int x1), (2, .int x2)]) hx hb dX2_addForms_38 hl (k := 3) rfl rfl (by decide) rfl (fun ls hl => ?_)
            refine lv_goto (tgt := 2) hx hb dX2_addForms_41 rfl ?_
            exact ih v_rsize v_fo (x3 + 1) out hrun K _ _ _ I (lv_sub hl [1, 2, 3, 0] rfl)
          · have hrun := p_pos hrun c7
            refine lv_aload_n hx hb dX2_addForms_28 rfl (lv_at hl 0 rfl) ?_
            refine lv_iload_n hx hb dX2_addForms_29 rfl (lv_at hl 3 rfl) ?_
            refine lv_iload_n hx hb dX2_addForms_30 rfl (lv_at hl 1 rfl) ?_
            refine lv_iload_n hx hb dX2_addForms_31 rfl (lv_at hl 2 rfl) ?_
            refine lv_iload_n hx hb dX2_addForms_32 rfl (lv_at hl 3 rfl) ?_
            obtain ⟨z8, hrun⟩ := p_chk hrun
            refine lv_idiv hx hb dX2_addForms_33 z8 ?_
            refine lv_ineg hx hb dX2_addForms_34 ?_
            obtain ⟨r9, h_r9, hrun⟩ := p_bnd hrun
            refine jVE_v (rest := []) C (c2_addForm h_r9) gX2_addForms_X2_addForm hd2_addForm hK hN hD hA I rcR rfl ⟨rfl, rfl⟩ ⟨Nat.le_of_ble_eq_true rfl, Nat.le_of_ble_eq_true rfl⟩ rfl hl.1 rfl (Nat.le_of_ble_eq_true rfl) ⟨Nat.le_of_ble_eq_true rfl, Nat.le_of_ble_eq_true rfl⟩ dX2_addForms_35 (fun H locs I => ?_)
            refine lv_iinc (v := x3 + 1) (lv' := [(3, .int (x3 + 1)), (0, .ref (ad 4)), (1, .int x1), (2, .int x2)]) hx hb dX2_addForms_38 hl (k := 3) rfl rfl (by decide) rfl (fun ls hl => ?_)
            refine lv_goto (tgt := 2) hx hb dX2_addForms_41 rfl ?_
            exact ih r9.1 r9.2 (x3 + 1) out hrun K _ _ _ I (lv_sub hl [1, 2, 3, 0] rfl)
  unfold P2_addForms at hrun
  refine lv_iconst (v := 1) hx hb dX2_addForms_0 rfl ?_
  refine lv_istore_n (lv' := [(3, .int 1), (0, .ref (ad 4)), (1, .int x1), (2, .int x2)]) hx hb dX2_addForms_1 rfl hl (by decide) rfl (fun ls hl => ?_)
  obtain ⟨o10, h_o10, hrun⟩ := p_bnd hrun
  refine loop_2 FU v_rsize v_fo 1 o10 h_o10 (fun H locs ls I hl => ?_) _ _ _ I (lv_sub hl [1, 2, 3, 0] rfl)
  cases hrun
  exact rE_v C hr hlk hQ I dX2_addForms_44

abbrev rm2_isAfter : Room := { frames := 2, cells := 0, slots := 0, locals := 43 }
theorem hd2_isAfter : okD yX2_isAfter 3 := by decide +kernel
set_option maxHeartbeats 8000000 in
set_option maxRecDepth 100000 in
theorem c2_isAfter {x1 : Int32} {x2 : Int32} {x3 : Int32} {res : Int32} (hrun : P2_isAfter v_rsize v_fo x1 x2 x3 = some res) : Met l yX2_isAfter wsX2_isAfter rm2_isAfter (va_Pc [.ref (ad 4), .int x1, .int x2, .int x3] (PS D (tyX cI cR cG) (WX ad fa ca wad cI cR cG v_roadCount v_readings v_psize v_good v_pbits v_letters v_afterLetter v_codes v_disc v_rsize v_cycleCount v_fo v_cy v_s v_closed v_traces v_crossings v_db_bits v_db_size v_db_allBits v_db_a v_db_b v_db_c v_db_d v_dn_bits v_dn_size v_dn_allBits v_dn_a v_dn_b v_dn_c v_dn_d v_wn v_wv))) (vp_Si (fun x => x = res)) 0 0 (fun _ => False) := by
  refine S_in (cc := cX2_isAfter) (maxL := 5) (ret := (some .boolean)) (by decide) rfl (Nat.le_of_ble_eq_true rfl) ?_
  intro p e s m args below meth c ls Q hQ C hr hlk hK hN hP hl
  have C : CallFix p m c cX2_isAfter 5 s args wsX2_isAfter RX2 := C
  have hx := C.1
  have hb := C.2.1
  have hl : lv_has ls 5 [(0, .ref (ad 4)), (1, .int x1), (2, .int x2), (3, .int x3)] := hl
  unfold P2_isAfter at hrun
  refine lv_aload_n hx hb dX2_isAfter_0 rfl (lv_at hl 0 rfl) ?_
  refine lv_iload_n hx hb dX2_isAfter_1 rfl (lv_at hl 1 rfl) ?_
  refine lv_iconst (v := 1) hx hb dX2_isAfter_2 rfl ?_
  obtain ⟨r1, h_r1, hrun⟩ := p_bnd hrun
  refine jVS_i (rest := []) C (c2_ofForm h_r1) gX2_isAfter_X2_ofForm hd2_ofForm hK hN hP rcR rfl ⟨rfl, rfl⟩ ⟨Nat.le_of_ble_eq_true rfl, Nat.le_of_ble_eq_true rfl⟩ rfl hl.1 rfl (Nat.le_of_ble_eq_true rfl) ⟨Nat.le_of_ble_eq_true rfl, Nat.le_of_ble_eq_true rfl⟩ dX2_isAfter_3 ?_
  refine lv_istore (lv' := [(4, .int r1), (0, .ref (ad 4)), (1, .int x1), (2, .int x2), (3, .int x3)]) hx hb dX2_isAfter_6 hl (by decide) rfl (fun ls hl => ?_)
  refine lv_iload hx hb dX2_isAfter_8 (lv_at hl 0 rfl) ?_
  refine lv_iload_n hx hb dX2_isAfter_10 rfl (lv_at hl 4 rfl) ?_
  refine lv_icmp_gt (tgt := 30) hx hb dX2_isAfter_11 rfl (fun c2 => ?_) (fun c2 => ?_)
  · have hrun := p_pos hrun c2
    refine lv_iconst (v := 1) hx hb dX2_isAfter_30 rfl ?_
    refine lv_goto (tgt := 35) hx hb dX2_isAfter_31 rfl ?_
    cases hrun
    exact rS_i C hr hlk hQ (nb01 (Or.inr rfl)) rfl dX2_isAfter_35
  · have hrun := p_neg hrun c2
    refine lv_iload hx hb dX2_isAfter_14 (lv_at hl 0 rfl) ?_
    refine lv_iload_n hx hb dX2_isAfter_16 rfl (lv_at hl 4 rfl) ?_
    refine lv_icmp_ne (tgt := 34) hx hb dX2_isAfter_17 rfl (fun c3 => ?_) (fun c3 => ?_)
    · have hrun := p_neg hrun c3
      refine lv_iconst (v := 0) hx hb dX2_isAfter_34 rfl ?_
      cases hrun
      exact rS_i C hr hlk hQ (nb01 (Or.inl rfl)) rfl dX2_isAfter_35
    · have hrun := p_pos hrun c3
      refine lv_aload_n hx hb dX2_isAfter_20 rfl (lv_at hl 1 rfl) ?_
      refine lv_iload_n hx hb dX2_isAfter_21 rfl (lv_at hl 2 rfl) ?_
      refine lv_iconst (v := 0) hx hb dX2_isAfter_22 rfl ?_
      obtain ⟨r4, h_r4, hrun⟩ := p_bnd hrun
      refine jVS_i (rest := []) C (c2_ofForm h_r4) gX2_isAfter_X2_ofForm hd2_ofForm hK hN hP rcR rfl ⟨rfl, rfl⟩ ⟨Nat.le_of_ble_eq_true rfl, Nat.le_of_ble_eq_true rfl⟩ rfl hl.1 rfl (Nat.le_of_ble_eq_true rfl) ⟨Nat.le_of_ble_eq_true rfl, Nat.le_of_ble_eq_true rfl⟩ dX2_isAfter_23 ?_
      refine lv_iload_n hx hb dX2_isAfter_26 rfl (lv_at hl 3 rfl) ?_
      refine lv_icmp_le (tgt := 34) hx hb dX2_isAfter_27 rfl (fun c5 => ?_) (fun c5 => ?_)
      · have hrun := p_pos hrun c5
        refine lv_iconst (v := 0) hx hb dX2_isAfter_34 rfl ?_
        cases hrun
        exact rS_i C hr hlk hQ (nb01 (Or.inl rfl)) rfl dX2_isAfter_35
      · have hrun := p_neg hrun c5
        refine lv_iconst (v := 1) hx hb dX2_isAfter_30 rfl ?_
        refine lv_goto (tgt := 35) hx hb dX2_isAfter_31 rfl ?_
        cases hrun
        exact rS_i C hr hlk hQ (nb01 (Or.inr rfl)) rfl dX2_isAfter_35

abbrev rm2_find : Room := { frames := 3, cells := 0, slots := 0, locals := 67 }
theorem fl2_find_19 : Cond.fieldLink RX2 19 "RiverWords$River" "size" "I" ∈ wsX2_find := by decide +kernel
theorem k2_find_30 : Cond.constant RX2 30 (-2000000001) ∈ wsX2_find := by decide +kernel
theorem inm2_find_X2 : ∀ w ∈ wsX20, w ∈ wsX2_find := by decide +kernel
theorem hd2_find : okD yX2_find 3 := by decide +kernel
set_option maxHeartbeats 8000000 in
set_option maxRecDepth 100000 in
theorem c2_find {x1 : Int32} {x2 : Int32} {x3 : Int32} {res : Int32} (hrun : P2_find v_rsize v_fo x1 x2 x3 = some res) : Met l yX2_find wsX2_find rm2_find (va_Pc [.ref (ad 4), .int x1, .int x2, .int x3] (PS D (tyX cI cR cG) (WX ad fa ca wad cI cR cG v_roadCount v_readings v_psize v_good v_pbits v_letters v_afterLetter v_codes v_disc v_rsize v_cycleCount v_fo v_cy v_s v_closed v_traces v_crossings v_db_bits v_db_size v_db_allBits v_db_a v_db_b v_db_c v_db_d v_dn_bits v_dn_size v_dn_allBits v_dn_a v_dn_b v_dn_c v_dn_d v_wn v_wv))) (vp_Si (fun x => x = res)) 0 0 (fun _ => False) := by
  refine S_in (cc := cX2_find) (maxL := 6) (ret := (some .int)) (by decide) rfl (Nat.le_of_ble_eq_true rfl) ?_
  intro p e s m args below meth c ls Q hQ C hr hlk hK hN hP hl
  have C : CallFix p m c cX2_find 6 s args wsX2_find RX2 := C
  have hx := C.1
  have hb := C.2.1
  have hl : lv_has ls 6 [(0, .ref (ad 4)), (1, .int x1), (2, .int x2), (3, .int x3)] := hl
  have loop_8 : ∀ (n : Nat) (x4 : Int32) (x5 : Int32) (out : Int32), P2_find_8 v_rsize v_fo x1 x2 n x4 x5 = some out → (∀ (ls : Array Slot), lv_has ls 6 [(0, .ref (ad 4)), (1, .int x1), (2, .int x2), (3, .int x3), (4, .int out)] → W p l e rm2_find s m args below meth c s.heap [] 0 0 Q (F0 m 55 ls [])) → ∀ (ls : Array Slot), lv_has ls 6 [(0, .ref (ad 4)), (1, .int x1), (2, .int x2), (3, .int x3), (4, .int x4), (5, .int x5)] → W p l e rm2_find s m args below meth c s.heap [] 0 0 Q (F0 m 8 ls []) := by
    intro n
    induction n with
    | zero =>
      intro x4 x5 out hrun K ls hl
      cases hrun
    | succ n ih =>
      intro x4 x5 out hrun K ls hl
      rw [P2_find_8] at hrun
      refine lv_iload hx hb dX2_find_8 (lv_at hl 5 rfl) ?_
      refine lv_if_le (tgt := 55) hx hb dX2_find_10 rfl (fun c1 => ?_) (fun c1 => ?_)
      · have hrun := p_pos hrun c1
        cases hrun
        exact K _ (lv_sub hl [0, 1, 2, 3, 4] rfl)
      · have hrun := p_neg hrun c1
        refine lv_iload hx hb dX2_find_13 (lv_at hl 4 rfl) ?_
        refine lv_iload hx hb dX2_find_15 (lv_at hl 5 rfl) ?_
        refine lv_iadd hx hb dX2_find_17 ?_
        refine lv_aload_n hx hb dX2_find_18 rfl (lv_at hl 0 rfl) ?_
        refine gX_R_size C inm2_find_X2 hK hP fl2_find_19 dX2_find_19 ?_
        refine lv_icmp_ge (tgt := 46) hx hb dX2_find_22 rfl (fun c2 => ?_) (fun c2 => ?_)
        · have hrun := p_pos hrun c2
          refine lv_iload hx hb dX2_find_46 (lv_at hl 5 rfl) ?_
          refine lv_iconst (v := 2) hx hb dX2_find_48 rfl ?_
          refine lv_idiv hx hb dX2_find_49 (by decide) ?_
          refine lv_istore (lv' := [(5, .int (x5 / 2)), (0, .ref (ad 4)), (1, .int x1), (2, .int x2), (3, .int x3), (4, .int x4)]) hx hb dX2_find_50 hl (by decide) rfl (fun ls hl => ?_)
          refine lv_goto (tgt := 8) hx hb dX2_find_52 rfl ?_
          exact ih x4 (x5 / 2) out hrun K _ (lv_sub hl [1, 2, 3, 4, 5, 0] rfl)
        · have hrun := p_neg hrun c2
          refine lv_aload_n hx hb dX2_find_25 rfl (lv_at hl 0 rfl) ?_
          refine lv_iload hx hb dX2_find_26 (lv_at hl 4 rfl) ?_
          refine lv_iload hx hb dX2_find_28 (lv_at hl 5 rfl) ?_
          refine lv_iadd hx hb dX2_find_30 ?_
          refine lv_iload_n hx hb dX2_find_31 rfl (lv_at hl 1 rfl) ?_
          refine lv_iload_n hx hb dX2_find_32 rfl (lv_at hl 2 rfl) ?_
          obtain ⟨r3, h_r3, hrun⟩ := p_bnd hrun
          refine jVS_i (rest := []) C (c2_isAfter h_r3) gX2_find_X2_isAfter hd2_isAfter hK hN hP rcR rfl ⟨rfl, rfl⟩ ⟨Nat.le_of_ble_eq_true rfl, Nat.le_of_ble_eq_true rfl⟩ rfl hl.1 rfl (Nat.le_of_ble_eq_true rfl) ⟨Nat.le_of_ble_eq_true rfl, Nat.le_of_ble_eq_true rfl⟩ dX2_find_33 ?_
          refine lv_if_ne (tgt := 46) hx hb dX2_find_36 rfl (fun c4 => ?_) (fun c4 => ?_)
          · have hrun := p_neg hrun c4
            refine lv_iload hx hb dX2_find_46 (lv_at hl 5 rfl) ?_
            refine lv_iconst (v := 2) hx hb dX2_find_48 rfl ?_
            refine lv_idiv hx hb dX2_find_49 (by decide) ?_
            refine lv_istore (lv' := [(5, .int (x5 / 2)), (0, .ref (ad 4)), (1, .int x1), (2, .int x2), (3, .int x3), (4, .int x4)]) hx hb dX2_find_50 hl (by decide) rfl (fun ls hl => ?_)
            refine lv_goto (tgt := 8) hx hb dX2_find_52 rfl ?_
            exact ih x4 (x5 / 2) out hrun K _ (lv_sub hl [1, 2, 3, 4, 5, 0] rfl)
          · have hrun := p_pos hrun c4
            refine lv_iload hx hb dX2_find_39 (lv_at hl 4 rfl) ?_
            refine lv_iload hx hb dX2_find_41 (lv_at hl 5 rfl) ?_
            refine lv_iadd hx hb dX2_find_43 ?_
            refine lv_istore (lv' := [(4, .int (x4 + x5)), (0, .ref (ad 4)), (1, .int x1), (2, .int x2), (3, .int x3), (5, .int x5)]) hx hb dX2_find_44 hl (by decide) rfl (fun ls hl => ?_)
            refine lv_iload hx hb dX2_find_46 (lv_at hl 5 rfl) ?_
            refine lv_iconst (v := 2) hx hb dX2_find_48 rfl ?_
            refine lv_idiv hx hb dX2_find_49 (by decide) ?_
            refine lv_istore (lv' := [(5, .int (x5 / 2)), (4, .int (x4 + x5)), (0, .ref (ad 4)), (1, .int x1), (2, .int x2), (3, .int x3)]) hx hb dX2_find_50 hl (by decide) rfl (fun ls hl => ?_)
            refine lv_goto (tgt := 8) hx hb dX2_find_52 rfl ?_
            exact ih (x4 + x5) (x5 / 2) out hrun K _ (lv_sub hl [2, 3, 4, 5, 1, 0] rfl)
  unfold P2_find at hrun
  refine lv_iconst (v := 0) hx hb dX2_find_0 rfl ?_
  refine lv_istore (lv' := [(4, .int 0), (0, .ref (ad 4)), (1, .int x1), (2, .int x2), (3, .int x3)]) hx hb dX2_find_1 hl (by decide) rfl (fun ls hl => ?_)
  refine lv_sipush (v := 256) hx hb dX2_find_3 rfl ?_
  refine lv_istore (lv' := [(5, .int 256), (4, .int 0), (0, .ref (ad 4)), (1, .int x1), (2, .int x2), (3, .int x3)]) hx hb dX2_find_6 hl (by decide) rfl (fun ls hl => ?_)
  obtain ⟨o5, h_o5, hrun⟩ := p_bnd hrun
  refine loop_8 FU 0 256 o5 h_o5 (fun ls hl => ?_) _ (lv_sub hl [2, 3, 4, 5, 1, 0] rfl)
  refine lv_aload_n hx hb dX2_find_55 rfl (lv_at hl 0 rfl) ?_
  refine lv_iload hx hb dX2_find_56 (lv_at hl 4 rfl) ?_
  refine lv_iconst (v := 0) hx hb dX2_find_58 rfl ?_
  obtain ⟨r6, h_r6, hrun⟩ := p_bnd hrun
  refine jVS_i (rest := []) C (c2_ofForm h_r6) gX2_find_X2_ofForm hd2_ofForm hK hN hP rcR rfl ⟨rfl, rfl⟩ ⟨Nat.le_of_ble_eq_true rfl, Nat.le_of_ble_eq_true rfl⟩ rfl hl.1 rfl (Nat.le_of_ble_eq_true rfl) ⟨Nat.le_of_ble_eq_true rfl, Nat.le_of_ble_eq_true rfl⟩ dX2_find_59 ?_
  refine lv_iload_n hx hb dX2_find_62 rfl (lv_at hl 1 rfl) ?_
  refine lv_icmp_ne (tgt := 92) hx hb dX2_find_63 rfl (fun c7 => ?_) (fun c7 => ?_)
  · have hrun := p_neg hrun c7
    refine lv_iconst (v := 0) hx hb dX2_find_92 rfl ?_
    refine lv_istore (lv' := [(5, .int 0), (0, .ref (ad 4)), (1, .int x1), (2, .int x2), (3, .int x3), (4, .int o5)]) hx hb dX2_find_93 hl (by decide) rfl (fun ls hl => ?_)
    refine lv_iload hx hb dX2_find_95 (lv_at hl 0 rfl) ?_
    refine lv_if_eq (tgt := 105) hx hb dX2_find_97 rfl (fun _ => ?_) (fun c => absurd (by decide) c)
    refine lv_ldc (v := (-2000000001)) hx hb C.2.2.2.1 (C.2.2.2.2 _ k2_find_30) dX2_find_105 ?_
    cases hrun
    exact rS_i C hr hlk hQ (nbi _) rfl dX2_find_107
  · have hrun := p_pos hrun c7
    refine lv_aload_n hx hb dX2_find_66 rfl (lv_at hl 0 rfl) ?_
    refine lv_iload hx hb dX2_find_67 (lv_at hl 4 rfl) ?_
    refine lv_iconst (v := 1) hx hb dX2_find_69 rfl ?_
    obtain ⟨r8, h_r8, hrun⟩ := p_bnd hrun
    refine jVS_i (rest := []) C (c2_ofForm h_r8) gX2_find_X2_ofForm hd2_ofForm hK hN hP rcR rfl ⟨rfl, rfl⟩ ⟨Nat.le_of_ble_eq_true rfl, Nat.le_of_ble_eq_true rfl⟩ rfl hl.1 rfl (Nat.le_of_ble_eq_true rfl) ⟨Nat.le_of_ble_eq_true rfl, Nat.le_of_ble_eq_true rfl⟩ dX2_find_70 ?_
    refine lv_iload_n hx hb dX2_find_73 rfl (lv_at hl 2 rfl) ?_
    refine lv_icmp_ne (tgt := 92) hx hb dX2_find_74 rfl (fun c9 => ?_) (fun c9 => ?_)
    · have hrun := p_neg hrun c9
      refine lv_iconst (v := 0) hx hb dX2_find_92 rfl ?_
      refine lv_istore (lv' := [(5, .int 0), (0, .ref (ad 4)), (1, .int x1), (2, .int x2), (3, .int x3), (4, .int o5)]) hx hb dX2_find_93 hl (by decide) rfl (fun ls hl => ?_)
      refine lv_iload hx hb dX2_find_95 (lv_at hl 0 rfl) ?_
      refine lv_if_eq (tgt := 105) hx hb dX2_find_97 rfl (fun _ => ?_) (fun c => absurd (by decide) c)
      refine lv_ldc (v := (-2000000001)) hx hb C.2.2.2.1 (C.2.2.2.2 _ k2_find_30) dX2_find_105 ?_
      cases hrun
      exact rS_i C hr hlk hQ (nbi _) rfl dX2_find_107
    · have hrun := p_pos hrun c9
      refine lv_aload_n hx hb dX2_find_77 rfl (lv_at hl 0 rfl) ?_
      refine lv_iload hx hb dX2_find_78 (lv_at hl 4 rfl) ?_
      refine lv_iconst (v := 2) hx hb dX2_find_80 rfl ?_
      obtain ⟨r10, h_r10, hrun⟩ := p_bnd hrun
      refine jVS_i (rest := []) C (c2_ofForm h_r10) gX2_find_X2_ofForm hd2_ofForm hK hN hP rcR rfl ⟨rfl, rfl⟩ ⟨Nat.le_of_ble_eq_true rfl, Nat.le_of_ble_eq_true rfl⟩ rfl hl.1 rfl (Nat.le_of_ble_eq_true rfl) ⟨Nat.le_of_ble_eq_true rfl, Nat.le_of_ble_eq_true rfl⟩ dX2_find_81 ?_
      refine lv_iload_n hx hb dX2_find_84 rfl (lv_at hl 3 rfl) ?_
      refine lv_icmp_ne (tgt := 92) hx hb dX2_find_85 rfl (fun c11 => ?_) (fun c11 => ?_)
      · have hrun := p_neg hrun c11
        refine lv_iconst (v := 0) hx hb dX2_find_92 rfl ?_
        refine lv_istore (lv' := [(5, .int 0), (0, .ref (ad 4)), (1, .int x1), (2, .int x2), (3, .int x3), (4, .int o5)]) hx hb dX2_find_93 hl (by decide) rfl (fun ls hl => ?_)
        refine lv_iload hx hb dX2_find_95 (lv_at hl 0 rfl) ?_
        refine lv_if_eq (tgt := 105) hx hb dX2_find_97 rfl (fun _ => ?_) (fun c => absurd (by decide) c)
        refine lv_ldc (v := (-2000000001)) hx hb C.2.2.2.1 (C.2.2.2.2 _ k2_find_30) dX2_find_105 ?_
        cases hrun
        exact rS_i C hr hlk hQ (nbi _) rfl dX2_find_107
      · have hrun := p_pos hrun c11
        refine lv_iconst (v := 1) hx hb dX2_find_88 rfl ?_
        refine lv_goto (tgt := 93) hx hb dX2_find_89 rfl ?_
        refine lv_istore (lv' := [(5, .int 1), (0, .ref (ad 4)), (1, .int x1), (2, .int x2), (3, .int x3), (4, .int o5)]) hx hb dX2_find_93 hl (by decide) rfl (fun ls hl => ?_)
        refine lv_iload hx hb dX2_find_95 (lv_at hl 0 rfl) ?_
        refine lv_if_eq (tgt := 105) hx hb dX2_find_97 rfl (fun c => absurd c (by decide)) (fun _ => ?_)
        refine lv_iload hx hb dX2_find_100 (lv_at hl 5 rfl) ?_
        refine lv_goto (tgt := 107) hx hb dX2_find_102 rfl ?_
        cases hrun
        exact rS_i C hr hlk hQ (nbi _) rfl dX2_find_107

abbrev rm2_linkForms : Room := { frames := 4, cells := 0, slots := 0, locals := 92 }
theorem fl2_linkForms_19 : Cond.fieldLink RX2 19 "RiverWords$River" "size" "I" ∈ wsX2_linkForms := by decide +kernel
theorem inm2_linkForms_X2 : ∀ w ∈ wsX20, w ∈ wsX2_linkForms := by decide +kernel
theorem hd2_linkForms : okD yX2_linkForms 0 := by decide +kernel
set_option maxHeartbeats 8000000 in
set_option maxRecDepth 100000 in
theorem c2_linkForms {res : (Nat → Nat → Int32)} (hrun : P2_linkForms v_rsize v_fo = some res) : Met l yX2_linkForms wsX2_linkForms rm2_linkForms (va_Pc [.ref (ad 4)] (PE D (tyX cI cR cG) sz (WX0 ad fa ca wad cI cR cG v_wn) (WX ad fa ca wad cI cR cG v_roadCount v_readings v_psize v_good v_pbits v_letters v_afterLetter v_codes v_disc v_rsize v_cycleCount v_fo v_cy v_s v_closed v_traces v_crossings v_db_bits v_db_size v_db_allBits v_db_a v_db_b v_db_c v_db_d v_dn_bits v_dn_size v_dn_allBits v_dn_a v_dn_b v_dn_c v_dn_d v_wn v_wv))) (va_Qv (fun _ : Unit => True) (fun _ t => va_P D vwCl (WX ad fa ca wad cI cR cG v_roadCount v_readings v_psize v_good v_pbits v_letters v_afterLetter v_codes v_disc v_rsize v_cycleCount res v_cy v_s v_closed v_traces v_crossings v_db_bits v_db_size v_db_allBits v_db_a v_db_b v_db_c v_db_d v_dn_bits v_dn_size v_dn_allBits v_dn_a v_dn_b v_dn_c v_dn_d v_wn v_wv) t.heap) (va_A (WX0 ad fa ca wad cI cR cG v_wn) sz)) 0 0 (va_A (WX0 ad fa ca wad cI cR cG v_wn) sz) := by
  refine E_in (cc := cX2_linkForms) (maxL := 6) (ret := none) (by decide) rfl (Nat.le_of_ble_eq_true rfl) ?_
  intro p e s m args below meth c ls Q hQ C hr hlk hK hN hD hA I hl
  have C : CallFix p m c cX2_linkForms 6 s args wsX2_linkForms RX2 := C
  have hx := C.1
  have hb := C.2.1
  have hl : lv_has ls 6 [(0, .ref (ad 4))] := hl
  have loop_2 : ∀ (n : Nat) (v_fo : Nat → Nat → Int32) (x1 : Int32) (out : (Nat → Nat → Int32)), P2_linkForms_2 v_rsize n v_fo x1 = some out → (∀ (H : Heap) (locs : List Loc) (ls : Array Slot), IM D (va_A (WX0 ad fa ca wad cI cR cG v_wn) sz) s.heap H locs (WX ad fa ca wad cI cR cG v_roadCount v_readings v_psize v_good v_pbits v_letters v_afterLetter v_codes v_disc v_rsize v_cycleCount out v_cy v_s v_closed v_traces v_crossings v_db_bits v_db_size v_db_allBits v_db_a v_db_b v_db_c v_db_d v_dn_bits v_dn_size v_dn_allBits v_dn_a v_dn_b v_dn_c v_dn_d v_wn v_wv) → lv_has ls 6 [] → W p l e rm2_linkForms s m args below meth c H locs 0 0 Q (F0 m 142 ls [])) → ∀ (H : Heap) (locs : List Loc) (ls : Array Slot), IM D (va_A (WX0 ad fa ca wad cI cR cG v_wn) sz) s.heap H locs (WX ad fa ca wad cI cR cG v_roadCount v_readings v_psize v_good v_pbits v_letters v_afterLetter v_codes v_disc v_rsize v_cycleCount v_fo v_cy v_s v_closed v_traces v_crossings v_db_bits v_db_size v_db_allBits v_db_a v_db_b v_db_c v_db_d v_dn_bits v_dn_size v_dn_allBits v_dn_a v_dn_b v_dn_c v_dn_d v_wn v_wv) → lv_has ls 6 [(0, .ref (ad 4)), (1, .int x1)] → W p l e rm2_linkForms s m args below meth c H locs 0 0 Q (F0 m 2 ls []) := by
    intro n
    induction n with
    | zero =>
      intro v_fo x1 out hrun K H locs ls I hl
      cases hrun
    | succ n ih =>
      intro v_fo x1 out hrun K H locs ls I hl
      rw [P2_linkForms_2] at hrun
      refine lv_iload_n hx hb dX2_linkForms_2 rfl (lv_at hl 1 rfl) ?_
      refine lv_aload_n hx hb dX2_linkForms_3 rfl (lv_at hl 0 rfl) ?_
      refine gX_R_size C inm2_linkForms_X2 hK I.1 fl2_linkForms_19 dX2_linkForms_4 ?_
      refine lv_icmp_ge (tgt := 142) hx hb dX2_linkForms_7 rfl (fun c1 => ?_) (fun c1 => ?_)
      · have hrun := p_pos hrun c1
        cases hrun
        exact K _ _ _ I (lv_sub hl [] rfl)
      · have hrun := p_neg hrun c1
        refine lv_aload_n hx hb dX2_linkForms_10 rfl (lv_at hl 0 rfl) ?_
        refine lv_iload_n hx hb dX2_linkForms_11 rfl (lv_at hl 1 rfl) ?_
        refine lv_iconst (v := 0) hx hb dX2_linkForms_12 rfl ?_
        obtain ⟨r2, h_r2, hrun⟩ := p_bnd hrun
        refine jVS_i (rest := []) C (c2_ofForm h_r2) gX2_linkForms_X2_ofForm hd2_ofForm hK hN I.1 rcR rfl ⟨rfl, rfl⟩ ⟨Nat.le_of_ble_eq_true rfl, Nat.le_of_ble_eq_true rfl⟩ rfl hl.1 rfl (Nat.le_of_ble_eq_true rfl) ⟨Nat.le_of_ble_eq_true rfl, Nat.le_of_ble_eq_true rfl⟩ dX2_linkForms_13 ?_
        refine lv_istore_n (lv' := [(2, .int r2), (0, .ref (ad 4)), (1, .int x1)]) hx hb dX2_linkForms_16 rfl hl (by decide) rfl (fun ls hl => ?_)
        refine lv_aload_n hx hb dX2_linkForms_17 rfl (lv_at hl 1 rfl) ?_
        refine lv_iload_n hx hb dX2_linkForms_18 rfl (lv_at hl 2 rfl) ?_
        refine lv_iconst (v := 1) hx hb dX2_linkForms_19 rfl ?_
        obtain ⟨r3, h_r3, hrun⟩ := p_bnd hrun
        refine jVS_i (rest := []) C (c2_ofForm h_r3) gX2_linkForms_X2_ofForm hd2_ofForm hK hN I.1 rcR rfl ⟨rfl, rfl⟩ ⟨Nat.le_of_ble_eq_true rfl, Nat.le_of_ble_eq_true rfl⟩ rfl hl.1 rfl (Nat.le_of_ble_eq_true rfl) ⟨Nat.le_of_ble_eq_true rfl, Nat.le_of_ble_eq_true rfl⟩ dX2_linkForms_20 ?_
        refine lv_istore_n (lv' := [(3, .int r3), (2, .int r2), (0, .ref (ad 4)), (1, .int x1)]) hx hb dX2_linkForms_23 rfl hl (by decide) rfl (fun ls hl => ?_)
        refine lv_aload_n hx hb dX2_linkForms_24 rfl (lv_at hl 2 rfl) ?_
        refine lv_iload_n hx hb dX2_linkForms_25 rfl (lv_at hl 3 rfl) ?_
        refine lv_iconst (v := 2) hx hb dX2_linkForms_26 rfl ?_
        obtain ⟨r4, h_r4, hrun⟩ := p_bnd hrun
        refine jVS_i (rest := []) C (c2_ofForm h_r4) gX2_linkForms_X2_ofForm hd2_ofForm hK hN I.1 rcR rfl ⟨rfl, rfl⟩ ⟨Nat.le_of_ble_eq_true rfl, Nat.le_of_ble_eq_true rfl⟩ rfl hl.1 rfl (Nat.le_of_ble_eq_true rfl) ⟨Nat.le_of_ble_eq_true rfl, Nat.le_of_ble_eq_true rfl⟩ dX2_linkForms_27 ?_
        refine lv_istore (lv' := [(4, .int r4), (3, .int r3), (2, .int r2), (0, .ref (ad 4)), (1, .int x1)]) hx hb dX2_linkForms_30 hl (by decide) rfl (fun ls hl => ?_)
        refine lv_iload_n hx hb dX2_linkForms_32 rfl (lv_at hl 2 rfl) ?_
        refine lv_iload_n hx hb dX2_linkForms_33 rfl (lv_at hl 1 rfl) ?_
        refine lv_iadd hx hb dX2_linkForms_34 ?_
        refine lv_iload hx hb dX2_linkForms_35 (lv_at hl 0 rfl) ?_
        refine lv_iadd hx hb dX2_linkForms_37 ?_
        refine lv_istore (lv' := [(5, .int ((r2 + r3) + r4)), (4, .int r4), (3, .int r3), (2, .int r2), (0, .ref (ad 4)), (1, .int x1)]) hx hb dX2_linkForms_38 hl (by decide) rfl (fun ls hl => ?_)
        refine lv_iload hx hb dX2_linkForms_40 (lv_at hl 0 rfl) ?_
        refine lv_if_le (tgt := 76) hx hb dX2_linkForms_42 rfl (fun c5 => ?_) (fun c5 => ?_)
        · have hrun := p_pos hrun c5
          refine lv_aload_n hx hb dX2_linkForms_76 rfl (lv_at hl 4 rfl) ?_
          refine lv_iload_n hx hb dX2_linkForms_77 rfl (lv_at hl 5 rfl) ?_
          refine lv_iconst (v := 5) hx hb dX2_linkForms_78 rfl ?_
          refine lv_bipush (v := 82) hx hb dX2_linkForms_79 rfl ?_
          obtain ⟨r6, h_r6, hrun⟩ := p_bnd hrun
          refine jVE_v (rest := []) C (c2_setForm h_r6) gX2_linkForms_X2_setForm hd2_setForm hK hN hD hA I rcR rfl ⟨rfl, rfl⟩ ⟨Nat.le_of_ble_eq_true rfl, Nat.le_of_ble_eq_true rfl⟩ rfl hl.1 rfl (Nat.le_of_ble_eq_true rfl) ⟨Nat.le_of_ble_eq_true rfl, Nat.le_of_ble_eq_true rfl⟩ dX2_linkForms_81 (fun H locs I => ?_)
          refine lv_aload_n hx hb dX2_linkForms_84 rfl (lv_at hl 4 rfl) ?_
          refine lv_iload_n hx hb dX2_linkForms_85 rfl (lv_at hl 5 rfl) ?_
          refine lv_iconst (v := 4) hx hb dX2_linkForms_86 rfl ?_
          refine lv_aload_n hx hb dX2_linkForms_87 rfl (lv_at hl 4 rfl) ?_
          refine lv_iload_n hx hb dX2_linkForms_88 rfl (lv_at hl 3 rfl) ?_
          refine lv_iload_n hx hb dX2_linkForms_89 rfl (lv_at hl 2 rfl) ?_
          refine lv_iconst (v := 2) hx hb dX2_linkForms_90 rfl ?_
          refine lv_iload_n hx hb dX2_linkForms_91 rfl (lv_at hl 3 rfl) ?_
          refine lv_imul hx hb dX2_linkForms_92 ?_
          refine lv_iadd hx hb dX2_linkForms_93 ?_
          refine lv_iload hx hb dX2_linkForms_94 (lv_at hl 0 rfl) ?_
          obtain ⟨r7, h_r7, hrun⟩ := p_bnd hrun
          refine jVS_i (rest := [.int 4, .int x1, .ref (ad 4)]) C (c2_find h_r7) gX2_linkForms_X2_find hd2_find hK hN I.1 rcR rfl ⟨rfl, rfl⟩ ⟨Nat.le_of_ble_eq_true rfl, Nat.le_of_ble_eq_true rfl⟩ rfl hl.1 rfl (Nat.le_of_ble_eq_true rfl) ⟨Nat.le_of_ble_eq_true rfl, Nat.le_of_ble_eq_true rfl⟩ dX2_linkForms_96 ?_
          obtain ⟨r8, h_r8, hrun⟩ := p_bnd hrun
          refine jVE_v (rest := []) C (c2_setForm h_r8) gX2_linkForms_X2_setForm hd2_setForm hK hN hD hA I rcR rfl ⟨rfl, rfl⟩ ⟨Nat.le_of_ble_eq_true rfl, Nat.le_of_ble_eq_true rfl⟩ rfl hl.1 rfl (Nat.le_of_ble_eq_true rfl) ⟨Nat.le_of_ble_eq_true rfl, Nat.le_of_ble_eq_true rfl⟩ dX2_linkForms_99 (fun H locs I => ?_)
          refine lv_aload_n hx hb dX2_linkForms_102 rfl (lv_at hl 4 rfl) ?_
          refine lv_iload_n hx hb dX2_linkForms_103 rfl (lv_at hl 5 rfl) ?_
          refine lv_bipush (v := 6) hx hb dX2_linkForms_104 rfl ?_
          refine lv_aload_n hx hb dX2_linkForms_106 rfl (lv_at hl 4 rfl) ?_
          refine lv_iload_n hx hb dX2_linkForms_107 rfl (lv_at hl 3 rfl) ?_
          refine lv_iload_n hx hb dX2_linkForms_108 rfl (lv_at hl 2 rfl) ?_
          refine lv_ineg hx hb dX2_linkForms_109 ?_
          refine lv_iload hx hb dX2_linkForms_110 (lv_at hl 1 rfl) ?_
          obtain ⟨r9, h_r9, hrun⟩ := p_bnd hrun
          refine jVS_i (rest := [.int 6, .int x1, .ref (ad 4)]) C (c2_find h_r9) gX2_linkForms_X2_find hd2_find hK hN I.1 rcR rfl ⟨rfl, rfl⟩ ⟨Nat.le_of_ble_eq_true rfl, Nat.le_of_ble_eq_true rfl⟩ rfl hl.1 rfl (Nat.le_of_ble_eq_true rfl) ⟨Nat.le_of_ble_eq_true rfl, Nat.le_of_ble_eq_true rfl⟩ dX2_linkForms_112 ?_
          obtain ⟨r10, h_r10, hrun⟩ := p_bnd hrun
          refine jVE_v (rest := []) C (c2_setForm h_r10) gX2_linkForms_X2_setForm hd2_setForm hK hN hD hA I rcR rfl ⟨rfl, rfl⟩ ⟨Nat.le_of_ble_eq_true rfl, Nat.le_of_ble_eq_true rfl⟩ rfl hl.1 rfl (Nat.le_of_ble_eq_true rfl) ⟨Nat.le_of_ble_eq_true rfl, Nat.le_of_ble_eq_true rfl⟩ dX2_linkForms_115 (fun H locs I => ?_)
          refine lv_aload_n hx hb dX2_linkForms_118 rfl (lv_at hl 4 rfl) ?_
          refine lv_iload_n hx hb dX2_linkForms_119 rfl (lv_at hl 5 rfl) ?_
          refine lv_bipush (v := 7) hx hb dX2_linkForms_120 rfl ?_
          refine lv_aload_n hx hb dX2_linkForms_122 rfl (lv_at hl 4 rfl) ?_
          refine lv_iload hx hb dX2_linkForms_123 (lv_at hl 1 rfl) ?_
          refine lv_ineg hx hb dX2_linkForms_125 ?_
          refine lv_iload_n hx hb dX2_linkForms_126 rfl (lv_at hl 2 rfl) ?_
          refine lv_ineg hx hb dX2_linkForms_127 ?_
          refine lv_iload_n hx hb dX2_linkForms_128 rfl (lv_at hl 3 rfl) ?_
          refine lv_ineg hx hb dX2_linkForms_129 ?_
          obtain ⟨r11, h_r11, hrun⟩ := p_bnd hrun
          refine jVS_i (rest := [.int 7, .int x1, .ref (ad 4)]) C (c2_find h_r11) gX2_linkForms_X2_find hd2_find hK hN I.1 rcR rfl ⟨rfl, rfl⟩ ⟨Nat.le_of_ble_eq_true rfl, Nat.le_of_ble_eq_true rfl⟩ rfl hl.1 rfl (Nat.le_of_ble_eq_true rfl) ⟨Nat.le_of_ble_eq_true rfl, Nat.le_of_ble_eq_true rfl⟩ dX2_linkForms_130 ?_
          obtain ⟨r12, h_r12, hrun⟩ := p_bnd hrun
          refine jVE_v (rest := []) C (c2_setForm h_r12) gX2_linkForms_X2_setForm hd2_setForm hK hN hD hA I rcR rfl ⟨rfl, rfl⟩ ⟨Nat.le_of_ble_eq_true rfl, Nat.le_of_ble_eq_true rfl⟩ rfl hl.1 rfl (Nat.le_of_ble_eq_true rfl) ⟨Nat.le_of_ble_eq_true rfl, Nat.le_of_ble_eq_true rfl⟩ dX2_linkForms_133 (fun H locs I => ?_)
          refine lv_iinc (v := x1 + 1) (lv' := [(1, .int (x1 + 1)), (5, .int ((r2 + r3) + r4)), (4, .int r4), (3, .int r3), (2, .int r2), (0, .ref (ad 4))]) hx hb dX2_linkForms_136 hl (k := 5) rfl rfl (by decide) rfl (fun ls hl => ?_)
          refine lv_goto (tgt := 2) hx hb dX2_linkForms_139 rfl ?_
          exact ih r12 (x1 + 1) out hrun K _ _ _ I (lv_sub hl [5, 0] rfl)
        · have hrun := p_neg hrun c5
          refine lv_aload_n hx hb dX2_linkForms_45 rfl (lv_at hl 4 rfl) ?_
          refine lv_iload_n hx hb dX2_linkForms_46 rfl (lv_at hl 5 rfl) ?_
          refine lv_iconst (v := 5) hx hb dX2_linkForms_47 rfl ?_
          refine lv_bipush (v := 76) hx hb dX2_linkForms_48 rfl ?_
          obtain ⟨r13, h_r13, hrun⟩ := p_bnd hrun
          refine jVE_v (rest := []) C (c2_setForm h_r13) gX2_linkForms_X2_setForm hd2_setForm hK hN hD hA I rcR rfl ⟨rfl, rfl⟩ ⟨Nat.le_of_ble_eq_true rfl, Nat.le_of_ble_eq_true rfl⟩ rfl hl.1 rfl (Nat.le_of_ble_eq_true rfl) ⟨Nat.le_of_ble_eq_true rfl, Nat.le_of_ble_eq_true rfl⟩ dX2_linkForms_50 (fun H locs I => ?_)
          refine lv_aload_n hx hb dX2_linkForms_53 rfl (lv_at hl 4 rfl) ?_
          refine lv_iload_n hx hb dX2_linkForms_54 rfl (lv_at hl 5 rfl) ?_
          refine lv_iconst (v := 4) hx hb dX2_linkForms_55 rfl ?_
          refine lv_aload_n hx hb dX2_linkForms_56 rfl (lv_at hl 4 rfl) ?_
          refine lv_iload hx hb dX2_linkForms_57 (lv_at hl 0 rfl) ?_
          refine lv_iload_n hx hb dX2_linkForms_59 rfl (lv_at hl 2 rfl) ?_
          refine lv_iconst (v := 2) hx hb dX2_linkForms_60 rfl ?_
          refine lv_iload hx hb dX2_linkForms_61 (lv_at hl 1 rfl) ?_
          refine lv_imul hx hb dX2_linkForms_63 ?_
          refine lv_iadd hx hb dX2_linkForms_64 ?_
          refine lv_iload hx hb dX2_linkForms_65 (lv_at hl 1 rfl) ?_
          obtain ⟨r14, h_r14, hrun⟩ := p_bnd hrun
          refine jVS_i (rest := [.int 4, .int x1, .ref (ad 4)]) C (c2_find h_r14) gX2_linkForms_X2_find hd2_find hK hN I.1 rcR rfl ⟨rfl, rfl⟩ ⟨Nat.le_of_ble_eq_true rfl, Nat.le_of_ble_eq_true rfl⟩ rfl hl.1 rfl (Nat.le_of_ble_eq_true rfl) ⟨Nat.le_of_ble_eq_true rfl, Nat.le_of_ble_eq_true rfl⟩ dX2_linkForms_67 ?_
          obtain ⟨r15, h_r15, hrun⟩ := p_bnd hrun
          refine jVE_v (rest := []) C (c2_setForm h_r15) gX2_linkForms_X2_setForm hd2_setForm hK hN hD hA I rcR rfl ⟨rfl, rfl⟩ ⟨Nat.le_of_ble_eq_true rfl, Nat.le_of_ble_eq_true rfl⟩ rfl hl.1 rfl (Nat.le_of_ble_eq_true rfl) ⟨Nat.le_of_ble_eq_true rfl, Nat.le_of_ble_eq_true rfl⟩ dX2_linkForms_70 (fun H locs I => ?_)
          refine lv_goto (tgt := 102) hx hb dX2_linkForms_73 rfl ?_
          refine lv_aload_n hx hb dX2_linkForms_102 rfl (lv_at hl 4 rfl) ?_
          refine lv_iload_n hx hb dX2_linkForms_103 rfl (lv_at hl 5 rfl) ?_
          refine lv_bipush (v := 6) hx hb dX2_linkForms_104 rfl ?_
          refine lv_aload_n hx hb dX2_linkForms_106 rfl (lv_at hl 4 rfl) ?_
          refine lv_iload_n hx hb dX2_linkForms_107 rfl (lv_at hl 3 rfl) ?_
          refine lv_iload_n hx hb dX2_linkForms_108 rfl (lv_at hl 2 rfl) ?_
          refine lv_ineg hx hb dX2_linkForms_109 ?_
          refine lv_iload hx hb dX2_linkForms_110 (lv_at hl 1 rfl) ?_
          obtain ⟨r16, h_r16, hrun⟩ := p_bnd hrun
          refine jVS_i (rest := [.int 6, .int x1, .ref (ad 4)]) C (c2_find h_r16) gX2_linkForms_X2_find hd2_find hK hN I.1 rcR rfl ⟨rfl, rfl⟩ ⟨Nat.le_of_ble_eq_true rfl, Nat.le_of_ble_eq_true rfl⟩ rfl hl.1 rfl (Nat.le_of_ble_eq_true rfl) ⟨Nat.le_of_ble_eq_true rfl, Nat.le_of_ble_eq_true rfl⟩ dX2_linkForms_112 ?_
          obtain ⟨r17, h_r17, hrun⟩ := p_bnd hrun
          refine jVE_v (rest := []) C (c2_setForm h_r17) gX2_linkForms_X2_setForm hd2_setForm hK hN hD hA I rcR rfl ⟨rfl, rfl⟩ ⟨Nat.le_of_ble_eq_true rfl, Nat.le_of_ble_eq_true rfl⟩ rfl hl.1 rfl (Nat.le_of_ble_eq_true rfl) ⟨Nat.le_of_ble_eq_true rfl, Nat.le_of_ble_eq_true rfl⟩ dX2_linkForms_115 (fun H locs I => ?_)
          refine lv_aload_n hx hb dX2_linkForms_118 rfl (lv_at hl 4 rfl) ?_
          refine lv_iload_n hx hb dX2_linkForms_119 rfl (lv_at hl 5 rfl) ?_
          refine lv_bipush (v := 7) hx hb dX2_linkForms_120 rfl ?_
          refine lv_aload_n hx hb dX2_linkForms_122 rfl (lv_at hl 4 rfl) ?_
          refine lv_iload hx hb dX2_linkForms_123 (lv_at hl 1 rfl) ?_
          refine lv_ineg hx hb dX2_linkForms_125 ?_
          refine lv_iload_n hx hb dX2_linkForms_126 rfl (lv_at hl 2 rfl) ?_
          refine lv_ineg hx hb dX2_linkForms_127 ?_
          refine lv_iload_n hx hb dX2_linkForms_128 rfl (lv_at hl 3 rfl) ?_
          refine lv_ineg hx hb dX2_linkForms_129 ?_
          obtain ⟨r18, h_r18, hrun⟩ := p_bnd hrun
          refine jVS_i (rest := [.int 7, .int x1, .ref (ad 4)]) C (c2_find h_r18) gX2_linkForms_X2_find hd2_find hK hN I.1 rcR rfl ⟨rfl, rfl⟩ ⟨Nat.le_of_ble_eq_true rfl, Nat.le_of_ble_eq_true rfl⟩ rfl hl.1 rfl (Nat.le_of_ble_eq_true rfl) ⟨Nat.le_of_ble_eq_true rfl, Nat.le_of_ble_eq_true rfl⟩ dX2_linkForms_130 ?_
          obtain ⟨r19, h_r19, hrun⟩ := p_bnd hrun
          refine jVE_v (rest := []) C (c2_setForm h_r19) gX2_linkForms_X2_setForm hd2_setForm hK hN hD hA I rcR rfl ⟨rfl, rfl⟩ ⟨Nat.le_of_ble_eq_true rfl, Nat.le_of_ble_eq_true rfl⟩ rfl hl.1 rfl (Nat.le_of_ble_eq_true rfl) ⟨Nat.le_of_ble_eq_true rfl, Nat.le_of_ble_eq_true rfl⟩ dX2_linkForms_133 (fun H locs I => ?_)
          refine lv_iinc (v := x1 + 1) (lv' := [(1, .int (x1 + 1)), (5, .int ((r2 + r3) + r4)), (4, .int r4), (3, .int r3), (2, .int r2), (0, .ref (ad 4))]) hx hb dX2_linkForms_136 hl (k := 5) rfl rfl (by decide) rfl (fun ls hl => ?_)
          refine lv_goto (tgt := 2) hx hb dX2_linkForms_139 rfl ?_
          exact ih r19 (x1 + 1) out hrun K _ _ _ I (lv_sub hl [5, 0] rfl)
  unfold P2_linkForms at hrun
  refine lv_iconst (v := 0) hx hb dX2_linkForms_0 rfl ?_
  refine lv_istore_n (lv' := [(1, .int 0), (0, .ref (ad 4))]) hx hb dX2_linkForms_1 rfl hl (by decide) rfl (fun ls hl => ?_)
  obtain ⟨o20, h_o20, hrun⟩ := p_bnd hrun
  refine loop_2 FU v_fo 0 o20 h_o20 (fun H locs ls I hl => ?_) _ _ _ I (lv_sub hl [1, 0] rfl)
  cases hrun
  exact rE_v C hr hlk hQ I dX2_linkForms_142

end X93
