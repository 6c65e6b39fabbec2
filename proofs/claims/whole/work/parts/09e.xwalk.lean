section X94
variable {l : Launch} {D : va_G} {sz : Nat}
variable {ad fa ca wad : Nat → Nat} {cI cR cG : ClassId}
variable {v_roadCount v_readings v_psize v_good v_pbits v_letters v_afterLetter v_disc v_rsize v_cycleCount v_closed v_traces v_crossings v_db_bits v_db_size v_db_allBits v_db_a v_db_b v_db_c v_db_d v_dn_bits v_dn_size v_dn_allBits v_dn_a v_dn_b v_dn_c v_dn_d : Int32}
variable {v_s : Int64}
variable {v_codes : Nat → Int32}
variable {v_fo v_cy v_wv : Nat → Nat → Int32}
variable {v_wn : Nat}
abbrev rm2_addCycle : Room := { frames := 2, cells := 0, slots := 0, locals := 44 }
theorem fl2_addCycle_19 : Cond.fieldLink RX2 19 "RiverWords$River" "size" "I" ∈ wsX2_addCycle := by decide +kernel
theorem fl2_addCycle_23 : Cond.fieldLink RX2 23 "RiverWords$River" "cycleCount" "I" ∈ wsX2_addCycle := by decide +kernel
theorem k2_addCycle_30 : Cond.constant RX2 30 (-2000000001) ∈ wsX2_addCycle := by decide +kernel
theorem inm2_addCycle_X2 : ∀ w ∈ wsX20, w ∈ wsX2_addCycle := by decide +kernel
theorem hd2_addCycle : okD yX2_addCycle 1 := by decide +kernel
set_option maxHeartbeats 8000000 in
set_option maxRecDepth 100000 in
theorem c2_addCycle {x1 : Int32} {res : Int32 × (Nat → Nat → Int32) × (Nat → Nat → Int32)} (hrun : P2_addCycle v_rsize v_cycleCount v_fo v_cy x1 = some res) : Met l yX2_addCycle wsX2_addCycle rm2_addCycle (va_Pc [.ref (ad 4), .int x1] (PE D (tyX cI cR cG) sz (WX0 ad fa ca wad cI cR cG v_wn) (WX ad fa ca wad cI cR cG v_roadCount v_readings v_psize v_good v_pbits v_letters v_afterLetter v_codes v_disc v_rsize v_cycleCount v_fo v_cy v_s v_closed v_traces v_crossings v_db_bits v_db_size v_db_allBits v_db_a v_db_b v_db_c v_db_d v_dn_bits v_dn_size v_dn_allBits v_dn_a v_dn_b v_dn_c v_dn_d v_wn v_wv))) (va_Qv (fun _ : Unit => True) (fun _ t => va_P D vwCl (WX ad fa ca wad cI cR cG v_roadCount v_readings v_psize v_good v_pbits v_letters v_afterLetter v_codes v_disc v_rsize res.1 res.2.1 res.2.2 v_s v_closed v_traces v_crossings v_db_bits v_db_size v_db_allBits v_db_a v_db_b v_db_c v_db_d v_dn_bits v_dn_size v_dn_allBits v_dn_a v_dn_b v_dn_c v_dn_d v_wn v_wv) t.heap) (va_A (WX0 ad fa ca wad cI cR cG v_wn) sz)) 0 0 (va_A (WX0 ad fa ca wad cI cR cG v_wn) sz) := by
  refine E_in (cc := cX2_addCycle) (maxL := 6) (ret := none) (by decide) rfl (Nat.le_of_ble_eq_true rfl) ?_
  intro p e s m args below meth c ls Q hQ C hr hlk hK hN hD hA I hl
  have C : CallFix p m c cX2_addCycle 6 s args wsX2_addCycle RX2 := C
  have hx := C.1
  have hb := C.2.1
  have hl : lv_has ls 6 [(0, .ref (ad 4)), (1, .int x1)] := hl
  have loop_23 : ∀ (v_cycleCount : Int32) (v_cy : Nat → Nat → Int32) (x2 : Int32) (n : Nat) (v_fo : Nat → Nat → Int32) (x3 : Int32) (x4 : Int32) (x5 : Int32) (out : (Nat → Nat → Int32) × Int32 × Int32), P2_addCycle_23 v_rsize x2 n v_fo x3 x4 x5 = some out → (∀ (H : Heap) (locs : List Loc) (ls : Array Slot), IM D (va_A (WX0 ad fa ca wad cI cR cG v_wn) sz) s.heap H locs (WX ad fa ca wad cI cR cG v_roadCount v_readings v_psize v_good v_pbits v_letters v_afterLetter v_codes v_disc v_rsize v_cycleCount out.1 v_cy v_s v_closed v_traces v_crossings v_db_bits v_db_size v_db_allBits v_db_a v_db_b v_db_c v_db_d v_dn_bits v_dn_size v_dn_allBits v_dn_a v_dn_b v_dn_c v_dn_d v_wn v_wv) → lv_has ls 6 [(0, .ref (ad 4)), (1, .int x1), (2, .int x2), (4, .int out.2.1), (5, .int out.2.2)] → W p l e rm2_addCycle s m args below meth c H locs 0 0 Q (F0 m 77 ls [])) → ∀ (H : Heap) (locs : List Loc) (ls : Array Slot), IM D (va_A (WX0 ad fa ca wad cI cR cG v_wn) sz) s.heap H locs (WX ad fa ca wad cI cR cG v_roadCount v_readings v_psize v_good v_pbits v_letters v_afterLetter v_codes v_disc v_rsize v_cycleCount v_fo v_cy v_s v_closed v_traces v_crossings v_db_bits v_db_size v_db_allBits v_db_a v_db_b v_db_c v_db_d v_dn_bits v_dn_size v_dn_allBits v_dn_a v_dn_b v_dn_c v_dn_d v_wn v_wv) → lv_has ls 6 [(0, .ref (ad 4)), (1, .int x1), (2, .int x2), (3, .int x3), (4, .int x4), (5, .int x5)] → W p l e rm2_addCycle s m args below meth c H locs 0 0 Q (F0 m 23 ls []) := by
    intro v_cycleCount v_cy x2 n
    induction n with
    | zero =>
      intro v_fo x3 x4 x5 out hrun K H locs ls I hl
      cases hrun
    | succ n ih =>
      intro v_fo x3 x4 x5 out hrun K H locs ls I hl
      rw [P2_addCycle_23] at hrun
      refine lv_iload hx hb dX2_addCycle_23 (lv_at hl 4 rfl) ?_
      refine lv_aload_n hx hb dX2_addCycle_25 rfl (lv_at hl 0 rfl) ?_
      refine gX_R_size C inm2_addCycle_X2 hK I.1 fl2_addCycle_19 dX2_addCycle_26 ?_
      refine lv_icmp_ge (tgt := 77) hx hb dX2_addCycle_29 rfl (fun c1 => ?_) (fun c1 => ?_)
      · have hrun := p_pos hrun c1
        cases hrun
        exact K _ _ _ I (lv_sub hl [0, 1, 2, 4, 5] rfl)
      · have hrun := p_neg hrun c1
        refine lv_aload_n hx hb dX2_addCycle_32 rfl (lv_at hl 0 rfl) ?_
        refine lv_iload_n hx hb dX2_addCycle_33 rfl (lv_at hl 3 rfl) ?_
        refine lv_iconst (v := 3) hx hb dX2_addCycle_34 rfl ?_
        obtain ⟨r2, h_r2, hrun⟩ := p_bnd hrun
        refine jVS_i (rest := []) C (c2_ofForm h_r2) gX2_addCycle_X2_ofForm hd2_ofForm hK hN I.1 rcR rfl ⟨rfl, rfl⟩ ⟨Nat.le_of_ble_eq_true rfl, Nat.le_of_ble_eq_true rfl⟩ rfl hl.1 rfl (Nat.le_of_ble_eq_true rfl) ⟨Nat.le_of_ble_eq_true rfl, Nat.le_of_ble_eq_true rfl⟩ dX2_addCycle_35 ?_
        refine lv_ldc (v := (-2000000001)) hx hb C.2.2.2.1 (C.2.2.2.2 _ k2_addCycle_30) dX2_addCycle_38 ?_
        refine lv_icmp_ne (tgt := 77) hx hb dX2_addCycle_40 rfl (fun c3 => ?_) (fun c3 => ?_)
        · have hrun := p_neg hrun c3
          cases hrun
          exact K _ _ _ I (lv_sub hl [0, 1, 2, 4, 5] rfl)
        · have hrun := p_pos hrun c3
          refine lv_aload_n hx hb dX2_addCycle_43 rfl (lv_at hl 0 rfl) ?_
          refine lv_iload_n hx hb dX2_addCycle_44 rfl (lv_at hl 3 rfl) ?_
          refine lv_iconst (v := 3) hx hb dX2_addCycle_45 rfl ?_
          refine lv_iload_n hx hb dX2_addCycle_46 rfl (lv_at hl 2 rfl) ?_
          obtain ⟨r4, h_r4, hrun⟩ := p_bnd hrun
          refine jVE_v (rest := []) C (c2_setForm h_r4) gX2_addCycle_X2_setForm hd2_setForm hK hN hD hA I rcR rfl ⟨rfl, rfl⟩ ⟨Nat.le_of_ble_eq_true rfl, Nat.le_of_ble_eq_true rfl⟩ rfl hl.1 rfl (Nat.le_of_ble_eq_true rfl) ⟨Nat.le_of_ble_eq_true rfl, Nat.le_of_ble_eq_true rfl⟩ dX2_addCycle_47 (fun H locs I => ?_)
          refine lv_aload_n hx hb dX2_addCycle_50 rfl (lv_at hl 0 rfl) ?_
          refine lv_iload_n hx hb dX2_addCycle_51 rfl (lv_at hl 3 rfl) ?_
          refine lv_iconst (v := 5) hx hb dX2_addCycle_52 rfl ?_
          obtain ⟨r5, h_r5, hrun⟩ := p_bnd hrun
          refine jVS_i (rest := []) C (c2_ofForm h_r5) gX2_addCycle_X2_ofForm hd2_ofForm hK hN I.1 rcR rfl ⟨rfl, rfl⟩ ⟨Nat.le_of_ble_eq_true rfl, Nat.le_of_ble_eq_true rfl⟩ rfl hl.1 rfl (Nat.le_of_ble_eq_true rfl) ⟨Nat.le_of_ble_eq_true rfl, Nat.le_of_ble_eq_true rfl⟩ dX2_addCycle_53 ?_
          refine lv_bipush (v := 76) hx hb dX2_addCycle_56 rfl ?_
          refine lv_icmp_ne (tgt := 64) hx hb dX2_addCycle_58 rfl (fun c6 => ?_) (fun c6 => ?_)
          · have hrun := p_neg hrun c6
            refine lv_aload_n hx hb dX2_addCycle_64 rfl (lv_at hl 0 rfl) ?_
            refine lv_iload_n hx hb dX2_addCycle_65 rfl (lv_at hl 3 rfl) ?_
            refine lv_iconst (v := 4) hx hb dX2_addCycle_66 rfl ?_
            obtain ⟨r7, h_r7, hrun⟩ := p_bnd hrun
            refine jVS_i (rest := []) C (c2_ofForm h_r7) gX2_addCycle_X2_ofForm hd2_ofForm hK hN I.1 rcR rfl ⟨rfl, rfl⟩ ⟨Nat.le_of_ble_eq_true rfl, Nat.le_of_ble_eq_true rfl⟩ rfl hl.1 rfl (Nat.le_of_ble_eq_true rfl) ⟨Nat.le_of_ble_eq_true rfl, Nat.le_of_ble_eq_true rfl⟩ dX2_addCycle_67 ?_
            refine lv_istore_n (lv' := [(3, .int r7), (0, .ref (ad 4)), (1, .int x1), (2, .int x2), (4, .int x4), (5, .int x5)]) hx hb dX2_addCycle_70 rfl hl (by decide) rfl (fun ls hl => ?_)
            refine lv_iinc (v := x4 + 1) (lv' := [(4, .int (x4 + 1)), (3, .int r7), (0, .ref (ad 4)), (1, .int x1), (2, .int x2), (5, .int x5)]) hx hb dX2_addCycle_71 hl (k := 4) rfl rfl (by decide) rfl (fun ls hl => ?_)
            refine lv_goto (tgt := 23) hx hb dX2_addCycle_74 rfl ?_
            exact ih r4 r7 (x4 + 1) x5 out hrun K _ _ _ I (lv_sub hl [2, 3, 4, 1, 0, 5] rfl)
          · have hrun := p_pos hrun c6
            refine lv_iinc (v := x5 + 1) (lv' := [(5, .int (x5 + 1)), (0, .ref (ad 4)), (1, .int x1), (2, .int x2), (3, .int x3), (4, .int x4)]) hx hb dX2_addCycle_61 hl (k := 5) rfl rfl (by decide) rfl (fun ls hl => ?_)
            refine lv_aload_n hx hb dX2_addCycle_64 rfl (lv_at hl 1 rfl) ?_
            refine lv_iload_n hx hb dX2_addCycle_65 rfl (lv_at hl 4 rfl) ?_
            refine lv_iconst (v := 4) hx hb dX2_addCycle_66 rfl ?_
            obtain ⟨r8, h_r8, hrun⟩ := p_bnd hrun
            refine jVS_i (rest := []) C (c2_ofForm h_r8) gX2_addCycle_X2_ofForm hd2_ofForm hK hN I.1 rcR rfl ⟨rfl, rfl⟩ ⟨Nat.le_of_ble_eq_true rfl, Nat.le_of_ble_eq_true rfl⟩ rfl hl.1 rfl (Nat.le_of_ble_eq_true rfl) ⟨Nat.le_of_ble_eq_true rfl, Nat.le_of_ble_eq_true rfl⟩ dX2_addCycle_67 ?_
            refine lv_istore_n (lv' := [(3, .int r8), (5, .int (x5 + 1)), (0, .ref (ad 4)), (1, .int x1), (2, .int x2), (4, .int x4)]) hx hb dX2_addCycle_70 rfl hl (by decide) rfl (fun ls hl => ?_)
            refine lv_iinc (v := x4 + 1) (lv' := [(4, .int (x4 + 1)), (3, .int r8), (5, .int (x5 + 1)), (0, .ref (ad 4)), (1, .int x1), (2, .int x2)]) hx hb dX2_addCycle_71 hl (k := 5) rfl rfl (by decide) rfl (fun ls hl => ?_)
            refine lv_goto (tgt := 23) hx hb dX2_addCycle_74 rfl ?_
            exact ih r4 r8 (x4 + 1) (x5 + 1) out hrun K _ _ _ I (lv_sub hl [3, 4, 5, 1, 0, 2] rfl)
  unfold P2_addCycle at hrun
  refine lv_aload_n hx hb dX2_addCycle_0 rfl (lv_at hl 0 rfl) ?_
  refine gX_R_cycleCount C inm2_addCycle_X2 hK I.1 fl2_addCycle_23 dX2_addCycle_1 ?_
  refine lv_istore_n (lv' := [(2, .int v_cycleCount), (0, .ref (ad 4)), (1, .int x1)]) hx hb dX2_addCycle_4 rfl hl (by decide) rfl (fun ls hl => ?_)
  refine lv_aload_n hx hb dX2_addCycle_5 rfl (lv_at hl 1 rfl) ?_
  refine lv_dup hx hb dX2_addCycle_6 rfl ?_
  refine gX_R_cycleCount C inm2_addCycle_X2 hK I.1 fl2_addCycle_23 dX2_addCycle_7 ?_
  refine lv_iconst (v := 1) hx hb dX2_addCycle_10 rfl ?_
  refine lv_iadd hx hb dX2_addCycle_11 ?_
  refine pX_R_cycleCount C inm2_addCycle_X2 hK hD I fl2_addCycle_23 dX2_addCycle_12 (fun H locs I => ?_)
  refine lv_iload_n hx hb dX2_addCycle_15 rfl (lv_at hl 2 rfl) ?_
  refine lv_istore_n (lv' := [(3, .int x1), (2, .int v_cycleCount), (0, .ref (ad 4)), (1, .int x1)]) hx hb dX2_addCycle_16 rfl hl (by decide) rfl (fun ls hl => ?_)
  refine lv_iconst (v := 0) hx hb dX2_addCycle_17 rfl ?_
  refine lv_istore (lv' := [(4, .int 0), (3, .int x1), (2, .int v_cycleCount), (0, .ref (ad 4)), (1, .int x1)]) hx hb dX2_addCycle_18 hl (by decide) rfl (fun ls hl => ?_)
  refine lv_iconst (v := 0) hx hb dX2_addCycle_20 rfl ?_
  refine lv_istore (lv' := [(5, .int 0), (4, .int 0), (3, .int x1), (2, .int v_cycleCount), (0, .ref (ad 4)), (1, .int x1)]) hx hb dX2_addCycle_21 hl (by decide) rfl (fun ls hl => ?_)
  obtain ⟨o9, h_o9, hrun⟩ := p_bnd hrun
  refine loop_23 (v_cycleCount + 1) v_cy v_cycleCount FU v_fo x1 0 0 o9 h_o9 (fun H locs ls I hl => ?_) _ _ _ I (lv_sub hl [4, 5, 3, 2, 1, 0] rfl)
  refine lv_aload_n hx hb dX2_addCycle_77 rfl (lv_at hl 0 rfl) ?_
  refine lv_iload_n hx hb dX2_addCycle_78 rfl (lv_at hl 2 rfl) ?_
  refine lv_iconst (v := 0) hx hb dX2_addCycle_79 rfl ?_
  refine lv_iload_n hx hb dX2_addCycle_80 rfl (lv_at hl 1 rfl) ?_
  obtain ⟨r10, h_r10, hrun⟩ := p_bnd hrun
  refine jVE_v (rest := []) C (c2_setCycle h_r10) gX2_addCycle_X2_setCycle hd2_setCycle hK hN hD hA I rcR rfl ⟨rfl, rfl⟩ ⟨Nat.le_of_ble_eq_true rfl, Nat.le_of_ble_eq_true rfl⟩ rfl hl.1 rfl (Nat.le_of_ble_eq_true rfl) ⟨Nat.le_of_ble_eq_true rfl, Nat.le_of_ble_eq_true rfl⟩ dX2_addCycle_81 (fun H locs I => ?_)
  refine lv_aload_n hx hb dX2_addCycle_84 rfl (lv_at hl 0 rfl) ?_
  refine lv_iload_n hx hb dX2_addCycle_85 rfl (lv_at hl 2 rfl) ?_
  refine lv_iconst (v := 1) hx hb dX2_addCycle_86 rfl ?_
  refine lv_iload hx hb dX2_addCycle_87 (lv_at hl 3 rfl) ?_
  obtain ⟨r11, h_r11, hrun⟩ := p_bnd hrun
  refine jVE_v (rest := []) C (c2_setCycle h_r11) gX2_addCycle_X2_setCycle hd2_setCycle hK hN hD hA I rcR rfl ⟨rfl, rfl⟩ ⟨Nat.le_of_ble_eq_true rfl, Nat.le_of_ble_eq_true rfl⟩ rfl hl.1 rfl (Nat.le_of_ble_eq_true rfl) ⟨Nat.le_of_ble_eq_true rfl, Nat.le_of_ble_eq_true rfl⟩ dX2_addCycle_89 (fun H locs I => ?_)
  refine lv_aload_n hx hb dX2_addCycle_92 rfl (lv_at hl 0 rfl) ?_
  refine lv_iload_n hx hb dX2_addCycle_93 rfl (lv_at hl 2 rfl) ?_
  refine lv_iconst (v := 2) hx hb dX2_addCycle_94 rfl ?_
  refine lv_iload hx hb dX2_addCycle_95 (lv_at hl 4 rfl) ?_
  obtain ⟨r12, h_r12, hrun⟩ := p_bnd hrun
  refine jVE_v (rest := []) C (c2_setCycle h_r12) gX2_addCycle_X2_setCycle hd2_setCycle hK hN hD hA I rcR rfl ⟨rfl, rfl⟩ ⟨Nat.le_of_ble_eq_true rfl, Nat.le_of_ble_eq_true rfl⟩ rfl hl.1 rfl (Nat.le_of_ble_eq_true rfl) ⟨Nat.le_of_ble_eq_true rfl, Nat.le_of_ble_eq_true rfl⟩ dX2_addCycle_97 (fun H locs I => ?_)
  cases hrun
  exact rE_v C hr hlk hQ I dX2_addCycle_100

abbrev rm2_addCycles : Room := { frames := 3, cells := 0, slots := 0, locals := 69 }
theorem fl2_addCycles_19 : Cond.fieldLink RX2 19 "RiverWords$River" "size" "I" ∈ wsX2_addCycles := by decide +kernel
theorem fl2_addCycles_23 : Cond.fieldLink RX2 23 "RiverWords$River" "cycleCount" "I" ∈ wsX2_addCycles := by decide +kernel
theorem k2_addCycles_30 : Cond.constant RX2 30 (-2000000001) ∈ wsX2_addCycles := by decide +kernel
theorem inm2_addCycles_X2 : ∀ w ∈ wsX20, w ∈ wsX2_addCycles := by decide +kernel
theorem hd2_addCycles : okD yX2_addCycles 0 := by decide +kernel
set_option maxHeartbeats 8000000 in
set_option maxRecDepth 100000 in
theorem c2_addCycles {res : Int32 × (Nat → Nat → Int32) × (Nat → Nat → Int32)} (hrun : P2_addCycles v_rsize v_cycleCount v_fo v_cy = some res) : Met l yX2_addCycles wsX2_addCycles rm2_addCycles (va_Pc [.ref (ad 4)] (PE D (tyX cI cR cG) sz (WX0 ad fa ca wad cI cR cG v_wn) (WX ad fa ca wad cI cR cG v_roadCount v_readings v_psize v_good v_pbits v_letters v_afterLetter v_codes v_disc v_rsize v_cycleCount v_fo v_cy v_s v_closed v_traces v_crossings v_db_bits v_db_size v_db_allBits v_db_a v_db_b v_db_c v_db_d v_dn_bits v_dn_size v_dn_allBits v_dn_a v_dn_b v_dn_c v_dn_d v_wn v_wv))) (va_Qv (fun _ : Unit => True) (fun _ t => va_P D vwCl (WX ad fa ca wad cI cR cG v_roadCount v_readings v_psize v_good v_pbits v_letters v_afterLetter v_codes v_disc v_rsize res.1 res.2.1 res.2.2 v_s v_closed v_traces v_crossings v_db_bits v_db_size v_db_allBits v_db_a v_db_b v_db_c v_db_d v_dn_bits v_dn_size v_dn_allBits v_dn_a v_dn_b v_dn_c v_dn_d v_wn v_wv) t.heap) (va_A (WX0 ad fa ca wad cI cR cG v_wn) sz)) 0 0 (va_A (WX0 ad fa ca wad cI cR cG v_wn) sz) := by
  refine E_in (cc := cX2_addCycles) (maxL := 2) (ret := none) (by decide) rfl (Nat.le_of_ble_eq_true rfl) ?_
  intro p e s m args below meth c ls Q hQ C hr hlk hK hN hD hA I hl
  have C : CallFix p m c cX2_addCycles 2 s args wsX2_addCycles RX2 := C
  have hx := C.1
  have hb := C.2.1
  have hl : lv_has ls 2 [(0, .ref (ad 4))] := hl
  have loop_2 : ∀ (n : Nat) (v_cycleCount : Int32) (v_fo : Nat → Nat → Int32) (v_cy : Nat → Nat → Int32) (x1 : Int32) (out : Int32 × (Nat → Nat → Int32) × (Nat → Nat → Int32)), P2_addCycles_2 v_rsize n v_cycleCount v_fo v_cy x1 = some out → (∀ (H : Heap) (locs : List Loc) (ls : Array Slot), IM D (va_A (WX0 ad fa ca wad cI cR cG v_wn) sz) s.heap H locs (WX ad fa ca wad cI cR cG v_roadCount v_readings v_psize v_good v_pbits v_letters v_afterLetter v_codes v_disc v_rsize out.1 out.2.1 out.2.2 v_s v_closed v_traces v_crossings v_db_bits v_db_size v_db_allBits v_db_a v_db_b v_db_c v_db_d v_dn_bits v_dn_size v_dn_allBits v_dn_a v_dn_b v_dn_c v_dn_d v_wn v_wv) → lv_has ls 2 [] → W p l e rm2_addCycles s m args below meth c H locs 0 0 Q (F0 m 41 ls [])) → ∀ (H : Heap) (locs : List Loc) (ls : Array Slot), IM D (va_A (WX0 ad fa ca wad cI cR cG v_wn) sz) s.heap H locs (WX ad fa ca wad cI cR cG v_roadCount v_readings v_psize v_good v_pbits v_letters v_afterLetter v_codes v_disc v_rsize v_cycleCount v_fo v_cy v_s v_closed v_traces v_crossings v_db_bits v_db_size v_db_allBits v_db_a v_db_b v_db_c v_db_d v_dn_bits v_dn_size v_dn_allBits v_dn_a v_dn_b v_dn_c v_dn_d v_wn v_wv) → lv_has ls 2 [(0, .ref (ad 4)), (1, .int x1)] → W p l e rm2_addCycles s m args below meth c H locs 0 0 Q (F0 m 2 ls []) := by
    intro n
    induction n with
    | zero =>
      intro v_cycleCount v_fo v_cy x1 out hrun K H locs ls I hl
      cases hrun
    | succ n ih =>
      intro v_cycleCount v_fo v_cy x1 out hrun K H locs ls I hl
      rw [P2_addCycles_2] at hrun
      refine lv_iload_n hx hb dX2_addCycles_2 rfl (lv_at hl 1 rfl) ?_
      refine lv_aload_n hx hb dX2_addCycles_3 rfl (lv_at hl 0 rfl) ?_
      refine gX_R_size C inm2_addCycles_X2 hK I.1 fl2_addCycles_19 dX2_addCycles_4 ?_
      refine lv_icmp_ge (tgt := 41) hx hb dX2_addCycles_7 rfl (fun c1 => ?_) (fun c1 => ?_)
      · have hrun := p_pos hrun c1
        cases hrun
        exact K _ _ _ I (lv_sub hl [] rfl)
      · have hrun := p_neg hrun c1
        refine lv_aload_n hx hb dX2_addCycles_10 rfl (lv_at hl 0 rfl) ?_
        refine lv_iload_n hx hb dX2_addCycles_11 rfl (lv_at hl 1 rfl) ?_
        refine lv_iconst (v := 3) hx hb dX2_addCycles_12 rfl ?_
        obtain ⟨r2, h_r2, hrun⟩ := p_bnd hrun
        refine jVS_i (rest := []) C (c2_ofForm h_r2) gX2_addCycles_X2_ofForm hd2_ofForm hK hN I.1 rcR rfl ⟨rfl, rfl⟩ ⟨Nat.le_of_ble_eq_true rfl, Nat.le_of_ble_eq_true rfl⟩ rfl hl.1 rfl (Nat.le_of_ble_eq_true rfl) ⟨Nat.le_of_ble_eq_true rfl, Nat.le_of_ble_eq_true rfl⟩ dX2_addCycles_13 ?_
        refine lv_ldc (v := (-2000000001)) hx hb C.2.2.2.1 (C.2.2.2.2 _ k2_addCycles_30) dX2_addCycles_16 ?_
        refine lv_icmp_ne (tgt := 35) hx hb dX2_addCycles_18 rfl (fun c3 => ?_) (fun c3 => ?_)
        · have hrun := p_neg hrun c3
          refine lv_iinc (v := x1 + 1) (lv' := [(1, .int (x1 + 1)), (0, .ref (ad 4))]) hx hb dX2_addCycles_35 hl (k := 1) rfl rfl (by decide) rfl (fun ls hl => ?_)
          refine lv_goto (tgt := 2) hx hb dX2_addCycles_38 rfl ?_
          exact ih v_cycleCount v_fo v_cy (x1 + 1) out hrun K _ _ _ I (lv_sub hl [1, 0] rfl)
        · have hrun := p_pos hrun c3
          refine lv_aload_n hx hb dX2_addCycles_21 rfl (lv_at hl 0 rfl) ?_
          refine gX_R_cycleCount C inm2_addCycles_X2 hK I.1 fl2_addCycles_23 dX2_addCycles_22 ?_
          refine lv_bipush (v := 10) hx hb dX2_addCycles_25 rfl ?_
          refine lv_icmp_ge (tgt := 35) hx hb dX2_addCycles_27 rfl (fun c4 => ?_) (fun c4 => ?_)
          · have hrun := p_pos hrun c4
            refine lv_iinc (v := x1 + 1) (lv' := [(1, .int (x1 + 1)), (0, .ref (ad 4))]) hx hb dX2_addCycles_35 hl (k := 1) rfl rfl (by decide) rfl (fun ls hl => ?_)
            refine lv_goto (tgt := 2) hx hb dX2_addCycles_38 rfl ?_
            exact ih v_cycleCount v_fo v_cy (x1 + 1) out hrun K _ _ _ I (lv_sub hl [1, 0] rfl)
          · have hrun := p_neg hrun c4
            refine lv_aload_n hx hb dX2_addCycles_30 rfl (lv_at hl 0 rfl) ?_
            refine lv_iload_n hx hb dX2_addCycles_31 rfl (lv_at hl 1 rfl) ?_
            obtain ⟨r5, h_r5, hrun⟩ := p_bnd hrun
            refine jVE_v (rest := []) C (c2_addCycle h_r5) gX2_addCycles_X2_addCycle hd2_addCycle hK hN hD hA I rcR rfl ⟨rfl, rfl⟩ ⟨Nat.le_of_ble_eq_true rfl, Nat.le_of_ble_eq_true rfl⟩ rfl hl.1 rfl (Nat.le_of_ble_eq_true rfl) ⟨Nat.le_of_ble_eq_true rfl, Nat.le_of_ble_eq_true rfl⟩ dX2_addCycles_32 (fun H locs I => ?_)
            refine lv_iinc (v := x1 + 1) (lv' := [(1, .int (x1 + 1)), (0, .ref (ad 4))]) hx hb dX2_addCycles_35 hl (k := 1) rfl rfl (by decide) rfl (fun ls hl => ?_)
            refine lv_goto (tgt := 2) hx hb dX2_addCycles_38 rfl ?_
            exact ih r5.1 r5.2.1 r5.2.2 (x1 + 1) out hrun K _ _ _ I (lv_sub hl [1, 0] rfl)
  unfold P2_addCycles at hrun
  refine lv_iconst (v := 0) hx hb dX2_addCycles_0 rfl ?_
  refine lv_istore_n (lv' := [(1, .int 0), (0, .ref (ad 4))]) hx hb dX2_addCycles_1 rfl hl (by decide) rfl (fun ls hl => ?_)
  obtain ⟨o6, h_o6, hrun⟩ := p_bnd hrun
  refine loop_2 FU v_cycleCount v_fo v_cy 0 o6 h_o6 (fun H locs ls I hl => ?_) _ _ _ I (lv_sub hl [1, 0] rfl)
  cases hrun
  exact rE_v C hr hlk hQ I dX2_addCycles_41

abbrev rm2_linkCycles : Room := { frames := 2, cells := 0, slots := 0, locals := 44 }
theorem fl2_linkCycles_23 : Cond.fieldLink RX2 23 "RiverWords$River" "cycleCount" "I" ∈ wsX2_linkCycles := by decide +kernel
theorem inm2_linkCycles_X2 : ∀ w ∈ wsX20, w ∈ wsX2_linkCycles := by decide +kernel
theorem hd2_linkCycles : okD yX2_linkCycles 0 := by decide +kernel
set_option maxHeartbeats 8000000 in
set_option maxRecDepth 100000 in
theorem c2_linkCycles {res : (Nat → Nat → Int32)} (hrun : P2_linkCycles v_rsize v_cycleCount v_fo v_cy = some res) : Met l yX2_linkCycles wsX2_linkCycles rm2_linkCycles (va_Pc [.ref (ad 4)] (PE D (tyX cI cR cG) sz (WX0 ad fa ca wad cI cR cG v_wn) (WX ad fa ca wad cI cR cG v_roadCount v_readings v_psize v_good v_pbits v_letters v_afterLetter v_codes v_disc v_rsize v_cycleCount v_fo v_cy v_s v_closed v_traces v_crossings v_db_bits v_db_size v_db_allBits v_db_a v_db_b v_db_c v_db_d v_dn_bits v_dn_size v_dn_allBits v_dn_a v_dn_b v_dn_c v_dn_d v_wn v_wv))) (va_Qv (fun _ : Unit => True) (fun _ t => va_P D vwCl (WX ad fa ca wad cI cR cG v_roadCount v_readings v_psize v_good v_pbits v_letters v_afterLetter v_codes v_disc v_rsize v_cycleCount v_fo res v_s v_closed v_traces v_crossings v_db_bits v_db_size v_db_allBits v_db_a v_db_b v_db_c v_db_d v_dn_bits v_dn_size v_dn_allBits v_dn_a v_dn_b v_dn_c v_dn_d v_wn v_wv) t.heap) (va_A (WX0 ad fa ca wad cI cR cG v_wn) sz)) 0 0 (va_A (WX0 ad fa ca wad cI cR cG v_wn) sz) := by
  refine E_in (cc := cX2_linkCycles) (maxL := 3) (ret := none) (by decide) rfl (Nat.le_of_ble_eq_true rfl) ?_
  intro p e s m args below meth c ls Q hQ C hr hlk hK hN hD hA I hl
  have C : CallFix p m c cX2_linkCycles 3 s args wsX2_linkCycles RX2 := C
  have hx := C.1
  have hb := C.2.1
  have hl : lv_has ls 3 [(0, .ref (ad 4))] := hl
  have loop_2 : ∀ (n : Nat) (v_cy : Nat → Nat → Int32) (x1 : Int32) (out : (Nat → Nat → Int32)), P2_linkCycles_2 v_rsize v_cycleCount v_fo n v_cy x1 = some out → (∀ (H : Heap) (locs : List Loc) (ls : Array Slot), IM D (va_A (WX0 ad fa ca wad cI cR cG v_wn) sz) s.heap H locs (WX ad fa ca wad cI cR cG v_roadCount v_readings v_psize v_good v_pbits v_letters v_afterLetter v_codes v_disc v_rsize v_cycleCount v_fo out v_s v_closed v_traces v_crossings v_db_bits v_db_size v_db_allBits v_db_a v_db_b v_db_c v_db_d v_dn_bits v_dn_size v_dn_allBits v_dn_a v_dn_b v_dn_c v_dn_d v_wn v_wv) → lv_has ls 3 [] → W p l e rm2_linkCycles s m args below meth c H locs 0 0 Q (F0 m 59 ls [])) → ∀ (H : Heap) (locs : List Loc) (ls : Array Slot), IM D (va_A (WX0 ad fa ca wad cI cR cG v_wn) sz) s.heap H locs (WX ad fa ca wad cI cR cG v_roadCount v_readings v_psize v_good v_pbits v_letters v_afterLetter v_codes v_disc v_rsize v_cycleCount v_fo v_cy v_s v_closed v_traces v_crossings v_db_bits v_db_size v_db_allBits v_db_a v_db_b v_db_c v_db_d v_dn_bits v_dn_size v_dn_allBits v_dn_a v_dn_b v_dn_c v_dn_d v_wn v_wv) → lv_has ls 3 [(0, .ref (ad 4)), (1, .int x1)] → W p l e rm2_linkCycles s m args below meth c H locs 0 0 Q (F0 m 2 ls []) := by
    intro n
    induction n with
    | zero =>
      intro v_cy x1 out hrun K H locs ls I hl
      cases hrun
    | succ n ih =>
      intro v_cy x1 out hrun K H locs ls I hl
      rw [P2_linkCycles_2] at hrun
      refine lv_iload_n hx hb dX2_linkCycles_2 rfl (lv_at hl 1 rfl) ?_
      refine lv_aload_n hx hb dX2_linkCycles_3 rfl (lv_at hl 0 rfl) ?_
      refine gX_R_cycleCount C inm2_linkCycles_X2 hK I.1 fl2_linkCycles_23 dX2_linkCycles_4 ?_
      refine lv_icmp_ge (tgt := 59) hx hb dX2_linkCycles_7 rfl (fun c1 => ?_) (fun c1 => ?_)
      · have hrun := p_pos hrun c1
        cases hrun
        exact K _ _ _ I (lv_sub hl [] rfl)
      · have hrun := p_neg hrun c1
        refine lv_aload_n hx hb dX2_linkCycles_10 rfl (lv_at hl 0 rfl) ?_
        refine lv_iload_n hx hb dX2_linkCycles_11 rfl (lv_at hl 1 rfl) ?_
        refine lv_iconst (v := 0) hx hb dX2_linkCycles_12 rfl ?_
        obtain ⟨r2, h_r2, hrun⟩ := p_bnd hrun
        refine jVS_i (rest := []) C (c2_ofCycle h_r2) gX2_linkCycles_X2_ofCycle hd2_ofCycle hK hN I.1 rcR rfl ⟨rfl, rfl⟩ ⟨Nat.le_of_ble_eq_true rfl, Nat.le_of_ble_eq_true rfl⟩ rfl hl.1 rfl (Nat.le_of_ble_eq_true rfl) ⟨Nat.le_of_ble_eq_true rfl, Nat.le_of_ble_eq_true rfl⟩ dX2_linkCycles_13 ?_
        refine lv_istore_n (lv' := [(2, .int r2), (0, .ref (ad 4)), (1, .int x1)]) hx hb dX2_linkCycles_16 rfl hl (by decide) rfl (fun ls hl => ?_)
        refine lv_aload_n hx hb dX2_linkCycles_17 rfl (lv_at hl 1 rfl) ?_
        refine lv_iload_n hx hb dX2_linkCycles_18 rfl (lv_at hl 2 rfl) ?_
        refine lv_iconst (v := 3) hx hb dX2_linkCycles_19 rfl ?_
        refine lv_aload_n hx hb dX2_linkCycles_20 rfl (lv_at hl 1 rfl) ?_
        refine lv_aload_n hx hb dX2_linkCycles_21 rfl (lv_at hl 1 rfl) ?_
        refine lv_iload_n hx hb dX2_linkCycles_22 rfl (lv_at hl 0 rfl) ?_
        refine lv_bipush (v := 6) hx hb dX2_linkCycles_23 rfl ?_
        obtain ⟨r3, h_r3, hrun⟩ := p_bnd hrun
        refine jVS_i (rest := [.ref (ad 4), .int 3, .int x1, .ref (ad 4)]) C (c2_ofForm h_r3) gX2_linkCycles_X2_ofForm hd2_ofForm hK hN I.1 rcR rfl ⟨rfl, rfl⟩ ⟨Nat.le_of_ble_eq_true rfl, Nat.le_of_ble_eq_true rfl⟩ rfl hl.1 rfl (Nat.le_of_ble_eq_true rfl) ⟨Nat.le_of_ble_eq_true rfl, Nat.le_of_ble_eq_true rfl⟩ dX2_linkCycles_25 ?_
        refine lv_iconst (v := 3) hx hb dX2_linkCycles_28 rfl ?_
        obtain ⟨r4, h_r4, hrun⟩ := p_bnd hrun
        refine jVS_i (rest := [.int 3, .int x1, .ref (ad 4)]) C (c2_ofForm h_r4) gX2_linkCycles_X2_ofForm hd2_ofForm hK hN I.1 rcR rfl ⟨rfl, rfl⟩ ⟨Nat.le_of_ble_eq_true rfl, Nat.le_of_ble_eq_true rfl⟩ rfl hl.1 rfl (Nat.le_of_ble_eq_true rfl) ⟨Nat.le_of_ble_eq_true rfl, Nat.le_of_ble_eq_true rfl⟩ dX2_linkCycles_29 ?_
        obtain ⟨r5, h_r5, hrun⟩ := p_bnd hrun
        refine jVE_v (rest := []) C (c2_setCycle h_r5) gX2_linkCycles_X2_setCycle hd2_setCycle hK hN hD hA I rcR rfl ⟨rfl, rfl⟩ ⟨Nat.le_of_ble_eq_true rfl, Nat.le_of_ble_eq_true rfl⟩ rfl hl.1 rfl (Nat.le_of_ble_eq_true rfl) ⟨Nat.le_of_ble_eq_true rfl, Nat.le_of_ble_eq_true rfl⟩ dX2_linkCycles_32 (fun H locs I => ?_)
        refine lv_aload_n hx hb dX2_linkCycles_35 rfl (lv_at hl 1 rfl) ?_
        refine lv_iload_n hx hb dX2_linkCycles_36 rfl (lv_at hl 2 rfl) ?_
        refine lv_iconst (v := 4) hx hb dX2_linkCycles_37 rfl ?_
        refine lv_aload_n hx hb dX2_linkCycles_38 rfl (lv_at hl 1 rfl) ?_
        refine lv_aload_n hx hb dX2_linkCycles_39 rfl (lv_at hl 1 rfl) ?_
        refine lv_iload_n hx hb dX2_linkCycles_40 rfl (lv_at hl 0 rfl) ?_
        refine lv_bipush (v := 7) hx hb dX2_linkCycles_41 rfl ?_
        obtain ⟨r6, h_r6, hrun⟩ := p_bnd hrun
        refine jVS_i (rest := [.ref (ad 4), .int 4, .int x1, .ref (ad 4)]) C (c2_ofForm h_r6) gX2_linkCycles_X2_ofForm hd2_ofForm hK hN I.1 rcR rfl ⟨rfl, rfl⟩ ⟨Nat.le_of_ble_eq_true rfl, Nat.le_of_ble_eq_true rfl⟩ rfl hl.1 rfl (Nat.le_of_ble_eq_true rfl) ⟨Nat.le_of_ble_eq_true rfl, Nat.le_of_ble_eq_true rfl⟩ dX2_linkCycles_43 ?_
        refine lv_iconst (v := 3) hx hb dX2_linkCycles_46 rfl ?_
        obtain ⟨r7, h_r7, hrun⟩ := p_bnd hrun
        refine jVS_i (rest := [.int 4, .int x1, .ref (ad 4)]) C (c2_ofForm h_r7) gX2_linkCycles_X2_ofForm hd2_ofForm hK hN I.1 rcR rfl ⟨rfl, rfl⟩ ⟨Nat.le_of_ble_eq_true rfl, Nat.le_of_ble_eq_true rfl⟩ rfl hl.1 rfl (Nat.le_of_ble_eq_true rfl) ⟨Nat.le_of_ble_eq_true rfl, Nat.le_of_ble_eq_true rfl⟩ dX2_linkCycles_47 ?_
        obtain ⟨r8, h_r8, hrun⟩ := p_bnd hrun
        refine jVE_v (rest := []) C (c2_setCycle h_r8) gX2_linkCycles_X2_setCycle hd2_setCycle hK hN hD hA I rcR rfl ⟨rfl, rfl⟩ ⟨Nat.le_of_ble_eq_true rfl, Nat.le_of_ble_eq_true rfl⟩ rfl hl.1 rfl (Nat.le_of_ble_eq_true rfl) ⟨Nat.le_of_ble_eq_true rfl, Nat.le_of_ble_eq_true rfl⟩ dX2_linkCycles_50 (fun H locs I => ?_)
        refine lv_iinc (v := x1 + 1) (lv' := [(1, .int (x1 + 1)), (2, .int r2), (0, .ref (ad 4))]) hx hb dX2_linkCycles_53 hl (k := 2) rfl rfl (by decide) rfl (fun ls hl => ?_)
        refine lv_goto (tgt := 2) hx hb dX2_linkCycles_56 rfl ?_
        exact ih r8 (x1 + 1) out hrun K _ _ _ I (lv_sub hl [2, 0] rfl)
  unfold P2_linkCycles at hrun
  refine lv_iconst (v := 0) hx hb dX2_linkCycles_0 rfl ?_
  refine lv_istore_n (lv' := [(1, .int 0), (0, .ref (ad 4))]) hx hb dX2_linkCycles_1 rfl hl (by decide) rfl (fun ls hl => ?_)
  obtain ⟨o9, h_o9, hrun⟩ := p_bnd hrun
  refine loop_2 FU v_cy 0 o9 h_o9 (fun H locs ls I hl => ?_) _ _ _ I (lv_sub hl [1, 0] rfl)
  cases hrun
  exact rE_v C hr hlk hQ I dX2_linkCycles_59

abbrev rm2_become : Room := { frames := 5, cells := 0, slots := 0, locals := 117 }
theorem fl2_become_19 : Cond.fieldLink RX2 19 "RiverWords$River" "size" "I" ∈ wsX2_become := by decide +kernel
theorem fl2_become_23 : Cond.fieldLink RX2 23 "RiverWords$River" "cycleCount" "I" ∈ wsX2_become := by decide +kernel
theorem fl2_become_34 : Cond.fieldLink RX2 34 "RiverWords$River" "discriminant" "I" ∈ wsX2_become := by decide +kernel
theorem inm2_become_X2 : ∀ w ∈ wsX20, w ∈ wsX2_become := by decide +kernel
theorem hd2_become : okD yX2_become 1 := by decide +kernel
set_option maxHeartbeats 8000000 in
set_option maxRecDepth 100000 in
theorem c2_become {x1 : Int32} {res : Int32 × Int32 × Int32 × (Nat → Nat → Int32) × (Nat → Nat → Int32)} (hrun : P2_become v_fo v_cy x1 = some res) : Met l yX2_become wsX2_become rm2_become (va_Pc [.ref (ad 4), .int x1] (PE D (tyX cI cR cG) sz (WX0 ad fa ca wad cI cR cG v_wn) (WX ad fa ca wad cI cR cG v_roadCount v_readings v_psize v_good v_pbits v_letters v_afterLetter v_codes v_disc v_rsize v_cycleCount v_fo v_cy v_s v_closed v_traces v_crossings v_db_bits v_db_size v_db_allBits v_db_a v_db_b v_db_c v_db_d v_dn_bits v_dn_size v_dn_allBits v_dn_a v_dn_b v_dn_c v_dn_d v_wn v_wv))) (va_Qv (fun _ : Unit => True) (fun _ t => va_P D vwCl (WX ad fa ca wad cI cR cG v_roadCount v_readings v_psize v_good v_pbits v_letters v_afterLetter v_codes res.1 res.2.1 res.2.2.1 res.2.2.2.1 res.2.2.2.2 v_s v_closed v_traces v_crossings v_db_bits v_db_size v_db_allBits v_db_a v_db_b v_db_c v_db_d v_dn_bits v_dn_size v_dn_allBits v_dn_a v_dn_b v_dn_c v_dn_d v_wn v_wv) t.heap) (va_A (WX0 ad fa ca wad cI cR cG v_wn) sz)) 0 0 (va_A (WX0 ad fa ca wad cI cR cG v_wn) sz) := by
  refine E_in (cc := cX2_become) (maxL := 4) (ret := none) (by decide) rfl (Nat.le_of_ble_eq_true rfl) ?_
  intro p e s m args below meth c ls Q hQ C hr hlk hK hN hD hA I hl
  have C : CallFix p m c cX2_become 4 s args wsX2_become RX2 := C
  have hx := C.1
  have hb := C.2.1
  have hl : lv_has ls 4 [(0, .ref (ad 4)), (1, .int x1)] := hl
  have loop_18 : ∀ (v_disc : Int32) (v_cycleCount : Int32) (v_cy : Nat → Nat → Int32) (n : Nat) (v_rsize : Int32) (v_fo : Nat → Nat → Int32) (x2 : Int32) (out : Int32 × (Nat → Nat → Int32)), P2_become_18 v_disc n v_rsize v_fo x2 = some out → (∀ (H : Heap) (locs : List Loc) (ls : Array Slot), IM D (va_A (WX0 ad fa ca wad cI cR cG v_wn) sz) s.heap H locs (WX ad fa ca wad cI cR cG v_roadCount v_readings v_psize v_good v_pbits v_letters v_afterLetter v_codes v_disc out.1 v_cycleCount out.2 v_cy v_s v_closed v_traces v_crossings v_db_bits v_db_size v_db_allBits v_db_a v_db_b v_db_c v_db_d v_dn_bits v_dn_size v_dn_allBits v_dn_a v_dn_b v_dn_c v_dn_d v_wn v_wv) → lv_has ls 4 [(0, .ref (ad 4))] → W p l e rm2_become s m args below meth c H locs 0 0 Q (F0 m 57 ls [])) → ∀ (H : Heap) (locs : List Loc) (ls : Array Slot), IM D (va_A (WX0 ad fa ca wad cI cR cG v_wn) sz) s.heap H locs (WX ad fa ca wad cI cR cG v_roadCount v_readings v_psize v_good v_pbits v_letters v_afterLetter v_codes v_disc v_rsize v_cycleCount v_fo v_cy v_s v_closed v_traces v_crossings v_db_bits v_db_size v_db_allBits v_db_a v_db_b v_db_c v_db_d v_dn_bits v_dn_size v_dn_allBits v_dn_a v_dn_b v_dn_c v_dn_d v_wn v_wv) → lv_has ls 4 [(0, .ref (ad 4)), (2, .int x2)] → W p l e rm2_become s m args below meth c H locs 0 0 Q (F0 m 18 ls []) := by
    intro v_disc v_cycleCount v_cy n
    induction n with
    | zero =>
      intro v_rsize v_fo x2 out hrun K H locs ls I hl
      cases hrun
    | succ n ih =>
      intro v_rsize v_fo x2 out hrun K H locs ls I hl
      rw [P2_become_18] at hrun
      refine lv_iload_n hx hb dX2_become_18 rfl (lv_at hl 1 rfl) ?_
      refine lv_bipush (v := 30) hx hb dX2_become_19 rfl ?_
      refine lv_icmp_gt (tgt := 57) hx hb dX2_become_21 rfl (fun c1 => ?_) (fun c1 => ?_)
      · have hrun := p_pos hrun c1
        cases hrun
        exact K _ _ _ I (lv_sub hl [0] rfl)
      · have hrun := p_neg hrun c1
        refine lv_aload_n hx hb dX2_become_24 rfl (lv_at hl 0 rfl) ?_
        refine gX_R_discriminant C inm2_become_X2 hK I.1 fl2_become_34 dX2_become_25 ?_
        refine lv_iload_n hx hb dX2_become_28 rfl (lv_at hl 1 rfl) ?_
        refine lv_iload_n hx hb dX2_become_29 rfl (lv_at hl 1 rfl) ?_
        refine lv_imul hx hb dX2_become_30 ?_
        refine lv_isub hx hb dX2_become_31 ?_
        refine lv_istore_n (lv' := [(3, .int (v_disc - (x2 * x2))), (0, .ref (ad 4)), (2, .int x2)]) hx hb dX2_become_32 rfl hl (by decide) rfl (fun ls hl => ?_)
        refine lv_iload_n hx hb dX2_become_33 rfl (lv_at hl 0 rfl) ?_
        refine lv_if_le (tgt := 51) hx hb dX2_become_34 rfl (fun c2 => ?_) (fun c2 => ?_)
        · have hrun := p_pos hrun c2
          refine lv_iinc (v := x2 + 1) (lv' := [(2, .int (x2 + 1)), (3, .int (v_disc - (x2 * x2))), (0, .ref (ad 4))]) hx hb dX2_become_51 hl (k := 2) rfl rfl (by decide) rfl (fun ls hl => ?_)
          refine lv_goto (tgt := 18) hx hb dX2_become_54 rfl ?_
          exact ih v_rsize v_fo (x2 + 1) out hrun K _ _ _ I (lv_sub hl [2, 0] rfl)
        · have hrun := p_neg hrun c2
          refine lv_iload_n hx hb dX2_become_37 rfl (lv_at hl 0 rfl) ?_
          refine lv_iconst (v := 4) hx hb dX2_become_38 rfl ?_
          refine j_irem hx hb dX2_become_39 (by decide) ?_
          refine lv_if_ne (tgt := 51) hx hb dX2_become_40 rfl (fun c3 => ?_) (fun c3 => ?_)
          · have hrun := p_neg hrun c3
            refine lv_iinc (v := x2 + 1) (lv' := [(2, .int (x2 + 1)), (3, .int (v_disc - (x2 * x2))), (0, .ref (ad 4))]) hx hb dX2_become_51 hl (k := 2) rfl rfl (by decide) rfl (fun ls hl => ?_)
            refine lv_goto (tgt := 18) hx hb dX2_become_54 rfl ?_
            exact ih v_rsize v_fo (x2 + 1) out hrun K _ _ _ I (lv_sub hl [2, 0] rfl)
          · have hrun := p_pos hrun c3
            refine lv_aload_n hx hb dX2_become_43 rfl (lv_at hl 1 rfl) ?_
            refine lv_iload_n hx hb dX2_become_44 rfl (lv_at hl 2 rfl) ?_
            refine lv_iload_n hx hb dX2_become_45 rfl (lv_at hl 0 rfl) ?_
            refine lv_iconst (v := 4) hx hb dX2_become_46 rfl ?_
            refine lv_idiv hx hb dX2_become_47 (by decide) ?_
            obtain ⟨r4, h_r4, hrun⟩ := p_bnd hrun
            refine jVE_v (rest := []) C (c2_addForms h_r4) gX2_become_X2_addForms hd2_addForms hK hN hD hA I rcR rfl ⟨rfl, rfl⟩ ⟨Nat.le_of_ble_eq_true rfl, Nat.le_of_ble_eq_true rfl⟩ rfl hl.1 rfl (Nat.le_of_ble_eq_true rfl) ⟨Nat.le_of_ble_eq_true rfl, Nat.le_of_ble_eq_true rfl⟩ dX2_become_48 (fun H locs I => ?_)
            refine lv_iinc (v := x2 + 1) (lv' := [(2, .int (x2 + 1)), (3, .int (v_disc - (x2 * x2))), (0, .ref (ad 4))]) hx hb dX2_become_51 hl (k := 2) rfl rfl (by decide) rfl (fun ls hl => ?_)
            refine lv_goto (tgt := 18) hx hb dX2_become_54 rfl ?_
            exact ih r4.1 r4.2 (x2 + 1) out hrun K _ _ _ I (lv_sub hl [2, 0] rfl)
  unfold P2_become at hrun
  refine lv_aload_n hx hb dX2_become_0 rfl (lv_at hl 0 rfl) ?_
  refine lv_iload_n hx hb dX2_become_1 rfl (lv_at hl 1 rfl) ?_
  refine pX_R_discriminant C inm2_become_X2 hK hD I fl2_become_34 dX2_become_2 (fun H locs I => ?_)
  refine lv_aload_n hx hb dX2_become_5 rfl (lv_at hl 0 rfl) ?_
  refine lv_iconst (v := 0) hx hb dX2_become_6 rfl ?_
  refine pX_R_size C inm2_become_X2 hK hD I fl2_become_19 dX2_become_7 (fun H locs I => ?_)
  refine lv_aload_n hx hb dX2_become_10 rfl (lv_at hl 0 rfl) ?_
  refine lv_iconst (v := 0) hx hb dX2_become_11 rfl ?_
  refine pX_R_cycleCount C inm2_become_X2 hK hD I fl2_become_23 dX2_become_12 (fun H locs I => ?_)
  refine lv_bipush (v := (-30)) hx hb dX2_become_15 rfl ?_
  refine lv_istore_n (lv' := [(2, .int (-30)), (0, .ref (ad 4)), (1, .int x1)]) hx hb dX2_become_17 rfl hl (by decide) rfl (fun ls hl => ?_)
  obtain ⟨o5, h_o5, hrun⟩ := p_bnd hrun
  refine loop_18 x1 0 v_cy FU 0 v_fo (-30) o5 h_o5 (fun H locs ls I hl => ?_) _ _ _ I (lv_sub hl [1, 0] rfl)
  refine lv_aload_n hx hb dX2_become_57 rfl (lv_at hl 0 rfl) ?_
  obtain ⟨r6, h_r6, hrun⟩ := p_bnd hrun
  refine jVE_v (rest := []) C (c2_linkForms h_r6) gX2_become_X2_linkForms hd2_linkForms hK hN hD hA I rcR rfl ⟨rfl, rfl⟩ ⟨Nat.le_of_ble_eq_true rfl, Nat.le_of_ble_eq_true rfl⟩ rfl hl.1 rfl (Nat.le_of_ble_eq_true rfl) ⟨Nat.le_of_ble_eq_true rfl, Nat.le_of_ble_eq_true rfl⟩ dX2_become_58 (fun H locs I => ?_)
  refine lv_aload_n hx hb dX2_become_61 rfl (lv_at hl 0 rfl) ?_
  obtain ⟨r7, h_r7, hrun⟩ := p_bnd hrun
  refine jVE_v (rest := []) C (c2_addCycles h_r7) gX2_become_X2_addCycles hd2_addCycles hK hN hD hA I rcR rfl ⟨rfl, rfl⟩ ⟨Nat.le_of_ble_eq_true rfl, Nat.le_of_ble_eq_true rfl⟩ rfl hl.1 rfl (Nat.le_of_ble_eq_true rfl) ⟨Nat.le_of_ble_eq_true rfl, Nat.le_of_ble_eq_true rfl⟩ dX2_become_62 (fun H locs I => ?_)
  refine lv_aload_n hx hb dX2_become_65 rfl (lv_at hl 0 rfl) ?_
  obtain ⟨r8, h_r8, hrun⟩ := p_bnd hrun
  refine jVE_v (rest := []) C (c2_linkCycles h_r8) gX2_become_X2_linkCycles hd2_linkCycles hK hN hD hA I rcR rfl ⟨rfl, rfl⟩ ⟨Nat.le_of_ble_eq_true rfl, Nat.le_of_ble_eq_true rfl⟩ rfl hl.1 rfl (Nat.le_of_ble_eq_true rfl) ⟨Nat.le_of_ble_eq_true rfl, Nat.le_of_ble_eq_true rfl⟩ dX2_become_66 (fun H locs I => ?_)
  cases hrun
  exact rE_v C hr hlk hQ I dX2_become_69

abbrev rm2_letterAt : Room := { frames := 2, cells := 0, slots := 0, locals := 43 }
theorem hd2_letterAt : okD yX2_letterAt 2 := by decide +kernel
set_option maxHeartbeats 8000000 in
set_option maxRecDepth 100000 in
theorem c2_letterAt {x1 : Int32} {x2 : Int32} {res : Int32} (hrun : P2_letterAt v_rsize v_cycleCount v_fo v_cy x1 x2 = some res) : Met l yX2_letterAt wsX2_letterAt rm2_letterAt (va_Pc [.ref (ad 4), .int x1, .int x2] (PS D (tyX cI cR cG) (WX ad fa ca wad cI cR cG v_roadCount v_readings v_psize v_good v_pbits v_letters v_afterLetter v_codes v_disc v_rsize v_cycleCount v_fo v_cy v_s v_closed v_traces v_crossings v_db_bits v_db_size v_db_allBits v_db_a v_db_b v_db_c v_db_d v_dn_bits v_dn_size v_dn_allBits v_dn_a v_dn_b v_dn_c v_dn_d v_wn v_wv))) (vp_Si (fun x => x = res)) 0 0 (fun _ => False) := by
  refine S_in (cc := cX2_letterAt) (maxL := 5) (ret := (some .int)) (by decide) rfl (Nat.le_of_ble_eq_true rfl) ?_
  intro p e s m args below meth c ls Q hQ C hr hlk hK hN hP hl
  have C : CallFix p m c cX2_letterAt 5 s args wsX2_letterAt RX2 := C
  have hx := C.1
  have hb := C.2.1
  have hl : lv_has ls 5 [(0, .ref (ad 4)), (1, .int x1), (2, .int x2)] := hl
  have loop_10 : ∀ (n : Nat) (x3 : Int32) (x4 : Int32) (out : Int32), P2_letterAt_10 v_rsize v_fo x2 n x3 x4 = some out → (∀ (ls : Array Slot), lv_has ls 5 [(0, .ref (ad 4)), (3, .int out)] → W p l e rm2_letterAt s m args below meth c s.heap [] 0 0 Q (F0 m 29 ls [])) → ∀ (ls : Array Slot), lv_has ls 5 [(0, .ref (ad 4)), (2, .int x2), (3, .int x3), (4, .int x4)] → W p l e rm2_letterAt s m args below meth c s.heap [] 0 0 Q (F0 m 10 ls []) := by
    intro n
    induction n with
    | zero =>
      intro x3 x4 out hrun K ls hl
      cases hrun
    | succ n ih =>
      intro x3 x4 out hrun K ls hl
      rw [P2_letterAt_10] at hrun
      refine lv_iload hx hb dX2_letterAt_10 (lv_at hl 3 rfl) ?_
      refine lv_iload_n hx hb dX2_letterAt_12 rfl (lv_at hl 1 rfl) ?_
      refine lv_icmp_ge (tgt := 29) hx hb dX2_letterAt_13 rfl (fun c2 => ?_) (fun c2 => ?_)
      · have hrun := p_pos hrun c2
        cases hrun
        exact K _ (lv_sub hl [0, 2] rfl)
      · have hrun := p_neg hrun c2
        refine lv_aload_n hx hb dX2_letterAt_16 rfl (lv_at hl 0 rfl) ?_
        refine lv_iload_n hx hb dX2_letterAt_17 rfl (lv_at hl 2 rfl) ?_
        refine lv_iconst (v := 4) hx hb dX2_letterAt_18 rfl ?_
        obtain ⟨r3, h_r3, hrun⟩ := p_bnd hrun
        refine jVS_i (rest := []) C (c2_ofForm h_r3) gX2_letterAt_X2_ofForm hd2_ofForm hK hN hP rcR rfl ⟨rfl, rfl⟩ ⟨Nat.le_of_ble_eq_true rfl, Nat.le_of_ble_eq_true rfl⟩ rfl hl.1 rfl (Nat.le_of_ble_eq_true rfl) ⟨Nat.le_of_ble_eq_true rfl, Nat.le_of_ble_eq_true rfl⟩ dX2_letterAt_19 ?_
        refine lv_istore_n (lv' := [(3, .int r3), (0, .ref (ad 4)), (2, .int x2), (4, .int x4)]) hx hb dX2_letterAt_22 rfl hl (by decide) rfl (fun ls hl => ?_)
        refine lv_iinc (v := x4 + 1) (lv' := [(4, .int (x4 + 1)), (3, .int r3), (0, .ref (ad 4)), (2, .int x2)]) hx hb dX2_letterAt_23 hl (k := 3) rfl rfl (by decide) rfl (fun ls hl => ?_)
        refine lv_goto (tgt := 10) hx hb dX2_letterAt_26 rfl ?_
        exact ih r3 (x4 + 1) out hrun K _ (lv_sub hl [2, 3, 1, 0] rfl)
  unfold P2_letterAt at hrun
  refine lv_aload_n hx hb dX2_letterAt_0 rfl (lv_at hl 0 rfl) ?_
  refine lv_iload_n hx hb dX2_letterAt_1 rfl (lv_at hl 1 rfl) ?_
  refine lv_iconst (v := 0) hx hb dX2_letterAt_2 rfl ?_
  obtain ⟨r1, h_r1, hrun⟩ := p_bnd hrun
  refine jVS_i (rest := []) C (c2_ofCycle h_r1) gX2_letterAt_X2_ofCycle hd2_ofCycle hK hN hP rcR rfl ⟨rfl, rfl⟩ ⟨Nat.le_of_ble_eq_true rfl, Nat.le_of_ble_eq_true rfl⟩ rfl hl.1 rfl (Nat.le_of_ble_eq_true rfl) ⟨Nat.le_of_ble_eq_true rfl, Nat.le_of_ble_eq_true rfl⟩ dX2_letterAt_3 ?_
  refine lv_istore_n (lv' := [(3, .int r1), (0, .ref (ad 4)), (1, .int x1), (2, .int x2)]) hx hb dX2_letterAt_6 rfl hl (by decide) rfl (fun ls hl => ?_)
  refine lv_iconst (v := 0) hx hb dX2_letterAt_7 rfl ?_
  refine lv_istore (lv' := [(4, .int 0), (3, .int r1), (0, .ref (ad 4)), (1, .int x1), (2, .int x2)]) hx hb dX2_letterAt_8 hl (by decide) rfl (fun ls hl => ?_)
  obtain ⟨o4, h_o4, hrun⟩ := p_bnd hrun
  refine loop_10 FU r1 0 o4 h_o4 (fun ls hl => ?_) _ (lv_sub hl [2, 4, 1, 0] rfl)
  refine lv_aload_n hx hb dX2_letterAt_29 rfl (lv_at hl 0 rfl) ?_
  refine lv_iload_n hx hb dX2_letterAt_30 rfl (lv_at hl 1 rfl) ?_
  refine lv_iconst (v := 5) hx hb dX2_letterAt_31 rfl ?_
  obtain ⟨r5, h_r5, hrun⟩ := p_bnd hrun
  refine jVS_i (rest := []) C (c2_ofForm h_r5) gX2_letterAt_X2_ofForm hd2_ofForm hK hN hP rcR rfl ⟨rfl, rfl⟩ ⟨Nat.le_of_ble_eq_true rfl, Nat.le_of_ble_eq_true rfl⟩ rfl hl.1 rfl (Nat.le_of_ble_eq_true rfl) ⟨Nat.le_of_ble_eq_true rfl, Nat.le_of_ble_eq_true rfl⟩ dX2_letterAt_32 ?_
  cases hrun
  exact rS_i C hr hlk hQ (nbi _) rfl dX2_letterAt_35

abbrev rm2_wordBits : Room := { frames := 2, cells := 0, slots := 0, locals := 43 }
theorem hd2_wordBits : okD yX2_wordBits 1 := by decide +kernel
set_option maxHeartbeats 8000000 in
set_option maxRecDepth 100000 in
theorem c2_wordBits {x1 : Int32} {res : Int32} (hrun : P2_wordBits v_rsize v_cycleCount v_fo v_cy x1 = some res) : Met l yX2_wordBits wsX2_wordBits rm2_wordBits (va_Pc [.ref (ad 4), .int x1] (PS D (tyX cI cR cG) (WX ad fa ca wad cI cR cG v_roadCount v_readings v_psize v_good v_pbits v_letters v_afterLetter v_codes v_disc v_rsize v_cycleCount v_fo v_cy v_s v_closed v_traces v_crossings v_db_bits v_db_size v_db_allBits v_db_a v_db_b v_db_c v_db_d v_dn_bits v_dn_size v_dn_allBits v_dn_a v_dn_b v_dn_c v_dn_d v_wn v_wv))) (vp_Si (fun x => x = res)) 0 0 (fun _ => False) := by
  refine S_in (cc := cX2_wordBits) (maxL := 6) (ret := (some .int)) (by decide) rfl (Nat.le_of_ble_eq_true rfl) ?_
  intro p e s m args below meth c ls Q hQ C hr hlk hK hN hP hl
  have C : CallFix p m c cX2_wordBits 6 s args wsX2_wordBits RX2 := C
  have hx := C.1
  have hb := C.2.1
  have hl : lv_has ls 6 [(0, .ref (ad 4)), (1, .int x1)] := hl
  have loop_20 : ∀ (x2 : Int32) (n : Nat) (x3 : Int32) (x4 : Int32) (x5 : Int32) (out : Int32), P2_wordBits_20 v_rsize v_fo x2 n x3 x4 x5 = some out → (∀ (ls : Array Slot), lv_has ls 6 [(4, .int out)] → W p l e rm2_wordBits s m args below meth c s.heap [] 0 0 Q (F0 m 62 ls [])) → ∀ (ls : Array Slot), lv_has ls 6 [(0, .ref (ad 4)), (2, .int x2), (3, .int x3), (4, .int x4), (5, .int x5)] → W p l e rm2_wordBits s m args below meth c s.heap [] 0 0 Q (F0 m 20 ls []) := by
    intro x2 n
    induction n with
    | zero =>
      intro x3 x4 x5 out hrun K ls hl
      cases hrun
    | succ n ih =>
      intro x3 x4 x5 out hrun K ls hl
      rw [P2_wordBits_20] at hrun
      refine lv_iload hx hb dX2_wordBits_20 (lv_at hl 4 rfl) ?_
      refine lv_iload_n hx hb dX2_wordBits_22 rfl (lv_at hl 1 rfl) ?_
      refine lv_icmp_ge (tgt := 62) hx hb dX2_wordBits_23 rfl (fun c3 => ?_) (fun c3 => ?_)
      · have hrun := p_pos hrun c3
        cases hrun
        exact K _ (lv_sub hl [3] rfl)
      · have hrun := p_neg hrun c3
        refine lv_iload hx hb dX2_wordBits_26 (lv_at hl 3 rfl) ?_
        refine lv_iconst (v := 1) hx hb dX2_wordBits_28 rfl ?_
        refine j_ishl hx hb dX2_wordBits_29 ?_
        refine lv_aload_n hx hb dX2_wordBits_30 rfl (lv_at hl 0 rfl) ?_
        refine lv_iload_n hx hb dX2_wordBits_31 rfl (lv_at hl 2 rfl) ?_
        refine lv_iconst (v := 5) hx hb dX2_wordBits_32 rfl ?_
        obtain ⟨r4, h_r4, hrun⟩ := p_bnd hrun
        refine jVS_i (rest := [.int (jshl x4 1)]) C (c2_ofForm h_r4) gX2_wordBits_X2_ofForm hd2_ofForm hK hN hP rcR rfl ⟨rfl, rfl⟩ ⟨Nat.le_of_ble_eq_true rfl, Nat.le_of_ble_eq_true rfl⟩ rfl hl.1 rfl (Nat.le_of_ble_eq_true rfl) ⟨Nat.le_of_ble_eq_true rfl, Nat.le_of_ble_eq_true rfl⟩ dX2_wordBits_33 ?_
        refine lv_bipush (v := 82) hx hb dX2_wordBits_36 rfl ?_
        refine lv_icmp_ne (tgt := 45) hx hb dX2_wordBits_38 rfl (fun c5 => ?_) (fun c5 => ?_)
        · have hrun := p_neg hrun c5
          refine lv_iconst (v := 0) hx hb dX2_wordBits_45 rfl ?_
          refine lv_ior hx hb dX2_wordBits_46 ?_
          refine lv_istore (lv' := [(4, .int ((jshl x4 1) ||| 0)), (0, .ref (ad 4)), (2, .int x2), (3, .int x3), (5, .int x5)]) hx hb dX2_wordBits_47 hl (by decide) rfl (fun ls hl => ?_)
          refine lv_aload_n hx hb dX2_wordBits_49 rfl (lv_at hl 1 rfl) ?_
          refine lv_iload_n hx hb dX2_wordBits_50 rfl (lv_at hl 3 rfl) ?_
          refine lv_iconst (v := 4) hx hb dX2_wordBits_51 rfl ?_
          obtain ⟨r6, h_r6, hrun⟩ := p_bnd hrun
          refine jVS_i (rest := []) C (c2_ofForm h_r6) gX2_wordBits_X2_ofForm hd2_ofForm hK hN hP rcR rfl ⟨rfl, rfl⟩ ⟨Nat.le_of_ble_eq_true rfl, Nat.le_of_ble_eq_true rfl⟩ rfl hl.1 rfl (Nat.le_of_ble_eq_true rfl) ⟨Nat.le_of_ble_eq_true rfl, Nat.le_of_ble_eq_true rfl⟩ dX2_wordBits_52 ?_
          refine lv_istore_n (lv' := [(3, .int r6), (4, .int ((jshl x4 1) ||| 0)), (0, .ref (ad 4)), (2, .int x2), (5, .int x5)]) hx hb dX2_wordBits_55 rfl hl (by decide) rfl (fun ls hl => ?_)
          refine lv_iinc (v := x5 + 1) (lv' := [(5, .int (x5 + 1)), (3, .int r6), (4, .int ((jshl x4 1) ||| 0)), (0, .ref (ad 4)), (2, .int x2)]) hx hb dX2_wordBits_56 hl (k := 4) rfl rfl (by decide) rfl (fun ls hl => ?_)
          refine lv_goto (tgt := 20) hx hb dX2_wordBits_59 rfl ?_
          exact ih r6 ((jshl x4 1) ||| 0) (x5 + 1) out hrun K _ (lv_sub hl [3, 4, 1, 2, 0] rfl)
        · have hrun := p_pos hrun c5
          refine lv_iconst (v := 1) hx hb dX2_wordBits_41 rfl ?_
          refine lv_goto (tgt := 46) hx hb dX2_wordBits_42 rfl ?_
          refine lv_ior hx hb dX2_wordBits_46 ?_
          refine lv_istore (lv' := [(4, .int ((jshl x4 1) ||| 1)), (0, .ref (ad 4)), (2, .int x2), (3, .int x3), (5, .int x5)]) hx hb dX2_wordBits_47 hl (by decide) rfl (fun ls hl => ?_)
          refine lv_aload_n hx hb dX2_wordBits_49 rfl (lv_at hl 1 rfl) ?_
          refine lv_iload_n hx hb dX2_wordBits_50 rfl (lv_at hl 3 rfl) ?_
          refine lv_iconst (v := 4) hx hb dX2_wordBits_51 rfl ?_
          obtain ⟨r7, h_r7, hrun⟩ := p_bnd hrun
          refine jVS_i (rest := []) C (c2_ofForm h_r7) gX2_wordBits_X2_ofForm hd2_ofForm hK hN hP rcR rfl ⟨rfl, rfl⟩ ⟨Nat.le_of_ble_eq_true rfl, Nat.le_of_ble_eq_true rfl⟩ rfl hl.1 rfl (Nat.le_of_ble_eq_true rfl) ⟨Nat.le_of_ble_eq_true rfl, Nat.le_of_ble_eq_true rfl⟩ dX2_wordBits_52 ?_
          refine lv_istore_n (lv' := [(3, .int r7), (4, .int ((jshl x4 1) ||| 1)), (0, .ref (ad 4)), (2, .int x2), (5, .int x5)]) hx hb dX2_wordBits_55 rfl hl (by decide) rfl (fun ls hl => ?_)
          refine lv_iinc (v := x5 + 1) (lv' := [(5, .int (x5 + 1)), (3, .int r7), (4, .int ((jshl x4 1) ||| 1)), (0, .ref (ad 4)), (2, .int x2)]) hx hb dX2_wordBits_56 hl (k := 4) rfl rfl (by decide) rfl (fun ls hl => ?_)
          refine lv_goto (tgt := 20) hx hb dX2_wordBits_59 rfl ?_
          exact ih r7 ((jshl x4 1) ||| 1) (x5 + 1) out hrun K _ (lv_sub hl [3, 4, 1, 2, 0] rfl)
  unfold P2_wordBits at hrun
  refine lv_aload_n hx hb dX2_wordBits_0 rfl (lv_at hl 0 rfl) ?_
  refine lv_iload_n hx hb dX2_wordBits_1 rfl (lv_at hl 1 rfl) ?_
  refine lv_iconst (v := 1) hx hb dX2_wordBits_2 rfl ?_
  obtain ⟨r1, h_r1, hrun⟩ := p_bnd hrun
  refine jVS_i (rest := []) C (c2_ofCycle h_r1) gX2_wordBits_X2_ofCycle hd2_ofCycle hK hN hP rcR rfl ⟨rfl, rfl⟩ ⟨Nat.le_of_ble_eq_true rfl, Nat.le_of_ble_eq_true rfl⟩ rfl hl.1 rfl (Nat.le_of_ble_eq_true rfl) ⟨Nat.le_of_ble_eq_true rfl, Nat.le_of_ble_eq_true rfl⟩ dX2_wordBits_3 ?_
  refine lv_istore_n (lv' := [(2, .int r1), (0, .ref (ad 4)), (1, .int x1)]) hx hb dX2_wordBits_6 rfl hl (by decide) rfl (fun ls hl => ?_)
  refine lv_aload_n hx hb dX2_wordBits_7 rfl (lv_at hl 1 rfl) ?_
  refine lv_iload_n hx hb dX2_wordBits_8 rfl (lv_at hl 2 rfl) ?_
  refine lv_iconst (v := 0) hx hb dX2_wordBits_9 rfl ?_
  obtain ⟨r2, h_r2, hrun⟩ := p_bnd hrun
  refine jVS_i (rest := []) C (c2_ofCycle h_r2) gX2_wordBits_X2_ofCycle hd2_ofCycle hK hN hP rcR rfl ⟨rfl, rfl⟩ ⟨Nat.le_of_ble_eq_true rfl, Nat.le_of_ble_eq_true rfl⟩ rfl hl.1 rfl (Nat.le_of_ble_eq_true rfl) ⟨Nat.le_of_ble_eq_true rfl, Nat.le_of_ble_eq_true rfl⟩ dX2_wordBits_10 ?_
  refine lv_istore_n (lv' := [(3, .int r2), (2, .int r1), (0, .ref (ad 4)), (1, .int x1)]) hx hb dX2_wordBits_13 rfl hl (by decide) rfl (fun ls hl => ?_)
  refine lv_iconst (v := 0) hx hb dX2_wordBits_14 rfl ?_
  refine lv_istore (lv' := [(4, .int 0), (3, .int r2), (2, .int r1), (0, .ref (ad 4)), (1, .int x1)]) hx hb dX2_wordBits_15 hl (by decide) rfl (fun ls hl => ?_)
  refine lv_iconst (v := 0) hx hb dX2_wordBits_17 rfl ?_
  refine lv_istore (lv' := [(5, .int 0), (4, .int 0), (3, .int r2), (2, .int r1), (0, .ref (ad 4)), (1, .int x1)]) hx hb dX2_wordBits_18 hl (by decide) rfl (fun ls hl => ?_)
  obtain ⟨o8, h_o8, hrun⟩ := p_bnd hrun
  refine loop_20 r1 FU r2 0 0 o8 h_o8 (fun ls hl => ?_) _ (lv_sub hl [4, 3, 2, 1, 0] rfl)
  refine lv_iload hx hb dX2_wordBits_62 (lv_at hl 0 rfl) ?_
  cases hrun
  exact rS_i C hr hlk hQ (nbi _) rfl dX2_wordBits_64

end X94
