section X90
variable {l : Launch} {D : va_G} {sz : Nat}
variable {ad fa ca wad : Nat → Nat} {cI cR cG : ClassId}
variable {v_roadCount v_readings v_psize v_good v_pbits v_letters v_afterLetter v_disc v_rsize v_cycleCount v_closed v_traces v_crossings v_db_bits v_db_size v_db_allBits v_db_a v_db_b v_db_c v_db_d v_dn_bits v_dn_size v_dn_allBits v_dn_a v_dn_b v_dn_c v_dn_d : Int32}
variable {v_s : Int64}
variable {v_codes : Nat → Int32}
variable {v_fo v_cy v_wv : Nat → Nat → Int32}
variable {v_wn : Nat}
abbrev rm0_nextBits : Room := { frames := 0, cells := 0, slots := 0, locals := 0 }
theorem fl0_nextBits_21 : Cond.fieldLink RX0 21 "RiverWords$Draw" "s" "J" ∈ wsX0_nextBits := by decide +kernel
theorem k0_nextBits_48 : Cond.constantLong RX0 48 1103515245 ∈ wsX0_nextBits := by decide +kernel
theorem k0_nextBits_50 : Cond.constantLong RX0 50 12345 ∈ wsX0_nextBits := by decide +kernel
theorem k0_nextBits_52 : Cond.constantLong RX0 52 2147483648 ∈ wsX0_nextBits := by decide +kernel
theorem k0_nextBits_54 : Cond.constantLong RX0 54 65536 ∈ wsX0_nextBits := by decide +kernel
theorem k0_nextBits_56 : Cond.constantLong RX0 56 2 ∈ wsX0_nextBits := by decide +kernel
theorem inm0_nextBits_X0 : ∀ w ∈ wsX00, w ∈ wsX0_nextBits := by decide +kernel
theorem hd0_nextBits : okD yX0_nextBits 0 := by decide +kernel
set_option maxHeartbeats 8000000 in
set_option maxRecDepth 100000 in
theorem c0_nextBits {res : Int32 × Int64} (hrun : P0_nextBits v_s = some res) : Met l yX0_nextBits wsX0_nextBits rm0_nextBits (va_Pc [.ref (ad 7)] (PE D (tyX cI cR cG) sz (WX0 ad fa ca wad cI cR cG v_wn) (WX ad fa ca wad cI cR cG v_roadCount v_readings v_psize v_good v_pbits v_letters v_afterLetter v_codes v_disc v_rsize v_cycleCount v_fo v_cy v_s v_closed v_traces v_crossings v_db_bits v_db_size v_db_allBits v_db_a v_db_b v_db_c v_db_d v_dn_bits v_dn_size v_dn_allBits v_dn_a v_dn_b v_dn_c v_dn_d v_wn v_wv))) (va_Qi (fun (x : Int32) (_ : Unit) => x = res.1) (fun _ t => va_P D vwCl (WX ad fa ca wad cI cR cG v_roadCount v_readings v_psize v_good v_pbits v_letters v_afterLetter v_codes v_disc v_rsize v_cycleCount v_fo v_cy res.2 v_closed v_traces v_crossings v_db_bits v_db_size v_db_allBits v_db_a v_db_b v_db_c v_db_d v_dn_bits v_dn_size v_dn_allBits v_dn_a v_dn_b v_dn_c v_dn_d v_wn v_wv) t.heap) (va_A (WX0 ad fa ca wad cI cR cG v_wn) sz)) 0 0 (va_A (WX0 ad fa ca wad cI cR cG v_wn) sz) := by
  refine E_in (cc := cX0_nextBits) (maxL := 3) (ret := (some .int)) (by decide) rfl (Nat.le_of_ble_eq_true rfl) ?_
  intro p e s m args below meth c ls Q hQ C hr hlk hK hN hD hA I hl
  have C : CallFix p m c cX0_nextBits 3 s args wsX0_nextBits RX0 := C
  have hx := C.1
  have hb := C.2.1
  have hl : lv_has ls 3 [(0, .ref (ad 7))] := hl
  have loop_4 : ∀ (n : Nat) (v_s : Int64) (x1 : Int32) (x2 : Int32) (out : Int64 × Int32), P0_nextBits_4 n v_s x1 x2 = some out → (∀ (H : Heap) (locs : List Loc) (ls : Array Slot), IM D (va_A (WX0 ad fa ca wad cI cR cG v_wn) sz) s.heap H locs (WX ad fa ca wad cI cR cG v_roadCount v_readings v_psize v_good v_pbits v_letters v_afterLetter v_codes v_disc v_rsize v_cycleCount v_fo v_cy out.1 v_closed v_traces v_crossings v_db_bits v_db_size v_db_allBits v_db_a v_db_b v_db_c v_db_d v_dn_bits v_dn_size v_dn_allBits v_dn_a v_dn_b v_dn_c v_dn_d v_wn v_wv) → lv_has ls 3 [(1, .int out.2)] → W p l e rm0_nextBits s m args below meth c H locs 0 0 Q (F0 m 54 ls [])) → ∀ (H : Heap) (locs : List Loc) (ls : Array Slot), IM D (va_A (WX0 ad fa ca wad cI cR cG v_wn) sz) s.heap H locs (WX ad fa ca wad cI cR cG v_roadCount v_readings v_psize v_good v_pbits v_letters v_afterLetter v_codes v_disc v_rsize v_cycleCount v_fo v_cy v_s v_closed v_traces v_crossings v_db_bits v_db_size v_db_allBits v_db_a v_db_b v_db_c v_db_d v_dn_bits v_dn_size v_dn_allBits v_dn_a v_dn_b v_dn_c v_dn_d v_wn v_wv) → lv_has ls 3 [(0, .ref (ad 7)), (1, .int x1), (2, .int x2)] → W p l e rm0_nextBits s m args below meth c H locs 0 0 Q (F0 m 4 ls []) := by
    intro n
    induction n with
    | zero =>
      intro v_s x1 x2 out hrun K H locs ls I hl
      cases hrun
    | succ n ih =>
      intro v_s x1 x2 out hrun K H locs ls I hl
      rw [P0_nextBits_4] at hrun
      refine lv_iload_n hx hb dX0_nextBits_4 rfl (lv_at hl 2 rfl) ?_
      refine lv_bipush (v := 8) hx hb dX0_nextBits_5 rfl ?_
      refine lv_icmp_ge (tgt := 54) hx hb dX0_nextBits_7 rfl (fun c1 => ?_) (fun c1 => ?_)
      · have hrun := p_pos hrun c1
        cases hrun
        exact K _ _ _ I (lv_sub hl [1] rfl)
      · have hrun := p_neg hrun c1
        refine lv_aload_n hx hb dX0_nextBits_10 rfl (lv_at hl 0 rfl) ?_
        refine lv_ldc2 (v := 1103515245) hx hb C.2.2.2.1 (C.2.2.2.2 _ k0_nextBits_48) dX0_nextBits_11 ?_
        refine lv_aload_n hx hb dX0_nextBits_14 rfl (lv_at hl 0 rfl) ?_
        refine gX_D_s C inm0_nextBits_X0 hK I.1 fl0_nextBits_21 dX0_nextBits_15 ?_
        refine lv_lmul hx hb dX0_nextBits_18 ?_
        refine lv_ldc2 (v := 12345) hx hb C.2.2.2.1 (C.2.2.2.2 _ k0_nextBits_50) dX0_nextBits_19 ?_
        refine lv_ladd hx hb dX0_nextBits_22 ?_
        refine lv_ldc2 (v := 2147483648) hx hb C.2.2.2.1 (C.2.2.2.2 _ k0_nextBits_52) dX0_nextBits_23 ?_
        refine j_lrem hx hb dX0_nextBits_26 (by decide) ?_
        refine pX_D_s C inm0_nextBits_X0 hK hD I fl0_nextBits_21 dX0_nextBits_27 (fun H locs I => ?_)
        refine lv_iload_n hx hb dX0_nextBits_30 rfl (lv_at hl 1 rfl) ?_
        refine lv_iconst (v := 1) hx hb dX0_nextBits_31 rfl ?_
        refine j_ishl hx hb dX0_nextBits_32 ?_
        refine lv_aload_n hx hb dX0_nextBits_33 rfl (lv_at hl 0 rfl) ?_
        refine gX_D_s C inm0_nextBits_X0 hK I.1 fl0_nextBits_21 dX0_nextBits_34 ?_
        refine lv_ldc2 (v := 65536) hx hb C.2.2.2.1 (C.2.2.2.2 _ k0_nextBits_54) dX0_nextBits_37 ?_
        refine lv_ldiv hx hb dX0_nextBits_40 (by decide) ?_
        refine lv_ldc2 (v := 2) hx hb C.2.2.2.1 (C.2.2.2.2 _ k0_nextBits_56) dX0_nextBits_41 ?_
        refine j_lrem hx hb dX0_nextBits_44 (by decide) ?_
        refine lv_l2i (v := Int64.toInt32 (jlrem ((jlrem ((1103515245 * v_s) + 12345) 2147483648) / 65536) 2)) hx hb dX0_nextBits_45 rfl ?_
        refine lv_ior hx hb dX0_nextBits_46 ?_
        refine lv_istore_n (lv' := [(1, .int ((jshl x1 1) ||| (Int64.toInt32 (jlrem ((jlrem ((1103515245 * v_s) + 12345) 2147483648) / 65536) 2)))), (0, .ref (ad 7)), (2, .int x2)]) hx hb dX0_nextBits_47 rfl hl (by decide) rfl (fun ls hl => ?_)
        refine lv_iinc (v := x2 + 1) (lv' := [(2, .int (x2 + 1)), (1, .int ((jshl x1 1) ||| (Int64.toInt32 (jlrem ((jlrem ((1103515245 * v_s) + 12345) 2147483648) / 65536) 2)))), (0, .ref (ad 7))]) hx hb dX0_nextBits_48 hl (k := 2) rfl rfl (by decide) rfl (fun ls hl => ?_)
        refine lv_goto (tgt := 4) hx hb dX0_nextBits_51 rfl ?_
        exact ih (jlrem ((1103515245 * v_s) + 12345) 2147483648) ((jshl x1 1) ||| (Int64.toInt32 (jlrem ((jlrem ((1103515245 * v_s) + 12345) 2147483648) / 65536) 2))) (x2 + 1) out hrun K _ _ _ I (lv_sub hl [2, 1, 0] rfl)
  unfold P0_nextBits at hrun
  refine lv_iconst (v := 0) hx hb dX0_nextBits_0 rfl ?_
  refine lv_istore_n (lv' := [(1, .int 0), (0, .ref (ad 7))]) hx hb dX0_nextBits_1 rfl hl (by decide) rfl (fun ls hl => ?_)
  refine lv_iconst (v := 0) hx hb dX0_nextBits_2 rfl ?_
  refine lv_istore_n (lv' := [(2, .int 0), (1, .int 0), (0, .ref (ad 7))]) hx hb dX0_nextBits_3 rfl hl (by decide) rfl (fun ls hl => ?_)
  obtain ⟨o2, h_o2, hrun⟩ := p_bnd hrun
  refine loop_4 FU v_s 0 0 o2 h_o2 (fun H locs ls I hl => ?_) _ _ _ I (lv_sub hl [2, 1, 0] rfl)
  refine lv_iload_n hx hb dX0_nextBits_54 rfl (lv_at hl 0 rfl) ?_
  cases hrun
  exact rE_i C hr hlk hQ I (nbi _) rfl dX0_nextBits_55

abbrev rm0_tell : Room := { frames := 3, cells := 0, slots := 0, locals := 71 }
theorem fl0_tell_14 : Cond.fieldLink RX0 14 "RiverWords$Draw" "before" "LRiverWords$Word;" ∈ wsX0_tell := by decide +kernel
theorem fl0_tell_18 : Cond.fieldLink RX0 18 "RiverWords$Draw" "now" "LRiverWords$Word;" ∈ wsX0_tell := by decide +kernel
theorem fl0_tell_25 : Cond.fieldLink RX0 25 "RiverWords$Draw" "closed" "I" ∈ wsX0_tell := by decide +kernel
theorem fl0_tell_29 : Cond.fieldLink RX0 29 "RiverWords$Draw" "traces" "I" ∈ wsX0_tell := by decide +kernel
theorem fl0_tell_32 : Cond.fieldLink RX0 32 "RiverWords$Draw" "crossings" "I" ∈ wsX0_tell := by decide +kernel
theorem inm0_tell_X0 : ∀ w ∈ wsX00, w ∈ wsX0_tell := by decide +kernel
theorem hd0_tell : okD yX0_tell 0 := by decide +kernel
set_option maxHeartbeats 8000000 in
set_option maxRecDepth 100000 in
theorem c0_tell {res : Int32 × Int32 × Int32} (hrun : P0_tell v_closed v_traces v_crossings v_db_bits v_db_size v_db_allBits v_dn_bits v_dn_size v_dn_allBits v_dn_a v_dn_d = some res) : Met l yX0_tell wsX0_tell rm0_tell (va_Pc [.ref (ad 7)] (PE D (tyX cI cR cG) sz (WX0 ad fa ca wad cI cR cG v_wn) (WX ad fa ca wad cI cR cG v_roadCount v_readings v_psize v_good v_pbits v_letters v_afterLetter v_codes v_disc v_rsize v_cycleCount v_fo v_cy v_s v_closed v_traces v_crossings v_db_bits v_db_size v_db_allBits v_db_a v_db_b v_db_c v_db_d v_dn_bits v_dn_size v_dn_allBits v_dn_a v_dn_b v_dn_c v_dn_d v_wn v_wv))) (va_Qv (fun _ : Unit => True) (fun _ t => va_P D vwCl (WX ad fa ca wad cI cR cG v_roadCount v_readings v_psize v_good v_pbits v_letters v_afterLetter v_codes v_disc v_rsize v_cycleCount v_fo v_cy v_s res.1 res.2.1 res.2.2 v_db_bits v_db_size v_db_allBits v_db_a v_db_b v_db_c v_db_d v_dn_bits v_dn_size v_dn_allBits v_dn_a v_dn_b v_dn_c v_dn_d v_wn v_wv) t.heap) (va_A (WX0 ad fa ca wad cI cR cG v_wn) sz)) 0 0 (va_A (WX0 ad fa ca wad cI cR cG v_wn) sz) := by
  refine E_in (cc := cX0_tell) (maxL := 1) (ret := none) (by decide) rfl (Nat.le_of_ble_eq_true rfl) ?_
  intro p e s m args below meth c ls Q hQ C hr hlk hK hN hD hA I hl
  have C : CallFix p m c cX0_tell 1 s args wsX0_tell RX0 := C
  have hx := C.1
  have hb := C.2.1
  have hl : lv_has ls 1 [(0, .ref (ad 7))] := hl
  unfold P0_tell at hrun
  refine lv_aload_n hx hb dX0_tell_0 rfl (lv_at hl 0 rfl) ?_
  refine gX_D_now C inm0_tell_X0 hK I.1 fl0_tell_18 dX0_tell_1 ?_
  obtain ⟨r1, h_r1, hrun⟩ := p_bnd hrun
  refine jVS_i (rest := []) C (c3_isClosed WX_dn h_r1) gX0_tell_X3_isClosed hd3_isClosed hK hN I.1 ⟨_, 3, _, _, WX_dn, rfl, rfl⟩ rfl ⟨rfl, rfl⟩ ⟨Nat.le_of_ble_eq_true rfl, Nat.le_of_ble_eq_true rfl⟩ rfl hl.1 rfl (Nat.le_of_ble_eq_true rfl) ⟨Nat.le_of_ble_eq_true rfl, Nat.le_of_ble_eq_true rfl⟩ dX0_tell_4 ?_
  refine lv_if_ne (tgt := 11) hx hb dX0_tell_7 rfl (fun c2 => ?_) (fun c2 => ?_)
  · have hrun := p_neg hrun c2
    refine lv_aload_n hx hb dX0_tell_11 rfl (lv_at hl 0 rfl) ?_
    refine lv_dup hx hb dX0_tell_12 rfl ?_
    refine gX_D_closed C inm0_tell_X0 hK I.1 fl0_tell_25 dX0_tell_13 ?_
    refine lv_iconst (v := 1) hx hb dX0_tell_16 rfl ?_
    refine lv_iadd hx hb dX0_tell_17 ?_
    refine pX_D_closed C inm0_tell_X0 hK hD I fl0_tell_25 dX0_tell_18 (fun H locs I => ?_)
    refine lv_aload_n hx hb dX0_tell_21 rfl (lv_at hl 0 rfl) ?_
    refine lv_dup hx hb dX0_tell_22 rfl ?_
    refine gX_D_traces C inm0_tell_X0 hK I.1 fl0_tell_29 dX0_tell_23 ?_
    refine lv_aload_n hx hb dX0_tell_26 rfl (lv_at hl 0 rfl) ?_
    refine gX_D_now C inm0_tell_X0 hK I.1 fl0_tell_18 dX0_tell_27 ?_
    obtain ⟨r3, h_r3, hrun⟩ := p_bnd hrun
    refine jVS_i (rest := [.int v_traces, .ref (ad 7)]) C (c3_traceSum WX_dn h_r3) gX0_tell_X3_traceSum hd3_traceSum hK hN I.1 ⟨_, 3, _, _, WX_dn, rfl, rfl⟩ rfl ⟨rfl, rfl⟩ ⟨Nat.le_of_ble_eq_true rfl, Nat.le_of_ble_eq_true rfl⟩ rfl hl.1 rfl (Nat.le_of_ble_eq_true rfl) ⟨Nat.le_of_ble_eq_true rfl, Nat.le_of_ble_eq_true rfl⟩ dX0_tell_30 ?_
    refine lv_iadd hx hb dX0_tell_33 ?_
    refine pX_D_traces C inm0_tell_X0 hK hD I fl0_tell_29 dX0_tell_34 (fun H locs I => ?_)
    refine lv_aload_n hx hb dX0_tell_37 rfl (lv_at hl 0 rfl) ?_
    refine gX_D_before C inm0_tell_X0 hK I.1 fl0_tell_14 dX0_tell_38 ?_
    obtain ⟨r4, h_r4, hrun⟩ := p_bnd hrun
    refine jVS_i (rest := []) C (c3_isClosed WX_db h_r4) gX0_tell_X3_isClosed hd3_isClosed hK hN I.1 ⟨_, 3, _, _, WX_db, rfl, rfl⟩ rfl ⟨rfl, rfl⟩ ⟨Nat.le_of_ble_eq_true rfl, Nat.le_of_ble_eq_true rfl⟩ rfl hl.1 rfl (Nat.le_of_ble_eq_true rfl) ⟨Nat.le_of_ble_eq_true rfl, Nat.le_of_ble_eq_true rfl⟩ dX0_tell_41 ?_
    refine lv_if_eq (tgt := 67) hx hb dX0_tell_44 rfl (fun c5 => ?_) (fun c5 => ?_)
    · have hrun := p_pos hrun c5
      cases hrun
      exact rE_v C hr hlk hQ I dX0_tell_67
    · have hrun := p_neg hrun c5
      refine lv_aload_n hx hb dX0_tell_47 rfl (lv_at hl 0 rfl) ?_
      refine lv_dup hx hb dX0_tell_48 rfl ?_
      refine gX_D_crossings C inm0_tell_X0 hK I.1 fl0_tell_32 dX0_tell_49 ?_
      refine lv_aload_n hx hb dX0_tell_52 rfl (lv_at hl 0 rfl) ?_
      refine gX_D_now C inm0_tell_X0 hK I.1 fl0_tell_18 dX0_tell_53 ?_
      refine lv_aload_n hx hb dX0_tell_56 rfl (lv_at hl 0 rfl) ?_
      refine gX_D_before C inm0_tell_X0 hK I.1 fl0_tell_14 dX0_tell_57 ?_
      obtain ⟨r6, h_r6, hrun⟩ := p_bnd hrun
      refine jVS_i (rest := [.int v_crossings, .ref (ad 7)]) C (c3_crossings WX_dn WX_db h_r6) gX0_tell_X3_crossings hd3_crossings hK hN I.1 ⟨_, 3, _, _, WX_dn, rfl, rfl⟩ rfl ⟨rfl, rfl⟩ ⟨Nat.le_of_ble_eq_true rfl, Nat.le_of_ble_eq_true rfl⟩ rfl hl.1 rfl (Nat.le_of_ble_eq_true rfl) ⟨Nat.le_of_ble_eq_true rfl, Nat.le_of_ble_eq_true rfl⟩ dX0_tell_60 ?_
      refine lv_iadd hx hb dX0_tell_63 ?_
      refine pX_D_crossings C inm0_tell_X0 hK hD I fl0_tell_32 dX0_tell_64 (fun H locs I => ?_)
      cases hrun
      exact rE_v C hr hlk hQ I dX0_tell_67
  · have hrun := p_pos hrun c2
    cases hrun
    exact rE_v C hr hlk hQ I dX0_tell_10

abbrev rm0_run : Room := { frames := 4, cells := 0, slots := 0, locals := 91 }
theorem fl0_run_14 : Cond.fieldLink RX0 14 "RiverWords$Draw" "before" "LRiverWords$Word;" ∈ wsX0_run := by decide +kernel
theorem fl0_run_18 : Cond.fieldLink RX0 18 "RiverWords$Draw" "now" "LRiverWords$Word;" ∈ wsX0_run := by decide +kernel
theorem fl0_run_21 : Cond.fieldLink RX0 21 "RiverWords$Draw" "s" "J" ∈ wsX0_run := by decide +kernel
theorem fl0_run_25 : Cond.fieldLink RX0 25 "RiverWords$Draw" "closed" "I" ∈ wsX0_run := by decide +kernel
theorem fl0_run_29 : Cond.fieldLink RX0 29 "RiverWords$Draw" "traces" "I" ∈ wsX0_run := by decide +kernel
theorem fl0_run_32 : Cond.fieldLink RX0 32 "RiverWords$Draw" "crossings" "I" ∈ wsX0_run := by decide +kernel
theorem fl0_run_38 : Cond.fieldLink RX0 38 "RiverWords$Word" "bits" "I" ∈ wsX0_run := by decide +kernel
theorem inm0_run_X0 : ∀ w ∈ wsX00, w ∈ wsX0_run := by decide +kernel
theorem inm0_run_X3 : ∀ w ∈ wsX30, w ∈ wsX0_run := by decide +kernel
theorem hd0_run : okD yX0_run 2 := by decide +kernel
set_option maxHeartbeats 8000000 in
set_option maxRecDepth 100000 in
theorem c0_run {x1 : Int32} {x2 : Int32} {res : Int64 × Int32 × Int32 × Int32 × Int32 × Int32 × Int32 × Int32 × Int32 × Int32 × Int32 × Int32 × Int32 × Int32 × Int32 × Int32 × Int32 × Int32} (hrun : P0_run v_db_bits v_db_size v_db_allBits v_db_a v_db_b v_db_c v_db_d x1 x2 = some res) : Met l yX0_run wsX0_run rm0_run (va_Pc [.ref (ad 7), .int x1, .int x2] (PE D (tyX cI cR cG) sz (WX0 ad fa ca wad cI cR cG v_wn) (WX ad fa ca wad cI cR cG v_roadCount v_readings v_psize v_good v_pbits v_letters v_afterLetter v_codes v_disc v_rsize v_cycleCount v_fo v_cy v_s v_closed v_traces v_crossings v_db_bits v_db_size v_db_allBits v_db_a v_db_b v_db_c v_db_d v_dn_bits v_dn_size v_dn_allBits v_dn_a v_dn_b v_dn_c v_dn_d v_wn v_wv))) (va_Qv (fun _ : Unit => True) (fun _ t => va_P D vwCl (WX ad fa ca wad cI cR cG v_roadCount v_readings v_psize v_good v_pbits v_letters v_afterLetter v_codes v_disc v_rsize v_cycleCount v_fo v_cy res.1 res.2.1 res.2.2.1 res.2.2.2.1 res.2.2.2.2.1 res.2.2.2.2.2.1 res.2.2.2.2.2.2.1 res.2.2.2.2.2.2.2.1 res.2.2.2.2.2.2.2.2.1 res.2.2.2.2.2.2.2.2.2.1 res.2.2.2.2.2.2.2.2.2.2.1 res.2.2.2.2.2.2.2.2.2.2.2.1 res.2.2.2.2.2.2.2.2.2.2.2.2.1 res.2.2.2.2.2.2.2.2.2.2.2.2.2.1 res.2.2.2.2.2.2.2.2.2.2.2.2.2.2.1 res.2.2.2.2.2.2.2.2.2.2.2.2.2.2.2.1 res.2.2.2.2.2.2.2.2.2.2.2.2.2.2.2.2.1 res.2.2.2.2.2.2.2.2.2.2.2.2.2.2.2.2.2 v_wn v_wv) t.heap) (va_A (WX0 ad fa ca wad cI cR cG v_wn) sz)) 0 0 (va_A (WX0 ad fa ca wad cI cR cG v_wn) sz) := by
  refine E_in (cc := cX0_run) (maxL := 4) (ret := none) (by decide) rfl (Nat.le_of_ble_eq_true rfl) ?_
  intro p e s m args below meth c ls Q hQ C hr hlk hK hN hD hA I hl
  have C : CallFix p m c cX0_run 4 s args wsX0_run RX0 := C
  have hx := C.1
  have hb := C.2.1
  have hl : lv_has ls 4 [(0, .ref (ad 7)), (1, .int x1), (2, .int x2)] := hl
  have loop_33 : ∀ (n : Nat) (v_s : Int64) (v_closed : Int32) (v_traces : Int32) (v_crossings : Int32) (v_db_bits : Int32) (v_db_size : Int32) (v_db_allBits : Int32) (v_db_a : Int32) (v_db_b : Int32) (v_db_c : Int32) (v_db_d : Int32) (v_dn_bits : Int32) (v_dn_size : Int32) (v_dn_allBits : Int32) (v_dn_a : Int32) (v_dn_b : Int32) (v_dn_c : Int32) (v_dn_d : Int32) (x3 : Int32) (out : Int64 × Int32 × Int32 × Int32 × Int32 × Int32 × Int32 × Int32 × Int32 × Int32 × Int32 × Int32 × Int32 × Int32 × Int32 × Int32 × Int32 × Int32), P0_run_33 x1 n v_s v_closed v_traces v_crossings v_db_bits v_db_size v_db_allBits v_db_a v_db_b v_db_c v_db_d v_dn_bits v_dn_size v_dn_allBits v_dn_a v_dn_b v_dn_c v_dn_d x3 = some out → (∀ (H : Heap) (locs : List Loc) (ls : Array Slot), IM D (va_A (WX0 ad fa ca wad cI cR cG v_wn) sz) s.heap H locs (WX ad fa ca wad cI cR cG v_roadCount v_readings v_psize v_good v_pbits v_letters v_afterLetter v_codes v_disc v_rsize v_cycleCount v_fo v_cy out.1 out.2.1 out.2.2.1 out.2.2.2.1 out.2.2.2.2.1 out.2.2.2.2.2.1 out.2.2.2.2.2.2.1 out.2.2.2.2.2.2.2.1 out.2.2.2.2.2.2.2.2.1 out.2.2.2.2.2.2.2.2.2.1 out.2.2.2.2.2.2.2.2.2.2.1 out.2.2.2.2.2.2.2.2.2.2.2.1 out.2.2.2.2.2.2.2.2.2.2.2.2.1 out.2.2.2.2.2.2.2.2.2.2.2.2.2.1 out.2.2.2.2.2.2.2.2.2.2.2.2.2.2.1 out.2.2.2.2.2.2.2.2.2.2.2.2.2.2.2.1 out.2.2.2.2.2.2.2.2.2.2.2.2.2.2.2.2.1 out.2.2.2.2.2.2.2.2.2.2.2.2.2.2.2.2.2 v_wn v_wv) → lv_has ls 4 [] → W p l e rm0_run s m args below meth c H locs 0 0 Q (F0 m 77 ls [])) → ∀ (H : Heap) (locs : List Loc) (ls : Array Slot), IM D (va_A (WX0 ad fa ca wad cI cR cG v_wn) sz) s.heap H locs (WX ad fa ca wad cI cR cG v_roadCount v_readings v_psize v_good v_pbits v_letters v_afterLetter v_codes v_disc v_rsize v_cycleCount v_fo v_cy v_s v_closed v_traces v_crossings v_db_bits v_db_size v_db_allBits v_db_a v_db_b v_db_c v_db_d v_dn_bits v_dn_size v_dn_allBits v_dn_a v_dn_b v_dn_c v_dn_d v_wn v_wv) → lv_has ls 4 [(0, .ref (ad 7)), (1, .int x1), (3, .int x3)] → W p l e rm0_run s m args below meth c H locs 0 0 Q (F0 m 33 ls []) := by
    intro n
    induction n with
    | zero =>
      intro v_s v_closed v_traces v_crossings v_db_bits v_db_size v_db_allBits v_db_a v_db_b v_db_c v_db_d v_dn_bits v_dn_size v_dn_allBits v_dn_a v_dn_b v_dn_c v_dn_d x3 out hrun K H locs ls I hl
      cases hrun
    | succ n ih =>
      intro v_s v_closed v_traces v_crossings v_db_bits v_db_size v_db_allBits v_db_a v_db_b v_db_c v_db_d v_dn_bits v_dn_size v_dn_allBits v_dn_a v_dn_b v_dn_c v_dn_d x3 out hrun K H locs ls I hl
      rw [P0_run_33] at hrun
      refine lv_iload_n hx hb dX0_run_33 rfl (lv_at hl 2 rfl) ?_
      refine lv_iload_n hx hb dX0_run_34 rfl (lv_at hl 1 rfl) ?_
      refine lv_icmp_ge (tgt := 77) hx hb dX0_run_35 rfl (fun c2 => ?_) (fun c2 => ?_)
      · have hrun := p_pos hrun c2
        cases hrun
        exact K _ _ _ I (lv_sub hl [] rfl)
      · have hrun := p_neg hrun c2
        refine lv_aload_n hx hb dX0_run_38 rfl (lv_at hl 0 rfl) ?_
        refine gX_D_before C inm0_run_X0 hK I.1 fl0_run_14 dX0_run_39 ?_
        refine lv_aload_n hx hb dX0_run_42 rfl (lv_at hl 0 rfl) ?_
        refine gX_D_now C inm0_run_X0 hK I.1 fl0_run_18 dX0_run_43 ?_
        refine gX_dn_bits C inm0_run_X3 hK I.1 fl0_run_38 dX0_run_46 ?_
        refine lv_bipush (v := 8) hx hb dX0_run_49 rfl ?_
        obtain ⟨r3, h_r3, hrun⟩ := p_bnd hrun
        refine jW_become_db (rest := []) C h_r3 gX0_run_X3_become hd3_become hK hN hD hA I ⟨Nat.le_of_ble_eq_true rfl, Nat.le_of_ble_eq_true rfl⟩ rfl hl.1 rfl (Nat.le_of_ble_eq_true rfl) ⟨Nat.le_of_ble_eq_true rfl, Nat.le_of_ble_eq_true rfl⟩ dX0_run_51 (fun H locs I => ?_)
        refine lv_aload_n hx hb dX0_run_54 rfl (lv_at hl 0 rfl) ?_
        refine gX_D_now C inm0_run_X0 hK I.1 fl0_run_18 dX0_run_55 ?_
        refine lv_aload_n hx hb dX0_run_58 rfl (lv_at hl 0 rfl) ?_
        obtain ⟨r4, h_r4, hrun⟩ := p_bnd hrun
        refine jVE_i (rest := [.ref (ad 9)]) C (c0_nextBits h_r4) gX0_run_X0_nextBits hd0_nextBits hK hN hD hA I rcD rfl ⟨rfl, rfl⟩ ⟨Nat.le_of_ble_eq_true rfl, Nat.le_of_ble_eq_true rfl⟩ rfl hl.1 rfl (Nat.le_of_ble_eq_true rfl) ⟨Nat.le_of_ble_eq_true rfl, Nat.le_of_ble_eq_true rfl⟩ dX0_run_59 (fun H locs I => ?_)
        refine lv_bipush (v := 8) hx hb dX0_run_62 rfl ?_
        obtain ⟨r5, h_r5, hrun⟩ := p_bnd hrun
        refine jW_become_dn (rest := []) C h_r5 gX0_run_X3_become hd3_become hK hN hD hA I ⟨Nat.le_of_ble_eq_true rfl, Nat.le_of_ble_eq_true rfl⟩ rfl hl.1 rfl (Nat.le_of_ble_eq_true rfl) ⟨Nat.le_of_ble_eq_true rfl, Nat.le_of_ble_eq_true rfl⟩ dX0_run_64 (fun H locs I => ?_)
        refine lv_aload_n hx hb dX0_run_67 rfl (lv_at hl 0 rfl) ?_
        obtain ⟨r6, h_r6, hrun⟩ := p_bnd hrun
        refine jVE_v (rest := []) C (c0_tell h_r6) gX0_run_X0_tell hd0_tell hK hN hD hA I rcD rfl ⟨rfl, rfl⟩ ⟨Nat.le_of_ble_eq_true rfl, Nat.le_of_ble_eq_true rfl⟩ rfl hl.1 rfl (Nat.le_of_ble_eq_true rfl) ⟨Nat.le_of_ble_eq_true rfl, Nat.le_of_ble_eq_true rfl⟩ dX0_run_68 (fun H locs I => ?_)
        refine lv_iinc (v := x3 + 1) (lv' := [(3, .int (x3 + 1)), (0, .ref (ad 7)), (1, .int x1)]) hx hb dX0_run_71 hl (k := 2) rfl rfl (by decide) rfl (fun ls hl => ?_)
        refine lv_goto (tgt := 33) hx hb dX0_run_74 rfl ?_
        exact ih r4.2 r6.1 r6.2.1 r6.2.2 r3.1 r3.2.1 r3.2.2.1 r3.2.2.2.1 r3.2.2.2.2.1 r3.2.2.2.2.2.1 r3.2.2.2.2.2.2 r5.1 r5.2.1 r5.2.2.1 r5.2.2.2.1 r5.2.2.2.2.1 r5.2.2.2.2.2.1 r5.2.2.2.2.2.2 (x3 + 1) out hrun K _ _ _ I (lv_sub hl [1, 2, 0] rfl)
  unfold P0_run at hrun
  refine lv_aload_n hx hb dX0_run_0 rfl (lv_at hl 0 rfl) ?_
  refine lv_iload_n hx hb dX0_run_1 rfl (lv_at hl 2 rfl) ?_
  refine lv_i2l (v := Int32.toInt64 x2) hx hb dX0_run_2 rfl ?_
  refine pX_D_s C inm0_run_X0 hK hD I fl0_run_21 dX0_run_3 (fun H locs I => ?_)
  refine lv_aload_n hx hb dX0_run_6 rfl (lv_at hl 0 rfl) ?_
  refine lv_iconst (v := 0) hx hb dX0_run_7 rfl ?_
  refine pX_D_closed C inm0_run_X0 hK hD I fl0_run_25 dX0_run_8 (fun H locs I => ?_)
  refine lv_aload_n hx hb dX0_run_11 rfl (lv_at hl 0 rfl) ?_
  refine lv_iconst (v := 0) hx hb dX0_run_12 rfl ?_
  refine pX_D_traces C inm0_run_X0 hK hD I fl0_run_29 dX0_run_13 (fun H locs I => ?_)
  refine lv_aload_n hx hb dX0_run_16 rfl (lv_at hl 0 rfl) ?_
  refine lv_iconst (v := 0) hx hb dX0_run_17 rfl ?_
  refine pX_D_crossings C inm0_run_X0 hK hD I fl0_run_32 dX0_run_18 (fun H locs I => ?_)
  refine lv_aload_n hx hb dX0_run_21 rfl (lv_at hl 0 rfl) ?_
  refine gX_D_now C inm0_run_X0 hK I.1 fl0_run_18 dX0_run_22 ?_
  refine lv_iconst (v := 0) hx hb dX0_run_25 rfl ?_
  refine lv_bipush (v := 8) hx hb dX0_run_26 rfl ?_
  obtain ⟨r1, h_r1, hrun⟩ := p_bnd hrun
  refine jW_become_dn (rest := []) C h_r1 gX0_run_X3_become hd3_become hK hN hD hA I ⟨Nat.le_of_ble_eq_true rfl, Nat.le_of_ble_eq_true rfl⟩ rfl hl.1 rfl (Nat.le_of_ble_eq_true rfl) ⟨Nat.le_of_ble_eq_true rfl, Nat.le_of_ble_eq_true rfl⟩ dX0_run_28 (fun H locs I => ?_)
  refine lv_iconst (v := 0) hx hb dX0_run_31 rfl ?_
  refine lv_istore_n (lv' := [(3, .int 0), (0, .ref (ad 7)), (1, .int x1), (2, .int x2)]) hx hb dX0_run_32 rfl hl (by decide) rfl (fun ls hl => ?_)
  obtain ⟨o7, h_o7, hrun⟩ := p_bnd hrun
  refine loop_33 FU (Int32.toInt64 x2) 0 0 0 v_db_bits v_db_size v_db_allBits v_db_a v_db_b v_db_c v_db_d r1.1 r1.2.1 r1.2.2.1 r1.2.2.2.1 r1.2.2.2.2.1 r1.2.2.2.2.2.1 r1.2.2.2.2.2.2 0 o7 h_o7 (fun H locs ls I hl => ?_) _ _ _ I (lv_sub hl [1, 2, 0] rfl)
  cases hrun
  exact rE_v C hr hlk hQ I dX0_run_77

abbrev rm1_clear : Room := { frames := 0, cells := 0, slots := 0, locals := 0 }
theorem fl1_clear_15 : Cond.fieldLink RX1 15 "RiverWords$Page" "size" "I" ∈ wsX1_clear := by decide +kernel
theorem fl1_clear_19 : Cond.fieldLink RX1 19 "RiverWords$Page" "good" "I" ∈ wsX1_clear := by decide +kernel
theorem fl1_clear_22 : Cond.fieldLink RX1 22 "RiverWords$Page" "bits" "I" ∈ wsX1_clear := by decide +kernel
theorem fl1_clear_25 : Cond.fieldLink RX1 25 "RiverWords$Page" "letters" "I" ∈ wsX1_clear := by decide +kernel
theorem fl1_clear_28 : Cond.fieldLink RX1 28 "RiverWords$Page" "afterLetter" "Z" ∈ wsX1_clear := by decide +kernel
theorem inm1_clear_X1 : ∀ w ∈ wsX10, w ∈ wsX1_clear := by decide +kernel
theorem hd1_clear : okD yX1_clear 0 := by decide +kernel
set_option maxHeartbeats 8000000 in
set_option maxRecDepth 100000 in
theorem c1_clear {res : Int32 × Int32 × Int32 × Int32 × Int32} (hrun : P1_clear = some res) : Met l yX1_clear wsX1_clear rm1_clear (va_Pc [.ref (ad 1)] (PE D (tyX cI cR cG) sz (WX0 ad fa ca wad cI cR cG v_wn) (WX ad fa ca wad cI cR cG v_roadCount v_readings v_psize v_good v_pbits v_letters v_afterLetter v_codes v_disc v_rsize v_cycleCount v_fo v_cy v_s v_closed v_traces v_crossings v_db_bits v_db_size v_db_allBits v_db_a v_db_b v_db_c v_db_d v_dn_bits v_dn_size v_dn_allBits v_dn_a v_dn_b v_dn_c v_dn_d v_wn v_wv))) (va_Qv (fun _ : Unit => True) (fun _ t => va_P D vwCl (WX ad fa ca wad cI cR cG v_roadCount v_readings res.1 res.2.1 res.2.2.1 res.2.2.2.1 res.2.2.2.2 v_codes v_disc v_rsize v_cycleCount v_fo v_cy v_s v_closed v_traces v_crossings v_db_bits v_db_size v_db_allBits v_db_a v_db_b v_db_c v_db_d v_dn_bits v_dn_size v_dn_allBits v_dn_a v_dn_b v_dn_c v_dn_d v_wn v_wv) t.heap) (va_A (WX0 ad fa ca wad cI cR cG v_wn) sz)) 0 0 (va_A (WX0 ad fa ca wad cI cR cG v_wn) sz) := by
  refine E_in (cc := cX1_clear) (maxL := 1) (ret := none) (by decide) rfl (Nat.le_of_ble_eq_true rfl) ?_
  intro p e s m args below meth c ls Q hQ C hr hlk hK hN hD hA I hl
  have C : CallFix p m c cX1_clear 1 s args wsX1_clear RX1 := C
  have hx := C.1
  have hb := C.2.1
  have hl : lv_has ls 1 [(0, .ref (ad 1))] := hl
  unfold P1_clear at hrun
  refine lv_aload_n hx hb dX1_clear_0 rfl (lv_at hl 0 rfl) ?_
  refine lv_iconst (v := 0) hx hb dX1_clear_1 rfl ?_
  refine pX_P_size C inm1_clear_X1 hK hD I fl1_clear_15 dX1_clear_2 (fun H locs I => ?_)
  refine lv_aload_n hx hb dX1_clear_5 rfl (lv_at hl 0 rfl) ?_
  refine lv_iconst (v := 0) hx hb dX1_clear_6 rfl ?_
  refine pX_P_good C inm1_clear_X1 hK hD I fl1_clear_19 dX1_clear_7 (fun H locs I => ?_)
  refine lv_aload_n hx hb dX1_clear_10 rfl (lv_at hl 0 rfl) ?_
  refine lv_iconst (v := 0) hx hb dX1_clear_11 rfl ?_
  refine pX_P_bits C inm1_clear_X1 hK hD I fl1_clear_22 dX1_clear_12 (fun H locs I => ?_)
  refine lv_aload_n hx hb dX1_clear_15 rfl (lv_at hl 0 rfl) ?_
  refine lv_iconst (v := 0) hx hb dX1_clear_16 rfl ?_
  refine pX_P_letters C inm1_clear_X1 hK hD I fl1_clear_25 dX1_clear_17 (fun H locs I => ?_)
  refine lv_aload_n hx hb dX1_clear_20 rfl (lv_at hl 0 rfl) ?_
  refine lv_iconst (v := 0) hx hb dX1_clear_21 rfl ?_
  refine pX_P_afterLetter C inm1_clear_X1 hK hD I fl1_clear_28 (Or.inl rfl) dX1_clear_22 (fun H locs I => ?_)
  cases hrun
  exact rE_v C hr hlk hQ I dX1_clear_25

end X90
