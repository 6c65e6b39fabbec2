section X99
variable {l : Launch} {D : va_G} {sz : Nat}
variable {ad fa ca wad : Nat → Nat} {cI cR cG : ClassId}
variable {v_roadCount v_readings v_psize v_good v_pbits v_letters v_afterLetter v_disc v_rsize v_cycleCount v_closed v_traces v_crossings v_db_bits v_db_size v_db_allBits v_db_a v_db_b v_db_c v_db_d v_dn_bits v_dn_size v_dn_allBits v_dn_a v_dn_b v_dn_c v_dn_d : Int32}
variable {v_s : Int64}
variable {v_codes : Nat → Int32}
variable {v_fo v_cy v_wv : Nat → Nat → Int32}
variable {v_wn : Nat}
abbrev rm4_times : Room := { frames := 4, cells := 1, slots := 7, locals := 89 }
theorem fl4_times_75 : Cond.fieldLink RX4 75 "RiverWords$Word" "size" "I" ∈ wsX4_times := by decide +kernel
theorem fl4_times_76 : Cond.fieldLink RX4 76 "RiverWords$Word" "bits" "I" ∈ wsX4_times := by decide +kernel
theorem k4_times_36 : Cond.constant RX4 36 (-2000000102) ∈ wsX4_times := by decide +kernel
theorem k4_times_74 : Cond.constant RX4 74 (-2000000101) ∈ wsX4_times := by decide +kernel
theorem inm4_times_X3 : ∀ w ∈ wsX30, w ∈ wsX4_times := by decide +kernel
theorem hd4_times : okD yX4_times 2 := by decide +kernel
set_option maxHeartbeats 8000000 in
set_option maxRecDepth 100000 in
theorem c4_times {x1 : Int32} {x2 : Int32} {res : Int32 × Int32 × Nat × (Nat → Nat → Int32)} (hrun : P4_times v_roadCount v_wn v_wv x1 x2 = some res) : Met l yX4_times wsX4_times rm4_times (va_Pc [.ref (ad 0), .int x1, .int x2] (PE D (tyX cI cR cG) sz (WX0 ad fa ca wad cI cR cG v_wn) (WX ad fa ca wad cI cR cG v_roadCount v_readings v_psize v_good v_pbits v_letters v_afterLetter v_codes v_disc v_rsize v_cycleCount v_fo v_cy v_s v_closed v_traces v_crossings v_db_bits v_db_size v_db_allBits v_db_a v_db_b v_db_c v_db_d v_dn_bits v_dn_size v_dn_allBits v_dn_a v_dn_b v_dn_c v_dn_d v_wn v_wv))) (va_Qi (fun (x : Int32) (_ : Nat → Nat) => x = res.1) (fun u t => va_P D vwCl (WX ad fa ca u cI cR cG res.2.1 v_readings v_psize v_good v_pbits v_letters v_afterLetter v_codes v_disc v_rsize v_cycleCount v_fo v_cy v_s v_closed v_traces v_crossings v_db_bits v_db_size v_db_allBits v_db_a v_db_b v_db_c v_db_d v_dn_bits v_dn_size v_dn_allBits v_dn_a v_dn_b v_dn_c v_dn_d res.2.2.1 res.2.2.2) t.heap ∧ va_D (va_A (WX0 ad fa ca wad cI cR cG v_wn) sz) (WX0 ad fa ca u cI cR cG res.2.2.1)) (va_A (WX0 ad fa ca wad cI cR cG v_wn) sz)) 1 7 (va_A (WX0 ad fa ca wad cI cR cG v_wn) sz) := by
  refine E_in (cc := cX4_times) (maxL := 6) (ret := (some .int)) (by decide) rfl (Nat.le_of_ble_eq_true rfl) ?_
  intro p e s m args below meth c ls Q hQ C hr hlk hK hN hD hA I hl
  have C : CallFix p m c cX4_times 6 s args wsX4_times RX4 := C
  have hx := C.1
  have hb := C.2.1
  have hl : lv_has ls 6 [(0, .ref (ad 0)), (1, .int x1), (2, .int x2)] := hl
  have loop_32 : ∀ (v_roadCount : Int32) (v_wn : Nat) (v_wv : Nat → Nat → Int32) (j3 : Nat) (hj3 : j3 < v_wn) (n : Nat) (x4 : Int32) (x5 : Int32) (out : Int32), P4_times_32 j3 v_wv x2 n x4 x5 = some out → (∀ (H : Heap) (locs : List Loc) (ls : Array Slot), IM D (va_A (WX0 ad fa ca wad cI cR cG v_wn) sz) s.heap H locs (WX ad fa ca wad cI cR cG v_roadCount v_readings v_psize v_good v_pbits v_letters v_afterLetter v_codes v_disc v_rsize v_cycleCount v_fo v_cy v_s v_closed v_traces v_crossings v_db_bits v_db_size v_db_allBits v_db_a v_db_b v_db_c v_db_d v_dn_bits v_dn_size v_dn_allBits v_dn_a v_dn_b v_dn_c v_dn_d v_wn v_wv) → lv_has ls 6 [(0, .ref (ad 0)), (2, .int x2), (3, .ref (wad j3)), (4, .int out)] → W p l e rm4_times s m args below meth c H locs 0 0 Q (F0 m 58 ls [])) → ∀ (H : Heap) (locs : List Loc) (ls : Array Slot), IM D (va_A (WX0 ad fa ca wad cI cR cG v_wn) sz) s.heap H locs (WX ad fa ca wad cI cR cG v_roadCount v_readings v_psize v_good v_pbits v_letters v_afterLetter v_codes v_disc v_rsize v_cycleCount v_fo v_cy v_s v_closed v_traces v_crossings v_db_bits v_db_size v_db_allBits v_db_a v_db_b v_db_c v_db_d v_dn_bits v_dn_size v_dn_allBits v_dn_a v_dn_b v_dn_c v_dn_d v_wn v_wv) → lv_has ls 6 [(0, .ref (ad 0)), (2, .int x2), (3, .ref (wad j3)), (4, .int x4), (5, .int x5)] → W p l e rm4_times s m args below meth c H locs 0 0 Q (F0 m 32 ls []) := by
    intro v_roadCount v_wn v_wv j3 hj3 n
    induction n with
    | zero =>
      intro x4 x5 out hrun K H locs ls I hl
      cases hrun
    | succ n ih =>
      intro x4 x5 out hrun K H locs ls I hl
      rw [P4_times_32] at hrun
      refine lv_iload hx hb dX4_times_32 (lv_at hl 4 rfl) ?_
      refine lv_iload_n hx hb dX4_times_34 rfl (lv_at hl 1 rfl) ?_
      refine lv_icmp_ge (tgt := 58) hx hb dX4_times_35 rfl (fun c5 => ?_) (fun c5 => ?_)
      · have hrun := p_pos hrun c5
        cases hrun
        exact K _ _ _ I (lv_sub hl [0, 1, 2, 3] rfl)
      · have hrun := p_neg hrun c5
        refine lv_iload hx hb dX4_times_38 (lv_at hl 3 rfl) ?_
        refine lv_aload_n hx hb dX4_times_40 rfl (lv_at hl 2 rfl) ?_
        refine gX_w_size hj3 C inm4_times_X3 hK I.1 fl4_times_75 dX4_times_41 ?_
        refine j_ishl hx hb dX4_times_44 ?_
        refine lv_aload_n hx hb dX4_times_45 rfl (lv_at hl 2 rfl) ?_
        refine gX_w_bits hj3 C inm4_times_X3 hK I.1 fl4_times_76 dX4_times_46 ?_
        refine lv_ior hx hb dX4_times_49 ?_
        refine lv_istore (lv' := [(4, .int ((jshl x4 (v_wv j3 1)) ||| (v_wv j3 0))), (0, .ref (ad 0)), (2, .int x2), (3, .ref (wad j3)), (5, .int x5)]) hx hb dX4_times_50 hl (by decide) rfl (fun ls hl => ?_)
        refine lv_iinc (v := x5 + 1) (lv' := [(5, .int (x5 + 1)), (4, .int ((jshl x4 (v_wv j3 1)) ||| (v_wv j3 0))), (0, .ref (ad 0)), (2, .int x2), (3, .ref (wad j3))]) hx hb dX4_times_52 hl (k := 4) rfl rfl (by decide) rfl (fun ls hl => ?_)
        refine lv_goto (tgt := 32) hx hb dX4_times_55 rfl ?_
        exact ih ((jshl x4 (v_wv j3 1)) ||| (v_wv j3 0)) (x5 + 1) out hrun K _ _ _ I (lv_sub hl [2, 3, 4, 1, 0] rfl)
  unfold P4_times at hrun
  refine lv_aload_n hx hb dX4_times_0 rfl (lv_at hl 0 rfl) ?_
  refine lv_iload_n hx hb dX4_times_1 rfl (lv_at hl 1 rfl) ?_
  obtain ⟨r1, h_r1, hrun⟩ := p_bnd hrun
  refine jVS_q (rest := []) C (c4_roadAt h_r1) gX4_times_X4_roadAt hd4_roadAt hK hN I.1 rcX rfl ⟨rfl, rfl⟩ ⟨Nat.le_of_ble_eq_true rfl, Nat.le_of_ble_eq_true rfl⟩ rfl hl.1 rfl (Nat.le_of_ble_eq_true rfl) ⟨Nat.le_of_ble_eq_true rfl, Nat.le_of_ble_eq_true rfl⟩ dX4_times_2 ?_
  rcases r1 with _ | j2
  · refine W.eq (g2 := F0 m 5 ls (.null :: [])) rfl ?_
    refine lv_astore_nN (lv' := [(3, .null), (0, .ref (ad 0)), (1, .int x1), (2, .int x2)]) hx hb dX4_times_5 rfl hl (by decide) rfl (fun ls hl => ?_)
    refine lv_aload_nN hx hb dX4_times_6 rfl (lv_at hl 0 rfl) ?_
    refine lv_ifnonnullN hx hb dX4_times_7 ?_
    refine lv_ldc (v := (-2000000101)) hx hb C.2.2.2.1 (C.2.2.2.2 _ k4_times_74) dX4_times_10 ?_
    cases hrun
    refine W.widen (k := 1) (n := 7) (Nat.zero_le _) (Nat.zero_le _) ?_
    exact rG_i (u := wad) C hr hlk hQ I hD (nbi _) rfl dX4_times_12
  · have hj2 := P4_roadAt_lt h_r1
    refine W.eq (g2 := F0 m 5 ls (.ref (wad j2) :: [])) rfl ?_
    refine lv_astore_n (lv' := [(3, .ref (wad j2)), (0, .ref (ad 0)), (1, .int x1), (2, .int x2)]) hx hb dX4_times_5 rfl hl (by decide) rfl (fun ls hl => ?_)
    refine lv_aload_n hx hb dX4_times_6 rfl (lv_at hl 0 rfl) ?_
    refine lv_ifnonnull (tgt := 13) hx hb dX4_times_7 rfl ?_
    refine lv_iload_n hx hb dX4_times_13 rfl (lv_at hl 3 rfl) ?_
    refine lv_iconst (v := 2) hx hb dX4_times_14 rfl ?_
    refine lv_icmp_lt (tgt := 23) hx hb dX4_times_15 rfl (fun c3 => ?_) (fun c3 => ?_)
    · have hrun := p_pos hrun c3
      refine lv_ldc (v := (-2000000102)) hx hb C.2.2.2.1 (C.2.2.2.2 _ k4_times_36) dX4_times_23 ?_
      cases hrun
      refine W.widen (k := 1) (n := 7) (Nat.zero_le _) (Nat.zero_le _) ?_
      exact rG_i (u := wad) C hr hlk hQ I hD (nbi _) rfl dX4_times_25
    · have hrun := p_neg hrun c3
      refine lv_iload_n hx hb dX4_times_18 rfl (lv_at hl 3 rfl) ?_
      refine lv_iconst (v := 5) hx hb dX4_times_19 rfl ?_
      refine lv_icmp_le (tgt := 26) hx hb dX4_times_20 rfl (fun c4 => ?_) (fun c4 => ?_)
      · have hrun := p_pos hrun c4
        refine lv_iconst (v := 0) hx hb dX4_times_26 rfl ?_
        refine lv_istore (lv' := [(4, .int 0), (3, .ref (wad j2)), (0, .ref (ad 0)), (1, .int x1), (2, .int x2)]) hx hb dX4_times_27 hl (by decide) rfl (fun ls hl => ?_)
        refine lv_iconst (v := 0) hx hb dX4_times_29 rfl ?_
        refine lv_istore (lv' := [(5, .int 0), (4, .int 0), (3, .ref (wad j2)), (0, .ref (ad 0)), (1, .int x1), (2, .int x2)]) hx hb dX4_times_30 hl (by decide) rfl (fun ls hl => ?_)
        obtain ⟨o6, h_o6, hrun⟩ := p_bnd hrun
        refine loop_32 v_roadCount v_wn v_wv j2 hj2 FU 0 0 o6 h_o6 (fun H locs ls I hl => ?_) _ _ _ I (lv_sub hl [3, 5, 2, 1, 0] rfl)
        refine lv_aload_n hx hb dX4_times_58 rfl (lv_at hl 0 rfl) ?_
        refine lv_iload hx hb dX4_times_59 (lv_at hl 3 rfl) ?_
        refine lv_iload_n hx hb dX4_times_61 rfl (lv_at hl 1 rfl) ?_
        refine lv_aload_n hx hb dX4_times_62 rfl (lv_at hl 2 rfl) ?_
        refine gX_w_size hj2 C inm4_times_X3 hK I.1 fl4_times_75 dX4_times_63 ?_
        refine lv_imul hx hb dX4_times_66 ?_
        obtain ⟨r7, h_r7, hrun⟩ := p_bnd hrun
        refine jVG_i (rest := []) C (c4_addRoad h_r7) gX4_times_X4_addRoad hd4_addRoad hK hN hD hA I rcX rfl ⟨rfl, rfl⟩ ⟨Nat.le_of_ble_eq_true rfl, Nat.le_of_ble_eq_true rfl⟩ rfl hl.1 rfl (Nat.le_of_ble_eq_true rfl) ⟨Nat.le_of_ble_eq_true rfl, Nat.le_of_ble_eq_true rfl⟩ dX4_times_67 (fun wad H locs hD I => ?_)
        cases hrun
        exact rG_i (u := wad) C hr hlk hQ I hD (nbi _) rfl dX4_times_70
      · have hrun := p_neg hrun c4
        refine lv_ldc (v := (-2000000102)) hx hb C.2.2.2.1 (C.2.2.2.2 _ k4_times_36) dX4_times_23 ?_
        cases hrun
        refine W.widen (k := 1) (n := 7) (Nat.zero_le _) (Nat.zero_le _) ?_
        exact rG_i (u := wad) C hr hlk hQ I hD (nbi _) rfl dX4_times_25

abbrev rm4_cut : Room := { frames := 4, cells := 1, slots := 7, locals := 89 }
theorem k4_cut_36 : Cond.constant RX4 36 (-2000000102) ∈ wsX4_cut := by decide +kernel
theorem hd4_cut : okD yX4_cut 2 := by decide +kernel
set_option maxHeartbeats 8000000 in
set_option maxRecDepth 100000 in
theorem c4_cut {x1 : Int32} {x2 : Int32} {res : Int32 × Int32 × Nat × (Nat → Nat → Int32)} (hrun : P4_cut v_roadCount v_wn v_wv x1 x2 = some res) : Met l yX4_cut wsX4_cut rm4_cut (va_Pc [.ref (ad 0), .int x1, .int x2] (PE D (tyX cI cR cG) sz (WX0 ad fa ca wad cI cR cG v_wn) (WX ad fa ca wad cI cR cG v_roadCount v_readings v_psize v_good v_pbits v_letters v_afterLetter v_codes v_disc v_rsize v_cycleCount v_fo v_cy v_s v_closed v_traces v_crossings v_db_bits v_db_size v_db_allBits v_db_a v_db_b v_db_c v_db_d v_dn_bits v_dn_size v_dn_allBits v_dn_a v_dn_b v_dn_c v_dn_d v_wn v_wv))) (va_Qi (fun (x : Int32) (_ : Nat → Nat) => x = res.1) (fun u t => va_P D vwCl (WX ad fa ca u cI cR cG res.2.1 v_readings v_psize v_good v_pbits v_letters v_afterLetter v_codes v_disc v_rsize v_cycleCount v_fo v_cy v_s v_closed v_traces v_crossings v_db_bits v_db_size v_db_allBits v_db_a v_db_b v_db_c v_db_d v_dn_bits v_dn_size v_dn_allBits v_dn_a v_dn_b v_dn_c v_dn_d res.2.2.1 res.2.2.2) t.heap ∧ va_D (va_A (WX0 ad fa ca wad cI cR cG v_wn) sz) (WX0 ad fa ca u cI cR cG res.2.2.1)) (va_A (WX0 ad fa ca wad cI cR cG v_wn) sz)) 1 7 (va_A (WX0 ad fa ca wad cI cR cG v_wn) sz) := by
  refine E_in (cc := cX4_cut) (maxL := 7) (ret := (some .int)) (by decide) rfl (Nat.le_of_ble_eq_true rfl) ?_
  intro p e s m args below meth c ls Q hQ C hr hlk hK hN hD hA I hl
  have C : CallFix p m c cX4_cut 7 s args wsX4_cut RX4 := C
  have hx := C.1
  have hb := C.2.1
  have hl : lv_has ls 7 [(0, .ref (ad 0)), (1, .int x1), (2, .int x2)] := hl
  have loop_50 : ∀ (v_roadCount : Int32) (v_wn : Nat) (v_wv : Nat → Nat → Int32) (n : Nat) (x3 : Int32) (x4 : Int32) (x5 : Int32) (x6 : Int32) (out : Int32 × Int32), P4_cut_50 n x3 x4 x5 x6 = some out → (∀ (H : Heap) (locs : List Loc) (ls : Array Slot), IM D (va_A (WX0 ad fa ca wad cI cR cG v_wn) sz) s.heap H locs (WX ad fa ca wad cI cR cG v_roadCount v_readings v_psize v_good v_pbits v_letters v_afterLetter v_codes v_disc v_rsize v_cycleCount v_fo v_cy v_s v_closed v_traces v_crossings v_db_bits v_db_size v_db_allBits v_db_a v_db_b v_db_c v_db_d v_dn_bits v_dn_size v_dn_allBits v_dn_a v_dn_b v_dn_c v_dn_d v_wn v_wv) → lv_has ls 7 [(0, .ref (ad 0)), (3, .int out.1), (4, .int out.2)] → W p l e rm4_cut s m args below meth c H locs 0 0 Q (F0 m 104 ls [])) → ∀ (H : Heap) (locs : List Loc) (ls : Array Slot), IM D (va_A (WX0 ad fa ca wad cI cR cG v_wn) sz) s.heap H locs (WX ad fa ca wad cI cR cG v_roadCount v_readings v_psize v_good v_pbits v_letters v_afterLetter v_codes v_disc v_rsize v_cycleCount v_fo v_cy v_s v_closed v_traces v_crossings v_db_bits v_db_size v_db_allBits v_db_a v_db_b v_db_c v_db_d v_dn_bits v_dn_size v_dn_allBits v_dn_a v_dn_b v_dn_c v_dn_d v_wn v_wv) → lv_has ls 7 [(0, .ref (ad 0)), (3, .int x3), (4, .int x4), (5, .int x5), (6, .int x6)] → W p l e rm4_cut s m args below meth c H locs 0 0 Q (F0 m 50 ls []) := by
    intro v_roadCount v_wn v_wv n
    induction n with
    | zero =>
      intro x3 x4 x5 x6 out hrun K H locs ls I hl
      cases hrun
    | succ n ih =>
      intro x3 x4 x5 x6 out hrun K H locs ls I hl
      rw [P4_cut_50] at hrun
      refine lv_iload hx hb dX4_cut_50 (lv_at hl 3 rfl) ?_
      refine lv_iload hx hb dX4_cut_52 (lv_at hl 4 rfl) ?_
      refine lv_icmp_eq (tgt := 104) hx hb dX4_cut_54 rfl (fun c8 => ?_) (fun c8 => ?_)
      · have hrun := p_pos hrun c8
        cases hrun
        exact K _ _ _ I (lv_sub hl [0, 1, 2] rfl)
      · have hrun := p_neg hrun c8
        refine lv_iload hx hb dX4_cut_57 (lv_at hl 2 rfl) ?_
        refine lv_bipush (v := 99) hx hb dX4_cut_59 rfl ?_
        refine lv_icmp_ge (tgt := 104) hx hb dX4_cut_61 rfl (fun c9 => ?_) (fun c9 => ?_)
        · have hrun := p_pos hrun c9
          cases hrun
          exact K _ _ _ I (lv_sub hl [0, 1, 2] rfl)
        · have hrun := p_neg hrun c9
          refine lv_iload hx hb dX4_cut_64 (lv_at hl 3 rfl) ?_
          refine lv_iload hx hb dX4_cut_66 (lv_at hl 4 rfl) ?_
          refine lv_icmp_le (tgt := 87) hx hb dX4_cut_68 rfl (fun c10 => ?_) (fun c10 => ?_)
          · have hrun := p_pos hrun c10
            refine lv_iload_n hx hb dX4_cut_87 rfl (lv_at hl 1 rfl) ?_
            refine lv_iconst (v := 1) hx hb dX4_cut_88 rfl ?_
            refine j_ishl hx hb dX4_cut_89 ?_
            refine lv_istore_n (lv' := [(3, .int (jshl x3 1)), (0, .ref (ad 0)), (4, .int x4), (5, .int x5), (6, .int x6)]) hx hb dX4_cut_90 rfl hl (by decide) rfl (fun ls hl => ?_)
            refine lv_iload hx hb dX4_cut_91 (lv_at hl 4 rfl) ?_
            refine lv_iload hx hb dX4_cut_93 (lv_at hl 3 rfl) ?_
            refine lv_isub hx hb dX4_cut_95 ?_
            refine lv_istore (lv' := [(6, .int (x6 - x5)), (3, .int (jshl x3 1)), (0, .ref (ad 0)), (4, .int x4), (5, .int x5)]) hx hb dX4_cut_96 hl (by decide) rfl (fun ls hl => ?_)
            refine lv_iinc (v := x4 + 1) (lv' := [(4, .int (x4 + 1)), (6, .int (x6 - x5)), (3, .int (jshl x3 1)), (0, .ref (ad 0)), (5, .int x5)]) hx hb dX4_cut_98 hl (k := 3) rfl rfl (by decide) rfl (fun ls hl => ?_)
            refine lv_goto (tgt := 50) hx hb dX4_cut_101 rfl ?_
            exact ih (jshl x3 1) (x4 + 1) x5 (x6 - x5) out hrun K _ _ _ I (lv_sub hl [3, 2, 0, 4, 1] rfl)
          · have hrun := p_neg hrun c10
            refine lv_iload_n hx hb dX4_cut_71 rfl (lv_at hl 1 rfl) ?_
            refine lv_iconst (v := 1) hx hb dX4_cut_72 rfl ?_
            refine j_ishl hx hb dX4_cut_73 ?_
            refine lv_iconst (v := 1) hx hb dX4_cut_74 rfl ?_
            refine lv_ior hx hb dX4_cut_75 ?_
            refine lv_istore_n (lv' := [(3, .int ((jshl x3 1) ||| 1)), (0, .ref (ad 0)), (4, .int x4), (5, .int x5), (6, .int x6)]) hx hb dX4_cut_76 rfl hl (by decide) rfl (fun ls hl => ?_)
            refine lv_iload hx hb dX4_cut_77 (lv_at hl 3 rfl) ?_
            refine lv_iload hx hb dX4_cut_79 (lv_at hl 4 rfl) ?_
            refine lv_isub hx hb dX4_cut_81 ?_
            refine lv_istore (lv' := [(5, .int (x5 - x6)), (3, .int ((jshl x3 1) ||| 1)), (0, .ref (ad 0)), (4, .int x4), (6, .int x6)]) hx hb dX4_cut_82 hl (by decide) rfl (fun ls hl => ?_)
            refine lv_goto (tgt := 98) hx hb dX4_cut_84 rfl ?_
            refine lv_iinc (v := x4 + 1) (lv' := [(4, .int (x4 + 1)), (5, .int (x5 - x6)), (3, .int ((jshl x3 1) ||| 1)), (0, .ref (ad 0)), (6, .int x6)]) hx hb dX4_cut_98 hl (k := 3) rfl rfl (by decide) rfl (fun ls hl => ?_)
            refine lv_goto (tgt := 50) hx hb dX4_cut_101 rfl ?_
            exact ih ((jshl x3 1) ||| 1) (x4 + 1) (x5 - x6) x6 out hrun K _ _ _ I (lv_sub hl [3, 2, 0, 1, 4] rfl)
  unfold P4_cut at hrun
  refine lv_iload_n hx hb dX4_cut_0 rfl (lv_at hl 1 rfl) ?_
  refine lv_iconst (v := 1) hx hb dX4_cut_1 rfl ?_
  refine lv_icmp_lt (tgt := 36) hx hb dX4_cut_2 rfl (fun c1 => ?_) (fun c1 => ?_)
  · have hrun := p_pos hrun c1
    refine lv_ldc (v := (-2000000102)) hx hb C.2.2.2.1 (C.2.2.2.2 _ k4_cut_36) dX4_cut_36 ?_
    cases hrun
    refine W.widen (k := 1) (n := 7) (Nat.zero_le _) (Nat.zero_le _) ?_
    exact rG_i (u := wad) C hr hlk hQ I hD (nbi _) rfl dX4_cut_38
  · have hrun := p_neg hrun c1
    refine lv_iload_n hx hb dX4_cut_5 rfl (lv_at hl 1 rfl) ?_
    refine lv_bipush (v := 99) hx hb dX4_cut_6 rfl ?_
    refine lv_icmp_gt (tgt := 36) hx hb dX4_cut_8 rfl (fun c2 => ?_) (fun c2 => ?_)
    · have hrun := p_pos hrun c2
      refine lv_ldc (v := (-2000000102)) hx hb C.2.2.2.1 (C.2.2.2.2 _ k4_cut_36) dX4_cut_36 ?_
      cases hrun
      refine W.widen (k := 1) (n := 7) (Nat.zero_le _) (Nat.zero_le _) ?_
      exact rG_i (u := wad) C hr hlk hQ I hD (nbi _) rfl dX4_cut_38
    · have hrun := p_neg hrun c2
      refine lv_iload_n hx hb dX4_cut_11 rfl (lv_at hl 2 rfl) ?_
      refine lv_iconst (v := 1) hx hb dX4_cut_12 rfl ?_
      refine lv_icmp_lt (tgt := 36) hx hb dX4_cut_13 rfl (fun c3 => ?_) (fun c3 => ?_)
      · have hrun := p_pos hrun c3
        refine lv_ldc (v := (-2000000102)) hx hb C.2.2.2.1 (C.2.2.2.2 _ k4_cut_36) dX4_cut_36 ?_
        cases hrun
        refine W.widen (k := 1) (n := 7) (Nat.zero_le _) (Nat.zero_le _) ?_
        exact rG_i (u := wad) C hr hlk hQ I hD (nbi _) rfl dX4_cut_38
      · have hrun := p_neg hrun c3
        refine lv_iload_n hx hb dX4_cut_16 rfl (lv_at hl 2 rfl) ?_
        refine lv_bipush (v := 99) hx hb dX4_cut_17 rfl ?_
        refine lv_icmp_gt (tgt := 36) hx hb dX4_cut_19 rfl (fun c4 => ?_) (fun c4 => ?_)
        · have hrun := p_pos hrun c4
          refine lv_ldc (v := (-2000000102)) hx hb C.2.2.2.1 (C.2.2.2.2 _ k4_cut_36) dX4_cut_36 ?_
          cases hrun
          refine W.widen (k := 1) (n := 7) (Nat.zero_le _) (Nat.zero_le _) ?_
          exact rG_i (u := wad) C hr hlk hQ I hD (nbi _) rfl dX4_cut_38
        · have hrun := p_neg hrun c4
          refine lv_iload_n hx hb dX4_cut_22 rfl (lv_at hl 1 rfl) ?_
          refine lv_iload_n hx hb dX4_cut_23 rfl (lv_at hl 2 rfl) ?_
          refine lv_icmp_eq (tgt := 36) hx hb dX4_cut_24 rfl (fun c5 => ?_) (fun c5 => ?_)
          · have hrun := p_pos hrun c5
            refine lv_ldc (v := (-2000000102)) hx hb C.2.2.2.1 (C.2.2.2.2 _ k4_cut_36) dX4_cut_36 ?_
            cases hrun
            refine W.widen (k := 1) (n := 7) (Nat.zero_le _) (Nat.zero_le _) ?_
            exact rG_i (u := wad) C hr hlk hQ I hD (nbi _) rfl dX4_cut_38
          · have hrun := p_neg hrun c5
            refine lv_iload_n hx hb dX4_cut_27 rfl (lv_at hl 1 rfl) ?_
            refine lv_iload_n hx hb dX4_cut_28 rfl (lv_at hl 2 rfl) ?_
            obtain ⟨r6, h_r6, hrun⟩ := p_bnd hrun
            refine jSS_i (rest := []) C (c4_commonDivisor h_r6) gX4_cut_X4_commonDivisor hd4_commonDivisor rfl ⟨rfl, rfl⟩ ⟨Nat.le_of_ble_eq_true rfl, Nat.le_of_ble_eq_true rfl⟩ rfl hl.1 rfl (Nat.le_of_ble_eq_true rfl) ⟨Nat.le_of_ble_eq_true rfl, Nat.le_of_ble_eq_true rfl⟩ dX4_cut_29 ?_
            refine lv_iconst (v := 1) hx hb dX4_cut_32 rfl ?_
            refine lv_icmp_le (tgt := 39) hx hb dX4_cut_33 rfl (fun c7 => ?_) (fun c7 => ?_)
            · have hrun := p_pos hrun c7
              refine lv_iconst (v := 0) hx hb dX4_cut_39 rfl ?_
              refine lv_istore_n (lv' := [(3, .int 0), (0, .ref (ad 0)), (1, .int x1), (2, .int x2)]) hx hb dX4_cut_40 rfl hl (by decide) rfl (fun ls hl => ?_)
              refine lv_iconst (v := 0) hx hb dX4_cut_41 rfl ?_
              refine lv_istore (lv' := [(4, .int 0), (3, .int 0), (0, .ref (ad 0)), (1, .int x1), (2, .int x2)]) hx hb dX4_cut_42 hl (by decide) rfl (fun ls hl => ?_)
              refine lv_iload_n hx hb dX4_cut_44 rfl (lv_at hl 3 rfl) ?_
              refine lv_istore (lv' := [(5, .int x1), (4, .int 0), (3, .int 0), (0, .ref (ad 0)), (1, .int x1), (2, .int x2)]) hx hb dX4_cut_45 hl (by decide) rfl (fun ls hl => ?_)
              refine lv_iload_n hx hb dX4_cut_47 rfl (lv_at hl 5 rfl) ?_
              refine lv_istore (lv' := [(6, .int x2), (5, .int x1), (4, .int 0), (3, .int 0), (0, .ref (ad 0)), (1, .int x1), (2, .int x2)]) hx hb dX4_cut_48 hl (by decide) rfl (fun ls hl => ?_)
              obtain ⟨o11, h_o11, hrun⟩ := p_bnd hrun
              refine loop_50 v_roadCount v_wn v_wv FU 0 0 x1 x2 o11 h_o11 (fun H locs ls I hl => ?_) _ _ _ I (lv_sub hl [4, 3, 2, 1, 0] rfl)
              refine lv_aload_n hx hb dX4_cut_104 rfl (lv_at hl 0 rfl) ?_
              refine lv_iload_n hx hb dX4_cut_105 rfl (lv_at hl 1 rfl) ?_
              refine lv_iload hx hb dX4_cut_106 (lv_at hl 2 rfl) ?_
              obtain ⟨r12, h_r12, hrun⟩ := p_bnd hrun
              refine jVG_i (rest := []) C (c4_addRoad h_r12) gX4_cut_X4_addRoad hd4_addRoad hK hN hD hA I rcX rfl ⟨rfl, rfl⟩ ⟨Nat.le_of_ble_eq_true rfl, Nat.le_of_ble_eq_true rfl⟩ rfl hl.1 rfl (Nat.le_of_ble_eq_true rfl) ⟨Nat.le_of_ble_eq_true rfl, Nat.le_of_ble_eq_true rfl⟩ dX4_cut_108 (fun wad H locs hD I => ?_)
              cases hrun
              exact rG_i (u := wad) C hr hlk hQ I hD (nbi _) rfl dX4_cut_111
            · have hrun := p_neg hrun c7
              refine lv_ldc (v := (-2000000102)) hx hb C.2.2.2.1 (C.2.2.2.2 _ k4_cut_36) dX4_cut_36 ?_
              cases hrun
              refine W.widen (k := 1) (n := 7) (Nat.zero_le _) (Nat.zero_le _) ?_
              exact rG_i (u := wad) C hr hlk hQ I hD (nbi _) rfl dX4_cut_38

abbrev rm4_drop : Room := { frames := 0, cells := 0, slots := 0, locals := 0 }
theorem fl4_drop_148 : Cond.fieldLink RX4 148 "RiverWords" "roadCount" "I" ∈ wsX4_drop := by decide +kernel
theorem k4_drop_56 : Cond.constant RX4 56 (-2000000103) ∈ wsX4_drop := by decide +kernel
theorem inm4_drop_X4 : ∀ w ∈ wsX40, w ∈ wsX4_drop := by decide +kernel
theorem hd4_drop : okD yX4_drop 0 := by decide +kernel
set_option maxHeartbeats 8000000 in
set_option maxRecDepth 100000 in
theorem c4_drop {res : Int32 × Int32} (hrun : P4_drop v_roadCount = some res) : Met l yX4_drop wsX4_drop rm4_drop (va_Pc [.ref (ad 0)] (PE D (tyX cI cR cG) sz (WX0 ad fa ca wad cI cR cG v_wn) (WX ad fa ca wad cI cR cG v_roadCount v_readings v_psize v_good v_pbits v_letters v_afterLetter v_codes v_disc v_rsize v_cycleCount v_fo v_cy v_s v_closed v_traces v_crossings v_db_bits v_db_size v_db_allBits v_db_a v_db_b v_db_c v_db_d v_dn_bits v_dn_size v_dn_allBits v_dn_a v_dn_b v_dn_c v_dn_d v_wn v_wv))) (va_Qi (fun (x : Int32) (_ : Unit) => x = res.1) (fun _ t => va_P D vwCl (WX ad fa ca wad cI cR cG res.2 v_readings v_psize v_good v_pbits v_letters v_afterLetter v_codes v_disc v_rsize v_cycleCount v_fo v_cy v_s v_closed v_traces v_crossings v_db_bits v_db_size v_db_allBits v_db_a v_db_b v_db_c v_db_d v_dn_bits v_dn_size v_dn_allBits v_dn_a v_dn_b v_dn_c v_dn_d v_wn v_wv) t.heap) (va_A (WX0 ad fa ca wad cI cR cG v_wn) sz)) 0 0 (va_A (WX0 ad fa ca wad cI cR cG v_wn) sz) := by
  refine E_in (cc := cX4_drop) (maxL := 1) (ret := (some .int)) (by decide) rfl (Nat.le_of_ble_eq_true rfl) ?_
  intro p e s m args below meth c ls Q hQ C hr hlk hK hN hD hA I hl
  have C : CallFix p m c cX4_drop 1 s args wsX4_drop RX4 := C
  have hx := C.1
  have hb := C.2.1
  have hl : lv_has ls 1 [(0, .ref (ad 0))] := hl
  unfold P4_drop at hrun
  refine lv_aload_n hx hb dX4_drop_0 rfl (lv_at hl 0 rfl) ?_
  refine gX_X_roadCount C inm4_drop_X4 hK I.1 fl4_drop_148 dX4_drop_1 ?_
  refine lv_if_gt (tgt := 10) hx hb dX4_drop_4 rfl (fun c1 => ?_) (fun c1 => ?_)
  · have hrun := p_pos hrun c1
    refine lv_aload_n hx hb dX4_drop_10 rfl (lv_at hl 0 rfl) ?_
    refine lv_dup hx hb dX4_drop_11 rfl ?_
    refine gX_X_roadCount C inm4_drop_X4 hK I.1 fl4_drop_148 dX4_drop_12 ?_
    refine lv_iconst (v := 1) hx hb dX4_drop_15 rfl ?_
    refine lv_isub hx hb dX4_drop_16 ?_
    refine pX_X_roadCount C inm4_drop_X4 hK hD I fl4_drop_148 dX4_drop_17 (fun H locs I => ?_)
    refine lv_aload_n hx hb dX4_drop_20 rfl (lv_at hl 0 rfl) ?_
    refine gX_X_roadCount C inm4_drop_X4 hK I.1 fl4_drop_148 dX4_drop_21 ?_
    cases hrun
    exact rE_i C hr hlk hQ I (nbi _) rfl dX4_drop_24
  · have hrun := p_neg hrun c1
    refine lv_ldc (v := (-2000000103)) hx hb C.2.2.2.1 (C.2.2.2.2 _ k4_drop_56) dX4_drop_7 ?_
    cases hrun
    exact rE_i C hr hlk hQ I (nbi _) rfl dX4_drop_9

abbrev rm4_river : Room := { frames := 6, cells := 0, slots := 0, locals := 140 }
theorem fl4_river_25 : Cond.fieldLink RX4 25 "RiverWords" "river" "LRiverWords$River;" ∈ wsX4_river := by decide +kernel
theorem fl4_river_156 : Cond.fieldLink RX4 156 "RiverWords$River" "size" "I" ∈ wsX4_river := by decide +kernel
theorem k4_river_36 : Cond.constant RX4 36 (-2000000102) ∈ wsX4_river := by decide +kernel
theorem inm4_river_X2 : ∀ w ∈ wsX20, w ∈ wsX4_river := by decide +kernel
theorem inm4_river_X4 : ∀ w ∈ wsX40, w ∈ wsX4_river := by decide +kernel
theorem hd4_river : okD yX4_river 1 := by decide +kernel
set_option maxHeartbeats 8000000 in
set_option maxRecDepth 100000 in
theorem c4_river {x1 : Int32} {res : Int32 × Int32 × Int32 × Int32 × (Nat → Nat → Int32) × (Nat → Nat → Int32)} (hrun : P4_river v_disc v_rsize v_cycleCount v_fo v_cy x1 = some res) : Met l yX4_river wsX4_river rm4_river (va_Pc [.ref (ad 0), .int x1] (PE D (tyX cI cR cG) sz (WX0 ad fa ca wad cI cR cG v_wn) (WX ad fa ca wad cI cR cG v_roadCount v_readings v_psize v_good v_pbits v_letters v_afterLetter v_codes v_disc v_rsize v_cycleCount v_fo v_cy v_s v_closed v_traces v_crossings v_db_bits v_db_size v_db_allBits v_db_a v_db_b v_db_c v_db_d v_dn_bits v_dn_size v_dn_allBits v_dn_a v_dn_b v_dn_c v_dn_d v_wn v_wv))) (va_Qi (fun (x : Int32) (_ : Unit) => x = res.1) (fun _ t => va_P D vwCl (WX ad fa ca wad cI cR cG v_roadCount v_readings v_psize v_good v_pbits v_letters v_afterLetter v_codes res.2.1 res.2.2.1 res.2.2.2.1 res.2.2.2.2.1 res.2.2.2.2.2 v_s v_closed v_traces v_crossings v_db_bits v_db_size v_db_allBits v_db_a v_db_b v_db_c v_db_d v_dn_bits v_dn_size v_dn_allBits v_dn_a v_dn_b v_dn_c v_dn_d v_wn v_wv) t.heap) (va_A (WX0 ad fa ca wad cI cR cG v_wn) sz)) 0 0 (va_A (WX0 ad fa ca wad cI cR cG v_wn) sz) := by
  refine E_in (cc := cX4_river) (maxL := 2) (ret := (some .int)) (by decide) rfl (Nat.le_of_ble_eq_true rfl) ?_
  intro p e s m args below meth c ls Q hQ C hr hlk hK hN hD hA I hl
  have C : CallFix p m c cX4_river 2 s args wsX4_river RX4 := C
  have hx := C.1
  have hb := C.2.1
  have hl : lv_has ls 2 [(0, .ref (ad 0)), (1, .int x1)] := hl
  unfold P4_river at hrun
  refine lv_iload_n hx hb dX4_river_0 rfl (lv_at hl 1 rfl) ?_
  refine lv_iconst (v := 5) hx hb dX4_river_1 rfl ?_
  refine lv_icmp_lt (tgt := 26) hx hb dX4_river_2 rfl (fun c1 => ?_) (fun c1 => ?_)
  · have hrun := p_pos hrun c1
    refine lv_ldc (v := (-2000000102)) hx hb C.2.2.2.1 (C.2.2.2.2 _ k4_river_36) dX4_river_26 ?_
    cases hrun
    exact rE_i C hr hlk hQ I (nbi _) rfl dX4_river_28
  · have hrun := p_neg hrun c1
    refine lv_iload_n hx hb dX4_river_5 rfl (lv_at hl 1 rfl) ?_
    refine lv_sipush (v := 900) hx hb dX4_river_6 rfl ?_
    refine lv_icmp_gt (tgt := 26) hx hb dX4_river_9 rfl (fun c2 => ?_) (fun c2 => ?_)
    · have hrun := p_pos hrun c2
      refine lv_ldc (v := (-2000000102)) hx hb C.2.2.2.1 (C.2.2.2.2 _ k4_river_36) dX4_river_26 ?_
      cases hrun
      exact rE_i C hr hlk hQ I (nbi _) rfl dX4_river_28
    · have hrun := p_neg hrun c2
      refine lv_iload_n hx hb dX4_river_12 rfl (lv_at hl 1 rfl) ?_
      refine lv_iconst (v := 4) hx hb dX4_river_13 rfl ?_
      refine j_irem hx hb dX4_river_14 (by decide) ?_
      refine lv_iconst (v := 1) hx hb dX4_river_15 rfl ?_
      refine lv_icmp_gt (tgt := 26) hx hb dX4_river_16 rfl (fun c3 => ?_) (fun c3 => ?_)
      · have hrun := p_pos hrun c3
        refine lv_ldc (v := (-2000000102)) hx hb C.2.2.2.1 (C.2.2.2.2 _ k4_river_36) dX4_river_26 ?_
        cases hrun
        exact rE_i C hr hlk hQ I (nbi _) rfl dX4_river_28
      · have hrun := p_neg hrun c3
        refine lv_iload_n hx hb dX4_river_19 rfl (lv_at hl 1 rfl) ?_
        obtain ⟨r4, h_r4, hrun⟩ := p_bnd hrun
        refine jSS_i (rest := []) C (c4_isSquare h_r4) gX4_river_X4_isSquare hd4_isSquare rfl ⟨rfl, rfl⟩ ⟨Nat.le_of_ble_eq_true rfl, Nat.le_of_ble_eq_true rfl⟩ rfl hl.1 rfl (Nat.le_of_ble_eq_true rfl) ⟨Nat.le_of_ble_eq_true rfl, Nat.le_of_ble_eq_true rfl⟩ dX4_river_20 ?_
        refine lv_if_eq (tgt := 29) hx hb dX4_river_23 rfl (fun c5 => ?_) (fun c5 => ?_)
        · have hrun := p_pos hrun c5
          refine lv_aload_n hx hb dX4_river_29 rfl (lv_at hl 0 rfl) ?_
          refine gX_X_river C inm4_river_X4 hK I.1 fl4_river_25 dX4_river_30 ?_
          refine lv_iload_n hx hb dX4_river_33 rfl (lv_at hl 1 rfl) ?_
          obtain ⟨r6, h_r6, hrun⟩ := p_bnd hrun
          refine jVE_v (rest := []) C (c2_become h_r6) gX4_river_X2_become hd2_become hK hN hD hA I rcR rfl ⟨rfl, rfl⟩ ⟨Nat.le_of_ble_eq_true rfl, Nat.le_of_ble_eq_true rfl⟩ rfl hl.1 rfl (Nat.le_of_ble_eq_true rfl) ⟨Nat.le_of_ble_eq_true rfl, Nat.le_of_ble_eq_true rfl⟩ dX4_river_34 (fun H locs I => ?_)
          refine lv_aload_n hx hb dX4_river_37 rfl (lv_at hl 0 rfl) ?_
          refine gX_X_river C inm4_river_X4 hK I.1 fl4_river_25 dX4_river_38 ?_
          refine gX_R_size C inm4_river_X2 hK I.1 fl4_river_156 dX4_river_41 ?_
          cases hrun
          exact rE_i C hr hlk hQ I (nbi _) rfl dX4_river_44
        · have hrun := p_neg hrun c5
          refine lv_ldc (v := (-2000000102)) hx hb C.2.2.2.1 (C.2.2.2.2 _ k4_river_36) dX4_river_26 ?_
          cases hrun
          exact rE_i C hr hlk hQ I (nbi _) rfl dX4_river_28

abbrev rm4_simple : Room := { frames := 2, cells := 0, slots := 0, locals := 43 }
theorem fl4_simple_25 : Cond.fieldLink RX4 25 "RiverWords" "river" "LRiverWords$River;" ∈ wsX4_simple := by decide +kernel
theorem k4_simple_36 : Cond.constant RX4 36 (-2000000102) ∈ wsX4_simple := by decide +kernel
theorem k4_simple_74 : Cond.constant RX4 74 (-2000000101) ∈ wsX4_simple := by decide +kernel
theorem inm4_simple_X4 : ∀ w ∈ wsX40, w ∈ wsX4_simple := by decide +kernel
theorem hd4_simple : okD yX4_simple 2 := by decide +kernel
set_option maxHeartbeats 8000000 in
set_option maxRecDepth 100000 in
theorem c4_simple {x1 : Int32} {x2 : Int32} {res : Int32} (hrun : P4_simple v_rsize v_fo x1 x2 = some res) : Met l yX4_simple wsX4_simple rm4_simple (va_Pc [.ref (ad 0), .int x1, .int x2] (PS D (tyX cI cR cG) (WX ad fa ca wad cI cR cG v_roadCount v_readings v_psize v_good v_pbits v_letters v_afterLetter v_codes v_disc v_rsize v_cycleCount v_fo v_cy v_s v_closed v_traces v_crossings v_db_bits v_db_size v_db_allBits v_db_a v_db_b v_db_c v_db_d v_dn_bits v_dn_size v_dn_allBits v_dn_a v_dn_b v_dn_c v_dn_d v_wn v_wv))) (vp_Si (fun x => x = res)) 0 0 (fun _ => False) := by
  refine S_in (cc := cX4_simple) (maxL := 3) (ret := (some .int)) (by decide) rfl (Nat.le_of_ble_eq_true rfl) ?_
  intro p e s m args below meth c ls Q hQ C hr hlk hK hN hP hl
  have C : CallFix p m c cX4_simple 3 s args wsX4_simple RX4 := C
  have hx := C.1
  have hb := C.2.1
  have hl : lv_has ls 3 [(0, .ref (ad 0)), (1, .int x1), (2, .int x2)] := hl
  unfold P4_simple at hrun
  refine lv_aload_n hx hb dX4_simple_0 rfl (lv_at hl 0 rfl) ?_
  refine gX_X_river C inm4_simple_X4 hK hP fl4_simple_25 dX4_simple_1 ?_
  refine lv_iload_n hx hb dX4_simple_4 rfl (lv_at hl 1 rfl) ?_
  obtain ⟨r1, h_r1, hrun⟩ := p_bnd hrun
  refine jVS_i (rest := []) C (c2_hasForm h_r1) gX4_simple_X2_hasForm hd2_hasForm hK hN hP rcR rfl ⟨rfl, rfl⟩ ⟨Nat.le_of_ble_eq_true rfl, Nat.le_of_ble_eq_true rfl⟩ rfl hl.1 rfl (Nat.le_of_ble_eq_true rfl) ⟨Nat.le_of_ble_eq_true rfl, Nat.le_of_ble_eq_true rfl⟩ dX4_simple_5 ?_
  refine lv_if_ne (tgt := 14) hx hb dX4_simple_8 rfl (fun c2 => ?_) (fun c2 => ?_)
  · have hrun := p_neg hrun c2
    refine lv_iload_n hx hb dX4_simple_14 rfl (lv_at hl 2 rfl) ?_
    refine lv_if_lt (tgt := 36) hx hb dX4_simple_15 rfl (fun c3 => ?_) (fun c3 => ?_)
    · have hrun := p_pos hrun c3
      refine lv_ldc (v := (-2000000102)) hx hb C.2.2.2.1 (C.2.2.2.2 _ k4_simple_36) dX4_simple_36 ?_
      cases hrun
      exact rS_i C hr hlk hQ (nbi _) rfl dX4_simple_38
    · have hrun := p_neg hrun c3
      refine lv_iload_n hx hb dX4_simple_18 rfl (lv_at hl 2 rfl) ?_
      refine lv_bipush (v := 8) hx hb dX4_simple_19 rfl ?_
      refine lv_icmp_ge (tgt := 36) hx hb dX4_simple_21 rfl (fun c4 => ?_) (fun c4 => ?_)
      · have hrun := p_pos hrun c4
        refine lv_ldc (v := (-2000000102)) hx hb C.2.2.2.1 (C.2.2.2.2 _ k4_simple_36) dX4_simple_36 ?_
        cases hrun
        exact rS_i C hr hlk hQ (nbi _) rfl dX4_simple_38
      · have hrun := p_neg hrun c4
        refine lv_aload_n hx hb dX4_simple_24 rfl (lv_at hl 0 rfl) ?_
        refine gX_X_river C inm4_simple_X4 hK hP fl4_simple_25 dX4_simple_25 ?_
        refine lv_iload_n hx hb dX4_simple_28 rfl (lv_at hl 1 rfl) ?_
        refine lv_iload_n hx hb dX4_simple_29 rfl (lv_at hl 2 rfl) ?_
        obtain ⟨r5, h_r5, hrun⟩ := p_bnd hrun
        refine jVS_i (rest := []) C (c2_ofForm h_r5) gX4_simple_X2_ofForm hd2_ofForm hK hN hP rcR rfl ⟨rfl, rfl⟩ ⟨Nat.le_of_ble_eq_true rfl, Nat.le_of_ble_eq_true rfl⟩ rfl hl.1 rfl (Nat.le_of_ble_eq_true rfl) ⟨Nat.le_of_ble_eq_true rfl, Nat.le_of_ble_eq_true rfl⟩ dX4_simple_30 ?_
        refine lv_goto (tgt := 38) hx hb dX4_simple_33 rfl ?_
        cases hrun
        exact rS_i C hr hlk hQ (nbi _) rfl dX4_simple_38
  · have hrun := p_pos hrun c2
    refine lv_ldc (v := (-2000000101)) hx hb C.2.2.2.1 (C.2.2.2.2 _ k4_simple_74) dX4_simple_11 ?_
    cases hrun
    exact rS_i C hr hlk hQ (nbi _) rfl dX4_simple_13

abbrev rm4_cycle : Room := { frames := 2, cells := 0, slots := 0, locals := 43 }
theorem fl4_cycle_25 : Cond.fieldLink RX4 25 "RiverWords" "river" "LRiverWords$River;" ∈ wsX4_cycle := by decide +kernel
theorem k4_cycle_36 : Cond.constant RX4 36 (-2000000102) ∈ wsX4_cycle := by decide +kernel
theorem k4_cycle_74 : Cond.constant RX4 74 (-2000000101) ∈ wsX4_cycle := by decide +kernel
theorem inm4_cycle_X4 : ∀ w ∈ wsX40, w ∈ wsX4_cycle := by decide +kernel
theorem hd4_cycle : okD yX4_cycle 2 := by decide +kernel
set_option maxHeartbeats 8000000 in
set_option maxRecDepth 100000 in
theorem c4_cycle {x1 : Int32} {x2 : Int32} {res : Int32} (hrun : P4_cycle v_cycleCount v_cy x1 x2 = some res) : Met l yX4_cycle wsX4_cycle rm4_cycle (va_Pc [.ref (ad 0), .int x1, .int x2] (PS D (tyX cI cR cG) (WX ad fa ca wad cI cR cG v_roadCount v_readings v_psize v_good v_pbits v_letters v_afterLetter v_codes v_disc v_rsize v_cycleCount v_fo v_cy v_s v_closed v_traces v_crossings v_db_bits v_db_size v_db_allBits v_db_a v_db_b v_db_c v_db_d v_dn_bits v_dn_size v_dn_allBits v_dn_a v_dn_b v_dn_c v_dn_d v_wn v_wv))) (vp_Si (fun x => x = res)) 0 0 (fun _ => False) := by
  refine S_in (cc := cX4_cycle) (maxL := 3) (ret := (some .int)) (by decide) rfl (Nat.le_of_ble_eq_true rfl) ?_
  intro p e s m args below meth c ls Q hQ C hr hlk hK hN hP hl
  have C : CallFix p m c cX4_cycle 3 s args wsX4_cycle RX4 := C
  have hx := C.1
  have hb := C.2.1
  have hl : lv_has ls 3 [(0, .ref (ad 0)), (1, .int x1), (2, .int x2)] := hl
  unfold P4_cycle at hrun
  refine lv_aload_n hx hb dX4_cycle_0 rfl (lv_at hl 0 rfl) ?_
  refine gX_X_river C inm4_cycle_X4 hK hP fl4_cycle_25 dX4_cycle_1 ?_
  refine lv_iload_n hx hb dX4_cycle_4 rfl (lv_at hl 1 rfl) ?_
  obtain ⟨r1, h_r1, hrun⟩ := p_bnd hrun
  refine jVS_i (rest := []) C (c2_hasCycle h_r1) gX4_cycle_X2_hasCycle hd2_hasCycle hK hN hP rcR rfl ⟨rfl, rfl⟩ ⟨Nat.le_of_ble_eq_true rfl, Nat.le_of_ble_eq_true rfl⟩ rfl hl.1 rfl (Nat.le_of_ble_eq_true rfl) ⟨Nat.le_of_ble_eq_true rfl, Nat.le_of_ble_eq_true rfl⟩ dX4_cycle_5 ?_
  refine lv_if_ne (tgt := 14) hx hb dX4_cycle_8 rfl (fun c2 => ?_) (fun c2 => ?_)
  · have hrun := p_neg hrun c2
    refine lv_iload_n hx hb dX4_cycle_14 rfl (lv_at hl 2 rfl) ?_
    refine lv_if_lt (tgt := 35) hx hb dX4_cycle_15 rfl (fun c3 => ?_) (fun c3 => ?_)
    · have hrun := p_pos hrun c3
      refine lv_ldc (v := (-2000000102)) hx hb C.2.2.2.1 (C.2.2.2.2 _ k4_cycle_36) dX4_cycle_35 ?_
      cases hrun
      exact rS_i C hr hlk hQ (nbi _) rfl dX4_cycle_37
    · have hrun := p_neg hrun c3
      refine lv_iload_n hx hb dX4_cycle_18 rfl (lv_at hl 2 rfl) ?_
      refine lv_iconst (v := 5) hx hb dX4_cycle_19 rfl ?_
      refine lv_icmp_ge (tgt := 35) hx hb dX4_cycle_20 rfl (fun c4 => ?_) (fun c4 => ?_)
      · have hrun := p_pos hrun c4
        refine lv_ldc (v := (-2000000102)) hx hb C.2.2.2.1 (C.2.2.2.2 _ k4_cycle_36) dX4_cycle_35 ?_
        cases hrun
        exact rS_i C hr hlk hQ (nbi _) rfl dX4_cycle_37
      · have hrun := p_neg hrun c4
        refine lv_aload_n hx hb dX4_cycle_23 rfl (lv_at hl 0 rfl) ?_
        refine gX_X_river C inm4_cycle_X4 hK hP fl4_cycle_25 dX4_cycle_24 ?_
        refine lv_iload_n hx hb dX4_cycle_27 rfl (lv_at hl 1 rfl) ?_
        refine lv_iload_n hx hb dX4_cycle_28 rfl (lv_at hl 2 rfl) ?_
        obtain ⟨r5, h_r5, hrun⟩ := p_bnd hrun
        refine jVS_i (rest := []) C (c2_ofCycle h_r5) gX4_cycle_X2_ofCycle hd2_ofCycle hK hN hP rcR rfl ⟨rfl, rfl⟩ ⟨Nat.le_of_ble_eq_true rfl, Nat.le_of_ble_eq_true rfl⟩ rfl hl.1 rfl (Nat.le_of_ble_eq_true rfl) ⟨Nat.le_of_ble_eq_true rfl, Nat.le_of_ble_eq_true rfl⟩ dX4_cycle_29 ?_
        refine lv_goto (tgt := 37) hx hb dX4_cycle_32 rfl ?_
        cases hrun
        exact rS_i C hr hlk hQ (nbi _) rfl dX4_cycle_37
  · have hrun := p_pos hrun c2
    refine lv_ldc (v := (-2000000101)) hx hb C.2.2.2.1 (C.2.2.2.2 _ k4_cycle_74) dX4_cycle_11 ?_
    cases hrun
    exact rS_i C hr hlk hQ (nbi _) rfl dX4_cycle_13

abbrev rm4_step : Room := { frames := 3, cells := 0, slots := 0, locals := 67 }
theorem fl4_step_25 : Cond.fieldLink RX4 25 "RiverWords" "river" "LRiverWords$River;" ∈ wsX4_step := by decide +kernel
theorem k4_step_74 : Cond.constant RX4 74 (-2000000101) ∈ wsX4_step := by decide +kernel
theorem inm4_step_X4 : ∀ w ∈ wsX40, w ∈ wsX4_step := by decide +kernel
theorem hd4_step : okD yX4_step 2 := by decide +kernel
set_option maxHeartbeats 8000000 in
set_option maxRecDepth 100000 in
theorem c4_step {x1 : Int32} {x2 : Int32} {res : Int32} (hrun : P4_step v_rsize v_cycleCount v_fo v_cy x1 x2 = some res) : Met l yX4_step wsX4_step rm4_step (va_Pc [.ref (ad 0), .int x1, .int x2] (PS D (tyX cI cR cG) (WX ad fa ca wad cI cR cG v_roadCount v_readings v_psize v_good v_pbits v_letters v_afterLetter v_codes v_disc v_rsize v_cycleCount v_fo v_cy v_s v_closed v_traces v_crossings v_db_bits v_db_size v_db_allBits v_db_a v_db_b v_db_c v_db_d v_dn_bits v_dn_size v_dn_allBits v_dn_a v_dn_b v_dn_c v_dn_d v_wn v_wv))) (vp_Si (fun x => x = res)) 0 0 (fun _ => False) := by
  refine S_in (cc := cX4_step) (maxL := 3) (ret := (some .int)) (by decide) rfl (Nat.le_of_ble_eq_true rfl) ?_
  intro p e s m args below meth c ls Q hQ C hr hlk hK hN hP hl
  have C : CallFix p m c cX4_step 3 s args wsX4_step RX4 := C
  have hx := C.1
  have hb := C.2.1
  have hl : lv_has ls 3 [(0, .ref (ad 0)), (1, .int x1), (2, .int x2)] := hl
  unfold P4_step at hrun
  refine lv_aload_n hx hb dX4_step_0 rfl (lv_at hl 0 rfl) ?_
  refine gX_X_river C inm4_step_X4 hK hP fl4_step_25 dX4_step_1 ?_
  refine lv_iload_n hx hb dX4_step_4 rfl (lv_at hl 1 rfl) ?_
  obtain ⟨r1, h_r1, hrun⟩ := p_bnd hrun
  refine jVS_i (rest := []) C (c2_hasCycle h_r1) gX4_step_X2_hasCycle hd2_hasCycle hK hN hP rcR rfl ⟨rfl, rfl⟩ ⟨Nat.le_of_ble_eq_true rfl, Nat.le_of_ble_eq_true rfl⟩ rfl hl.1 rfl (Nat.le_of_ble_eq_true rfl) ⟨Nat.le_of_ble_eq_true rfl, Nat.le_of_ble_eq_true rfl⟩ dX4_step_5 ?_
  refine lv_if_eq (tgt := 28) hx hb dX4_step_8 rfl (fun c2 => ?_) (fun c2 => ?_)
  · have hrun := p_pos hrun c2
    refine lv_ldc (v := (-2000000101)) hx hb C.2.2.2.1 (C.2.2.2.2 _ k4_step_74) dX4_step_28 ?_
    cases hrun
    exact rS_i C hr hlk hQ (nbi _) rfl dX4_step_30
  · have hrun := p_neg hrun c2
    refine lv_iload_n hx hb dX4_step_11 rfl (lv_at hl 2 rfl) ?_
    refine lv_if_lt (tgt := 28) hx hb dX4_step_12 rfl (fun c3 => ?_) (fun c3 => ?_)
    · have hrun := p_pos hrun c3
      refine lv_ldc (v := (-2000000101)) hx hb C.2.2.2.1 (C.2.2.2.2 _ k4_step_74) dX4_step_28 ?_
      cases hrun
      exact rS_i C hr hlk hQ (nbi _) rfl dX4_step_30
    · have hrun := p_neg hrun c3
      refine lv_iload_n hx hb dX4_step_15 rfl (lv_at hl 2 rfl) ?_
      refine lv_aload_n hx hb dX4_step_16 rfl (lv_at hl 0 rfl) ?_
      refine gX_X_river C inm4_step_X4 hK hP fl4_step_25 dX4_step_17 ?_
      refine lv_iload_n hx hb dX4_step_20 rfl (lv_at hl 1 rfl) ?_
      refine lv_iconst (v := 1) hx hb dX4_step_21 rfl ?_
      obtain ⟨r4, h_r4, hrun⟩ := p_bnd hrun
      refine jVS_i (rest := [.int x2]) C (c2_ofCycle h_r4) gX4_step_X2_ofCycle hd2_ofCycle hK hN hP rcR rfl ⟨rfl, rfl⟩ ⟨Nat.le_of_ble_eq_true rfl, Nat.le_of_ble_eq_true rfl⟩ rfl hl.1 rfl (Nat.le_of_ble_eq_true rfl) ⟨Nat.le_of_ble_eq_true rfl, Nat.le_of_ble_eq_true rfl⟩ dX4_step_22 ?_
      refine lv_icmp_lt (tgt := 31) hx hb dX4_step_25 rfl (fun c5 => ?_) (fun c5 => ?_)
      · have hrun := p_pos hrun c5
        refine lv_aload_n hx hb dX4_step_31 rfl (lv_at hl 0 rfl) ?_
        refine gX_X_river C inm4_step_X4 hK hP fl4_step_25 dX4_step_32 ?_
        refine lv_iload_n hx hb dX4_step_35 rfl (lv_at hl 1 rfl) ?_
        refine lv_iload_n hx hb dX4_step_36 rfl (lv_at hl 2 rfl) ?_
        obtain ⟨r6, h_r6, hrun⟩ := p_bnd hrun
        refine jVS_i (rest := []) C (c2_letterAt h_r6) gX4_step_X2_letterAt hd2_letterAt hK hN hP rcR rfl ⟨rfl, rfl⟩ ⟨Nat.le_of_ble_eq_true rfl, Nat.le_of_ble_eq_true rfl⟩ rfl hl.1 rfl (Nat.le_of_ble_eq_true rfl) ⟨Nat.le_of_ble_eq_true rfl, Nat.le_of_ble_eq_true rfl⟩ dX4_step_37 ?_
        cases hrun
        exact rS_i C hr hlk hQ (nbi _) rfl dX4_step_40
      · have hrun := p_neg hrun c5
        refine lv_ldc (v := (-2000000101)) hx hb C.2.2.2.1 (C.2.2.2.2 _ k4_step_74) dX4_step_28 ?_
        cases hrun
        exact rS_i C hr hlk hQ (nbi _) rfl dX4_step_30

abbrev rm4_trace : Room := { frames := 3, cells := 0, slots := 0, locals := 73 }
theorem fl4_trace_25 : Cond.fieldLink RX4 25 "RiverWords" "river" "LRiverWords$River;" ∈ wsX4_trace := by decide +kernel
theorem k4_trace_36 : Cond.constant RX4 36 (-2000000102) ∈ wsX4_trace := by decide +kernel
theorem k4_trace_74 : Cond.constant RX4 74 (-2000000101) ∈ wsX4_trace := by decide +kernel
theorem inm4_trace_X4 : ∀ w ∈ wsX40, w ∈ wsX4_trace := by decide +kernel
theorem hd4_trace : okD yX4_trace 2 := by decide +kernel
set_option maxHeartbeats 8000000 in
set_option maxRecDepth 100000 in
theorem c4_trace {x1 : Int32} {x2 : Int32} {res : Int32} (hrun : P4_trace v_rsize v_cycleCount v_fo v_cy x1 x2 = some res) : Met l yX4_trace wsX4_trace rm4_trace (va_Pc [.ref (ad 0), .int x1, .int x2] (PS D (tyX cI cR cG) (WX ad fa ca wad cI cR cG v_roadCount v_readings v_psize v_good v_pbits v_letters v_afterLetter v_codes v_disc v_rsize v_cycleCount v_fo v_cy v_s v_closed v_traces v_crossings v_db_bits v_db_size v_db_allBits v_db_a v_db_b v_db_c v_db_d v_dn_bits v_dn_size v_dn_allBits v_dn_a v_dn_b v_dn_c v_dn_d v_wn v_wv))) (vp_Si (fun x => x = res)) 0 0 (fun _ => False) := by
  refine S_in (cc := cX4_trace) (maxL := 3) (ret := (some .int)) (by decide) rfl (Nat.le_of_ble_eq_true rfl) ?_
  intro p e s m args below meth c ls Q hQ C hr hlk hK hN hP hl
  have C : CallFix p m c cX4_trace 3 s args wsX4_trace RX4 := C
  have hx := C.1
  have hb := C.2.1
  have hl : lv_has ls 3 [(0, .ref (ad 0)), (1, .int x1), (2, .int x2)] := hl
  unfold P4_trace at hrun
  refine lv_aload_n hx hb dX4_trace_0 rfl (lv_at hl 0 rfl) ?_
  refine gX_X_river C inm4_trace_X4 hK hP fl4_trace_25 dX4_trace_1 ?_
  refine lv_iload_n hx hb dX4_trace_4 rfl (lv_at hl 1 rfl) ?_
  obtain ⟨r1, h_r1, hrun⟩ := p_bnd hrun
  refine jVS_i (rest := []) C (c2_hasCycle h_r1) gX4_trace_X2_hasCycle hd2_hasCycle hK hN hP rcR rfl ⟨rfl, rfl⟩ ⟨Nat.le_of_ble_eq_true rfl, Nat.le_of_ble_eq_true rfl⟩ rfl hl.1 rfl (Nat.le_of_ble_eq_true rfl) ⟨Nat.le_of_ble_eq_true rfl, Nat.le_of_ble_eq_true rfl⟩ dX4_trace_5 ?_
  refine lv_if_ne (tgt := 14) hx hb dX4_trace_8 rfl (fun c2 => ?_) (fun c2 => ?_)
  · have hrun := p_neg hrun c2
    refine lv_iload_n hx hb dX4_trace_14 rfl (lv_at hl 2 rfl) ?_
    refine lv_iconst (v := 2) hx hb dX4_trace_15 rfl ?_
    refine lv_icmp_lt (tgt := 38) hx hb dX4_trace_16 rfl (fun c3 => ?_) (fun c3 => ?_)
    · have hrun := p_pos hrun c3
      refine lv_ldc (v := (-2000000102)) hx hb C.2.2.2.1 (C.2.2.2.2 _ k4_trace_36) dX4_trace_38 ?_
      cases hrun
      exact rS_i C hr hlk hQ (nbi _) rfl dX4_trace_40
    · have hrun := p_neg hrun c3
      refine lv_iload_n hx hb dX4_trace_19 rfl (lv_at hl 2 rfl) ?_
      refine lv_sipush (v := 1000) hx hb dX4_trace_20 rfl ?_
      refine lv_icmp_gt (tgt := 38) hx hb dX4_trace_23 rfl (fun c4 => ?_) (fun c4 => ?_)
      · have hrun := p_pos hrun c4
        refine lv_ldc (v := (-2000000102)) hx hb C.2.2.2.1 (C.2.2.2.2 _ k4_trace_36) dX4_trace_38 ?_
        cases hrun
        exact rS_i C hr hlk hQ (nbi _) rfl dX4_trace_40
      · have hrun := p_neg hrun c4
        refine lv_aload_n hx hb dX4_trace_26 rfl (lv_at hl 0 rfl) ?_
        refine gX_X_river C inm4_trace_X4 hK hP fl4_trace_25 dX4_trace_27 ?_
        refine lv_iload_n hx hb dX4_trace_30 rfl (lv_at hl 1 rfl) ?_
        refine lv_iload_n hx hb dX4_trace_31 rfl (lv_at hl 2 rfl) ?_
        obtain ⟨r5, h_r5, hrun⟩ := p_bnd hrun
        refine jVS_i (rest := []) C (c2_traceRemainder h_r5) gX4_trace_X2_traceRemainder hd2_traceRemainder hK hN hP rcR rfl ⟨rfl, rfl⟩ ⟨Nat.le_of_ble_eq_true rfl, Nat.le_of_ble_eq_true rfl⟩ rfl hl.1 rfl (Nat.le_of_ble_eq_true rfl) ⟨Nat.le_of_ble_eq_true rfl, Nat.le_of_ble_eq_true rfl⟩ dX4_trace_32 ?_
        refine lv_goto (tgt := 40) hx hb dX4_trace_35 rfl ?_
        cases hrun
        exact rS_i C hr hlk hQ (nbi _) rfl dX4_trace_40
  · have hrun := p_pos hrun c2
    refine lv_ldc (v := (-2000000101)) hx hb C.2.2.2.1 (C.2.2.2.2 _ k4_trace_74) dX4_trace_11 ?_
    cases hrun
    exact rS_i C hr hlk hQ (nbi _) rfl dX4_trace_13

end X99
