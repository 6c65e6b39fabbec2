section X95
variable {l : Launch} {D : va_G} {sz : Nat}
variable {ad fa ca wad : Nat → Nat} {cI cR cG : ClassId}
variable {v_roadCount v_readings v_psize v_good v_pbits v_letters v_afterLetter v_disc v_rsize v_cycleCount v_closed v_traces v_crossings v_db_bits v_db_size v_db_allBits v_db_a v_db_b v_db_c v_db_d v_dn_bits v_dn_size v_dn_allBits v_dn_a v_dn_b v_dn_c v_dn_d : Int32}
variable {v_s : Int64}
variable {v_codes : Nat → Int32}
variable {v_fo v_cy v_wv : Nat → Nat → Int32}
variable {v_wn : Nat}
abbrev rm2_traceRemainder : Room := { frames := 2, cells := 0, slots := 0, locals := 43 }
theorem jl2_traceRemainder_max : Cond.methodLink RX2 82 Lib.Math.max.name ∈ wsX2_traceRemainder := by decide +kernel
theorem js2_traceRemainder_max : Cond.static Lib.Math.max.name ∈ wsX2_traceRemainder := by decide +kernel
theorem jc2_traceRemainder_max : Cond.code Lib.Math.max.name Lib.Math.max.code 2 (some .int) ∈ wsX2_traceRemainder := by decide +kernel
theorem ji2_traceRemainder : Cond.initialized "java/lang/Math" ∈ wsX2_traceRemainder := by decide +kernel
theorem hd2_traceRemainder : okD yX2_traceRemainder 2 := by decide +kernel
set_option maxHeartbeats 8000000 in
set_option maxRecDepth 100000 in
theorem c2_traceRemainder {x1 : Int32} {x2 : Int32} {res : Int32} (hrun : P2_traceRemainder v_rsize v_cycleCount v_fo v_cy x1 x2 = some res) : Met l yX2_traceRemainder wsX2_traceRemainder rm2_traceRemainder (va_Pc [.ref (ad 4), .int x1, .int x2] (PS D (tyX cI cR cG) (WX ad fa ca wad cI cR cG v_roadCount v_readings v_psize v_good v_pbits v_letters v_afterLetter v_codes v_disc v_rsize v_cycleCount v_fo v_cy v_s v_closed v_traces v_crossings v_db_bits v_db_size v_db_allBits v_db_a v_db_b v_db_c v_db_d v_dn_bits v_dn_size v_dn_allBits v_dn_a v_dn_b v_dn_c v_dn_d v_wn v_wv))) (vp_Si (fun x => x = res)) 0 0 (fun _ => False) := by
  refine S_in (cc := cX2_traceRemainder) (maxL := 11) (ret := (some .int)) (by decide) rfl (Nat.le_of_ble_eq_true rfl) ?_
  intro p e s m args below meth c ls Q hQ C hr hlk hK hN hP hl
  have C : CallFix p m c cX2_traceRemainder 11 s args wsX2_traceRemainder RX2 := C
  have hx := C.1
  have hb := C.2.1
  have hl : lv_has ls 11 [(0, .ref (ad 4)), (1, .int x1), (2, .int x2)] := hl
  have loop_37 : ∀ (x3 : Int32) (x4 : Int32) (n : Nat) (x5 : Int32) (x6 : Int32) (x7 : Int32) (x8 : Int32) (x9 : Int32) (x10 : Int32) (out : Int32 × Int32), P2_traceRemainder_37 v_rsize v_fo x3 x4 n x5 x6 x7 x8 x9 x10 = some out → (∀ (ls : Array Slot), lv_has ls 11 [(3, .int x3), (6, .int out.1), (9, .int out.2)] → W p l e rm2_traceRemainder s m args below meth c s.heap [] 0 0 Q (F0 m 110 ls [])) → ∀ (ls : Array Slot), lv_has ls 11 [(0, .ref (ad 4)), (3, .int x3), (4, .int x4), (5, .int x5), (6, .int x6), (7, .int x7), (8, .int x8), (9, .int x9), (10, .int x10)] → W p l e rm2_traceRemainder s m args below meth c s.heap [] 0 0 Q (F0 m 37 ls []) := by
    intro x3 x4 n
    induction n with
    | zero =>
      intro x5 x6 x7 x8 x9 x10 out hrun K ls hl
      cases hrun
    | succ n ih =>
      intro x5 x6 x7 x8 x9 x10 out hrun K ls hl
      rw [P2_traceRemainder_37] at hrun
      refine lv_iload hx hb dX2_traceRemainder_37 (lv_at hl 8 rfl) ?_
      refine lv_iload hx hb dX2_traceRemainder_39 (lv_at hl 2 rfl) ?_
      refine lv_icmp_ge (tgt := 110) hx hb dX2_traceRemainder_41 rfl (fun c3 => ?_) (fun c3 => ?_)
      · have hrun := p_pos hrun c3
        cases hrun
        exact K _ (lv_sub hl [1, 4, 7] rfl)
      · have hrun := p_neg hrun c3
        refine lv_aload_n hx hb dX2_traceRemainder_44 rfl (lv_at hl 0 rfl) ?_
        refine lv_iload hx hb dX2_traceRemainder_45 (lv_at hl 3 rfl) ?_
        refine lv_iconst (v := 5) hx hb dX2_traceRemainder_47 rfl ?_
        obtain ⟨r4, h_r4, hrun⟩ := p_bnd hrun
        refine jVS_i (rest := []) C (c2_ofForm h_r4) gX2_traceRemainder_X2_ofForm hd2_ofForm hK hN hP rcR rfl ⟨rfl, rfl⟩ ⟨Nat.le_of_ble_eq_true rfl, Nat.le_of_ble_eq_true rfl⟩ rfl hl.1 rfl (Nat.le_of_ble_eq_true rfl) ⟨Nat.le_of_ble_eq_true rfl, Nat.le_of_ble_eq_true rfl⟩ dX2_traceRemainder_48 ?_
        refine lv_bipush (v := 82) hx hb dX2_traceRemainder_51 rfl ?_
        refine lv_icmp_ne (tgt := 77) hx hb dX2_traceRemainder_53 rfl (fun c5 => ?_) (fun c5 => ?_)
        · have hrun := p_neg hrun c5
          refine lv_iload hx hb dX2_traceRemainder_77 (lv_at hl 4 rfl) ?_
          refine lv_iload hx hb dX2_traceRemainder_79 (lv_at hl 5 rfl) ?_
          refine lv_iadd hx hb dX2_traceRemainder_81 ?_
          refine lv_iload_n hx hb dX2_traceRemainder_82 rfl (lv_at hl 1 rfl) ?_
          obtain ⟨z6, hrun⟩ := p_chk hrun
          refine j_irem hx hb dX2_traceRemainder_83 z6 ?_
          refine lv_istore (lv' := [(6, .int (jrem (x6 + x7) x3)), (0, .ref (ad 4)), (3, .int x3), (4, .int x4), (5, .int x5), (7, .int x7), (8, .int x8), (9, .int x9), (10, .int x10)]) hx hb dX2_traceRemainder_84 hl (by decide) rfl (fun ls hl => ?_)
          refine lv_iload hx hb dX2_traceRemainder_86 (lv_at hl 6 rfl) ?_
          refine lv_iload hx hb dX2_traceRemainder_88 (lv_at hl 7 rfl) ?_
          refine lv_iadd hx hb dX2_traceRemainder_90 ?_
          refine lv_iload_n hx hb dX2_traceRemainder_91 rfl (lv_at hl 2 rfl) ?_
          obtain ⟨z7, hrun⟩ := p_chk hrun
          refine j_irem hx hb dX2_traceRemainder_92 z7 ?_
          refine lv_istore (lv' := [(8, .int (jrem (x8 + x9) x3)), (6, .int (jrem (x6 + x7) x3)), (0, .ref (ad 4)), (3, .int x3), (4, .int x4), (5, .int x5), (7, .int x7), (9, .int x9), (10, .int x10)]) hx hb dX2_traceRemainder_93 hl (by decide) rfl (fun ls hl => ?_)
          refine lv_aload_n hx hb dX2_traceRemainder_95 rfl (lv_at hl 2 rfl) ?_
          refine lv_iload hx hb dX2_traceRemainder_96 (lv_at hl 5 rfl) ?_
          refine lv_iconst (v := 4) hx hb dX2_traceRemainder_98 rfl ?_
          obtain ⟨r8, h_r8, hrun⟩ := p_bnd hrun
          refine jVS_i (rest := []) C (c2_ofForm h_r8) gX2_traceRemainder_X2_ofForm hd2_ofForm hK hN hP rcR rfl ⟨rfl, rfl⟩ ⟨Nat.le_of_ble_eq_true rfl, Nat.le_of_ble_eq_true rfl⟩ rfl hl.1 rfl (Nat.le_of_ble_eq_true rfl) ⟨Nat.le_of_ble_eq_true rfl, Nat.le_of_ble_eq_true rfl⟩ dX2_traceRemainder_99 ?_
          refine lv_istore (lv' := [(5, .int r8), (8, .int (jrem (x8 + x9) x3)), (6, .int (jrem (x6 + x7) x3)), (0, .ref (ad 4)), (3, .int x3), (4, .int x4), (7, .int x7), (9, .int x9), (10, .int x10)]) hx hb dX2_traceRemainder_102 hl (by decide) rfl (fun ls hl => ?_)
          refine lv_iinc (v := x10 + 1) (lv' := [(10, .int (x10 + 1)), (5, .int r8), (8, .int (jrem (x8 + x9) x3)), (6, .int (jrem (x6 + x7) x3)), (0, .ref (ad 4)), (3, .int x3), (4, .int x4), (7, .int x7), (9, .int x9)]) hx hb dX2_traceRemainder_104 hl (k := 8) rfl rfl (by decide) rfl (fun ls hl => ?_)
          refine lv_goto (tgt := 37) hx hb dX2_traceRemainder_107 rfl ?_
          exact ih r8 (jrem (x6 + x7) x3) x7 (jrem (x8 + x9) x3) x9 (x10 + 1) out hrun K _ (lv_sub hl [4, 5, 6, 1, 3, 7, 2, 8, 0] rfl)
        · have hrun := p_pos hrun c5
          refine lv_iload hx hb dX2_traceRemainder_56 (lv_at hl 4 rfl) ?_
          refine lv_iload hx hb dX2_traceRemainder_58 (lv_at hl 5 rfl) ?_
          refine lv_iadd hx hb dX2_traceRemainder_60 ?_
          refine lv_iload_n hx hb dX2_traceRemainder_61 rfl (lv_at hl 1 rfl) ?_
          obtain ⟨z9, hrun⟩ := p_chk hrun
          refine j_irem hx hb dX2_traceRemainder_62 z9 ?_
          refine lv_istore (lv' := [(7, .int (jrem (x6 + x7) x3)), (0, .ref (ad 4)), (3, .int x3), (4, .int x4), (5, .int x5), (6, .int x6), (8, .int x8), (9, .int x9), (10, .int x10)]) hx hb dX2_traceRemainder_63 hl (by decide) rfl (fun ls hl => ?_)
          refine lv_iload hx hb dX2_traceRemainder_65 (lv_at hl 6 rfl) ?_
          refine lv_iload hx hb dX2_traceRemainder_67 (lv_at hl 7 rfl) ?_
          refine lv_iadd hx hb dX2_traceRemainder_69 ?_
          refine lv_iload_n hx hb dX2_traceRemainder_70 rfl (lv_at hl 2 rfl) ?_
          obtain ⟨z10, hrun⟩ := p_chk hrun
          refine j_irem hx hb dX2_traceRemainder_71 z10 ?_
          refine lv_istore (lv' := [(9, .int (jrem (x8 + x9) x3)), (7, .int (jrem (x6 + x7) x3)), (0, .ref (ad 4)), (3, .int x3), (4, .int x4), (5, .int x5), (6, .int x6), (8, .int x8), (10, .int x10)]) hx hb dX2_traceRemainder_72 hl (by decide) rfl (fun ls hl => ?_)
          refine lv_goto (tgt := 95) hx hb dX2_traceRemainder_74 rfl ?_
          refine lv_aload_n hx hb dX2_traceRemainder_95 rfl (lv_at hl 2 rfl) ?_
          refine lv_iload hx hb dX2_traceRemainder_96 (lv_at hl 5 rfl) ?_
          refine lv_iconst (v := 4) hx hb dX2_traceRemainder_98 rfl ?_
          obtain ⟨r11, h_r11, hrun⟩ := p_bnd hrun
          refine jVS_i (rest := []) C (c2_ofForm h_r11) gX2_traceRemainder_X2_ofForm hd2_ofForm hK hN hP rcR rfl ⟨rfl, rfl⟩ ⟨Nat.le_of_ble_eq_true rfl, Nat.le_of_ble_eq_true rfl⟩ rfl hl.1 rfl (Nat.le_of_ble_eq_true rfl) ⟨Nat.le_of_ble_eq_true rfl, Nat.le_of_ble_eq_true rfl⟩ dX2_traceRemainder_99 ?_
          refine lv_istore (lv' := [(5, .int r11), (9, .int (jrem (x8 + x9) x3)), (7, .int (jrem (x6 + x7) x3)), (0, .ref (ad 4)), (3, .int x3), (4, .int x4), (6, .int x6), (8, .int x8), (10, .int x10)]) hx hb dX2_traceRemainder_102 hl (by decide) rfl (fun ls hl => ?_)
          refine lv_iinc (v := x10 + 1) (lv' := [(10, .int (x10 + 1)), (5, .int r11), (9, .int (jrem (x8 + x9) x3)), (7, .int (jrem (x6 + x7) x3)), (0, .ref (ad 4)), (3, .int x3), (4, .int x4), (6, .int x6), (8, .int x8)]) hx hb dX2_traceRemainder_104 hl (k := 8) rfl rfl (by decide) rfl (fun ls hl => ?_)
          refine lv_goto (tgt := 37) hx hb dX2_traceRemainder_107 rfl ?_
          exact ih r11 x6 (jrem (x6 + x7) x3) x8 (jrem (x8 + x9) x3) (x10 + 1) out hrun K _ (lv_sub hl [4, 5, 6, 1, 7, 3, 8, 2, 0] rfl)
  unfold P2_traceRemainder at hrun
  refine lv_iconst (v := 1) hx hb dX2_traceRemainder_0 rfl ?_
  refine lv_iload_n hx hb dX2_traceRemainder_1 rfl (lv_at hl 2 rfl) ?_
  refine va_mmax hx hb (by rw [C.2.2.1]; exact hl.1.symm) C.2.2.2.1 (C.2.2.2.2 _ jl2_traceRemainder_max) (C.2.2.2.2 _ js2_traceRemainder_max) (C.2.2.2.2 _ ji2_traceRemainder) (C.2.2.2.2 _ jc2_traceRemainder_max) (Nat.le_of_ble_eq_true rfl) (Nat.le_of_ble_eq_true rfl) (Nat.zero_le _) (Nat.zero_le _) dX2_traceRemainder_2 ?_
  refine lv_istore_n (lv' := [(3, .int (jmax 1 x2)), (0, .ref (ad 4)), (1, .int x1), (2, .int x2)]) hx hb dX2_traceRemainder_5 rfl hl (by decide) rfl (fun ls hl => ?_)
  refine lv_aload_n hx hb dX2_traceRemainder_6 rfl (lv_at hl 1 rfl) ?_
  refine lv_iload_n hx hb dX2_traceRemainder_7 rfl (lv_at hl 2 rfl) ?_
  refine lv_iconst (v := 1) hx hb dX2_traceRemainder_8 rfl ?_
  obtain ⟨r1, h_r1, hrun⟩ := p_bnd hrun
  refine jVS_i (rest := []) C (c2_ofCycle h_r1) gX2_traceRemainder_X2_ofCycle hd2_ofCycle hK hN hP rcR rfl ⟨rfl, rfl⟩ ⟨Nat.le_of_ble_eq_true rfl, Nat.le_of_ble_eq_true rfl⟩ rfl hl.1 rfl (Nat.le_of_ble_eq_true rfl) ⟨Nat.le_of_ble_eq_true rfl, Nat.le_of_ble_eq_true rfl⟩ dX2_traceRemainder_9 ?_
  refine lv_istore (lv' := [(4, .int r1), (3, .int (jmax 1 x2)), (0, .ref (ad 4)), (1, .int x1), (2, .int x2)]) hx hb dX2_traceRemainder_12 hl (by decide) rfl (fun ls hl => ?_)
  refine lv_aload_n hx hb dX2_traceRemainder_14 rfl (lv_at hl 2 rfl) ?_
  refine lv_iload_n hx hb dX2_traceRemainder_15 rfl (lv_at hl 3 rfl) ?_
  refine lv_iconst (v := 0) hx hb dX2_traceRemainder_16 rfl ?_
  obtain ⟨r2, h_r2, hrun⟩ := p_bnd hrun
  refine jVS_i (rest := []) C (c2_ofCycle h_r2) gX2_traceRemainder_X2_ofCycle hd2_ofCycle hK hN hP rcR rfl ⟨rfl, rfl⟩ ⟨Nat.le_of_ble_eq_true rfl, Nat.le_of_ble_eq_true rfl⟩ rfl hl.1 rfl (Nat.le_of_ble_eq_true rfl) ⟨Nat.le_of_ble_eq_true rfl, Nat.le_of_ble_eq_true rfl⟩ dX2_traceRemainder_17 ?_
  refine lv_istore (lv' := [(5, .int r2), (4, .int r1), (3, .int (jmax 1 x2)), (0, .ref (ad 4)), (1, .int x1), (2, .int x2)]) hx hb dX2_traceRemainder_20 hl (by decide) rfl (fun ls hl => ?_)
  refine lv_iconst (v := 1) hx hb dX2_traceRemainder_22 rfl ?_
  refine lv_istore (lv' := [(6, .int 1), (5, .int r2), (4, .int r1), (3, .int (jmax 1 x2)), (0, .ref (ad 4)), (1, .int x1), (2, .int x2)]) hx hb dX2_traceRemainder_23 hl (by decide) rfl (fun ls hl => ?_)
  refine lv_iconst (v := 0) hx hb dX2_traceRemainder_25 rfl ?_
  refine lv_istore (lv' := [(7, .int 0), (6, .int 1), (5, .int r2), (4, .int r1), (3, .int (jmax 1 x2)), (0, .ref (ad 4)), (1, .int x1), (2, .int x2)]) hx hb dX2_traceRemainder_26 hl (by decide) rfl (fun ls hl => ?_)
  refine lv_iconst (v := 0) hx hb dX2_traceRemainder_28 rfl ?_
  refine lv_istore (lv' := [(8, .int 0), (7, .int 0), (6, .int 1), (5, .int r2), (4, .int r1), (3, .int (jmax 1 x2)), (0, .ref (ad 4)), (1, .int x1), (2, .int x2)]) hx hb dX2_traceRemainder_29 hl (by decide) rfl (fun ls hl => ?_)
  refine lv_iconst (v := 1) hx hb dX2_traceRemainder_31 rfl ?_
  refine lv_istore (lv' := [(9, .int 1), (8, .int 0), (7, .int 0), (6, .int 1), (5, .int r2), (4, .int r1), (3, .int (jmax 1 x2)), (0, .ref (ad 4)), (1, .int x1), (2, .int x2)]) hx hb dX2_traceRemainder_32 hl (by decide) rfl (fun ls hl => ?_)
  refine lv_iconst (v := 0) hx hb dX2_traceRemainder_34 rfl ?_
  refine lv_istore (lv' := [(10, .int 0), (9, .int 1), (8, .int 0), (7, .int 0), (6, .int 1), (5, .int r2), (4, .int r1), (3, .int (jmax 1 x2)), (0, .ref (ad 4)), (1, .int x1), (2, .int x2)]) hx hb dX2_traceRemainder_35 hl (by decide) rfl (fun ls hl => ?_)
  obtain ⟨o12, h_o12, hrun⟩ := p_bnd hrun
  refine loop_37 (jmax 1 x2) r1 FU r2 1 0 0 1 0 o12 h_o12 (fun ls hl => ?_) _ (lv_sub hl [8, 7, 6, 5, 4, 3, 2, 1, 0] rfl)
  refine lv_iload hx hb dX2_traceRemainder_110 (lv_at hl 1 rfl) ?_
  refine lv_iload hx hb dX2_traceRemainder_112 (lv_at hl 2 rfl) ?_
  refine lv_iadd hx hb dX2_traceRemainder_114 ?_
  refine lv_iload_n hx hb dX2_traceRemainder_115 rfl (lv_at hl 0 rfl) ?_
  obtain ⟨z13, hrun⟩ := p_chk hrun
  refine j_irem hx hb dX2_traceRemainder_116 z13 ?_
  cases hrun
  exact rS_i C hr hlk hQ (nbi _) rfl dX2_traceRemainder_117

end X95
