section X96
variable {l : Launch} {D : va_G} {sz : Nat}
variable {ad fa ca wad : Nat → Nat} {cI cR cG : ClassId}
variable {v_roadCount v_readings v_psize v_good v_pbits v_letters v_afterLetter v_disc v_rsize v_cycleCount v_closed v_traces v_crossings v_db_bits v_db_size v_db_allBits v_db_a v_db_b v_db_c v_db_d v_dn_bits v_dn_size v_dn_allBits v_dn_a v_dn_b v_dn_c v_dn_d : Int32}
variable {v_s : Int64}
variable {v_codes : Nat → Int32}
variable {v_fo v_cy v_wv : Nat → Nat → Int32}
variable {v_wn : Nat}
abbrev rm2_follow : Room := { frames := 4, cells := 0, slots := 0, locals := 92 }
theorem jl2_follow_abs : Cond.methodLink RX2 87 Lib.Math.abs.name ∈ wsX2_follow := by decide +kernel
theorem js2_follow_abs : Cond.static Lib.Math.abs.name ∈ wsX2_follow := by decide +kernel
theorem jc2_follow_abs : Cond.code Lib.Math.abs.name Lib.Math.abs.code 1 (some .int) ∈ wsX2_follow := by decide +kernel
theorem ji2_follow : Cond.initialized "java/lang/Math" ∈ wsX2_follow := by decide +kernel
theorem hd2_follow : okD yX2_follow 4 := by decide +kernel
set_option maxHeartbeats 8000000 in
set_option maxRecDepth 100000 in
theorem c2_follow {x1 : Int32} {x2 : Int32} {x3 : Int32} {x4 : Int32} {res : Int32} (hrun : P2_follow v_rsize v_fo x1 x2 x3 x4 = some res) : Met l yX2_follow wsX2_follow rm2_follow (va_Pc [.ref (ad 4), .int x1, .int x2, .int x3, .int x4] (PS D (tyX cI cR cG) (WX ad fa ca wad cI cR cG v_roadCount v_readings v_psize v_good v_pbits v_letters v_afterLetter v_codes v_disc v_rsize v_cycleCount v_fo v_cy v_s v_closed v_traces v_crossings v_db_bits v_db_size v_db_allBits v_db_a v_db_b v_db_c v_db_d v_dn_bits v_dn_size v_dn_allBits v_dn_a v_dn_b v_dn_c v_dn_d v_wn v_wv))) (vp_Si (fun x => x = res)) 0 0 (fun _ => False) := by
  refine S_in (cc := cX2_follow) (maxL := 11) (ret := (some .int)) (by decide) rfl (Nat.le_of_ble_eq_true rfl) ?_
  intro p e s m args below meth c ls Q hQ C hr hlk hK hN hP hl
  have C : CallFix p m c cX2_follow 11 s args wsX2_follow RX2 := C
  have hx := C.1
  have hb := C.2.1
  have hl : lv_has ls 11 [(0, .ref (ad 4)), (1, .int x1), (2, .int x2), (3, .int x3), (4, .int x4)] := hl
  have loop_12 : ∀ (n : Nat) (x5 : Int32) (x6 : Int32) (x7 : Int32) (x8 : Int32) (out : Int32 × Int32 × Int32 × Int32), P2_follow_12 n x5 x6 x7 x8 = some out → (∀ (ls : Array Slot), lv_has ls 11 [(0, .ref (ad 4)), (4, .int x4), (5, .int out.1), (6, .int out.2.1), (7, .int out.2.2.1), (8, .int out.2.2.2)] → W p l e rm2_follow s m args below meth c s.heap [] 0 0 Q (F0 m 140 ls [])) → ∀ (ls : Array Slot), lv_has ls 11 [(0, .ref (ad 4)), (4, .int x4), (5, .int x5), (6, .int x6), (7, .int x7), (8, .int x8)] → W p l e rm2_follow s m args below meth c s.heap [] 0 0 Q (F0 m 12 ls []) := by
    intro n
    induction n with
    | zero =>
      intro x5 x6 x7 x8 out hrun K ls hl
      cases hrun
    | succ n ih =>
      intro x5 x6 x7 x8 out hrun K ls hl
      rw [P2_follow_12] at hrun
      refine lv_iload hx hb dX2_follow_12 (lv_at hl 5 rfl) ?_
      refine lv_sipush (v := 2000) hx hb dX2_follow_14 rfl ?_
      refine lv_icmp_ge (tgt := 140) hx hb dX2_follow_17 rfl (fun c1 => ?_) (fun c1 => ?_)
      · have hrun := p_pos hrun c1
        cases hrun
        exact K _ (lv_sub hl [0, 1, 2, 3, 4, 5] rfl)
      · have hrun := p_neg hrun c1
        refine lv_iload hx hb dX2_follow_20 (lv_at hl 2 rfl) ?_
        refine lv_if_le (tgt := 29) hx hb dX2_follow_22 rfl (fun c2 => ?_) (fun c2 => ?_)
        · have hrun := p_pos hrun c2
          refine lv_iconst (v := 0) hx hb dX2_follow_29 rfl ?_
          refine lv_iload hx hb dX2_follow_30 (lv_at hl 4 rfl) ?_
          refine lv_if_le (tgt := 39) hx hb dX2_follow_32 rfl (fun c3 => ?_) (fun c3 => ?_)
          · have hrun := p_pos hrun c3
            refine lv_iconst (v := 0) hx hb dX2_follow_39 rfl ?_
            refine lv_icmp_ne (tgt := 140) hx hb dX2_follow_40 rfl (fun c => absurd rfl c) (fun _ => ?_)
            refine lv_iload hx hb dX2_follow_43 (lv_at hl 2 rfl) ?_
            refine lv_if_le (tgt := 52) hx hb dX2_follow_45 rfl (fun c4 => ?_) (fun c4 => ?_)
            · have hrun := p_pos hrun c4
              refine lv_iconst (v := 0) hx hb dX2_follow_52 rfl ?_
              refine lv_iload hx hb dX2_follow_53 (lv_at hl 3 rfl) ?_
              refine lv_if_le (tgt := 62) hx hb dX2_follow_55 rfl (fun c5 => ?_) (fun c5 => ?_)
              · have hrun := p_pos hrun c5
                refine lv_iconst (v := 0) hx hb dX2_follow_62 rfl ?_
                refine lv_icmp_ne (tgt := 70) hx hb dX2_follow_63 rfl (fun c => absurd rfl c) (fun _ => ?_)
                refine lv_iconst (v := (-1)) hx hb dX2_follow_66 rfl ?_
                refine lv_goto (tgt := 71) hx hb dX2_follow_67 rfl ?_
                refine lv_istore (lv' := [(9, .int (-1)), (0, .ref (ad 4)), (4, .int x4), (5, .int x5), (6, .int x6), (7, .int x7), (8, .int x8)]) hx hb dX2_follow_71 hl (by decide) rfl (fun ls hl => ?_)
                refine lv_iload hx hb dX2_follow_73 (lv_at hl 3 rfl) ?_
                refine lv_iload hx hb dX2_follow_75 (lv_at hl 5 rfl) ?_
                refine lv_iadd hx hb dX2_follow_77 ?_
                refine lv_iload hx hb dX2_follow_78 (lv_at hl 0 rfl) ?_
                refine lv_iload hx hb dX2_follow_80 (lv_at hl 4 rfl) ?_
                refine lv_imul hx hb dX2_follow_82 ?_
                refine lv_iadd hx hb dX2_follow_83 ?_
                refine lv_istore (lv' := [(10, .int ((x5 + x7) + ((-1) * x6))), (9, .int (-1)), (0, .ref (ad 4)), (4, .int x4), (5, .int x5), (6, .int x6), (7, .int x7), (8, .int x8)]) hx hb dX2_follow_84 hl (by decide) rfl (fun ls hl => ?_)
                refine lv_iload hx hb dX2_follow_86 (lv_at hl 4 rfl) ?_
                refine va_mabs hx hb (by rw [C.2.2.1]; exact hl.1.symm) C.2.2.2.1 (C.2.2.2.2 _ jl2_follow_abs) (C.2.2.2.2 _ js2_follow_abs) (C.2.2.2.2 _ ji2_follow) (C.2.2.2.2 _ jc2_follow_abs) (Nat.le_of_ble_eq_true rfl) (Nat.le_of_ble_eq_true rfl) (Nat.zero_le _) (Nat.zero_le _) dX2_follow_88 ?_
                refine lv_iload hx hb dX2_follow_91 (lv_at hl 6 rfl) ?_
                refine va_mabs hx hb (by rw [C.2.2.1]; exact hl.1.symm) C.2.2.2.1 (C.2.2.2.2 _ jl2_follow_abs) (C.2.2.2.2 _ js2_follow_abs) (C.2.2.2.2 _ ji2_follow) (C.2.2.2.2 _ jc2_follow_abs) (Nat.le_of_ble_eq_true rfl) (Nat.le_of_ble_eq_true rfl) (Nat.zero_le _) (Nat.zero_le _) dX2_follow_93 ?_
                refine lv_icmp_lt (tgt := 118) hx hb dX2_follow_96 rfl (fun c6 => ?_) (fun c6 => ?_)
                · have hrun := p_pos hrun c6
                  refine lv_iload hx hb dX2_follow_118 (lv_at hl 5 rfl) ?_
                  refine lv_iconst (v := 2) hx hb dX2_follow_120 rfl ?_
                  refine lv_iload hx hb dX2_follow_121 (lv_at hl 1 rfl) ?_
                  refine lv_imul hx hb dX2_follow_123 ?_
                  refine lv_iload hx hb dX2_follow_124 (lv_at hl 4 rfl) ?_
                  refine lv_imul hx hb dX2_follow_126 ?_
                  refine lv_iadd hx hb dX2_follow_127 ?_
                  refine lv_istore (lv' := [(6, .int (x6 + ((2 * (-1)) * x5))), (10, .int ((x5 + x7) + ((-1) * x6))), (9, .int (-1)), (0, .ref (ad 4)), (4, .int x4), (5, .int x5), (7, .int x7), (8, .int x8)]) hx hb dX2_follow_128 hl (by decide) rfl (fun ls hl => ?_)
                  refine lv_iload hx hb dX2_follow_130 (lv_at hl 1 rfl) ?_
                  refine lv_istore (lv' := [(7, .int ((x5 + x7) + ((-1) * x6))), (6, .int (x6 + ((2 * (-1)) * x5))), (10, .int ((x5 + x7) + ((-1) * x6))), (9, .int (-1)), (0, .ref (ad 4)), (4, .int x4), (5, .int x5), (8, .int x8)]) hx hb dX2_follow_132 hl (by decide) rfl (fun ls hl => ?_)
                  refine lv_iinc (v := x8 + 1) (lv' := [(8, .int (x8 + 1)), (7, .int ((x5 + x7) + ((-1) * x6))), (6, .int (x6 + ((2 * (-1)) * x5))), (10, .int ((x5 + x7) + ((-1) * x6))), (9, .int (-1)), (0, .ref (ad 4)), (4, .int x4), (5, .int x5)]) hx hb dX2_follow_134 hl (k := 7) rfl rfl (by decide) rfl (fun ls hl => ?_)
                  refine lv_goto (tgt := 12) hx hb dX2_follow_137 rfl ?_
                  exact ih x5 (x6 + ((2 * (-1)) * x5)) ((x5 + x7) + ((-1) * x6)) (x8 + 1) out hrun K _ (lv_sub hl [5, 6, 7, 2, 1, 0] rfl)
                · have hrun := p_neg hrun c6
                  refine lv_iload hx hb dX2_follow_99 (lv_at hl 5 rfl) ?_
                  refine lv_iconst (v := 2) hx hb dX2_follow_101 rfl ?_
                  refine lv_iload hx hb dX2_follow_102 (lv_at hl 1 rfl) ?_
                  refine lv_imul hx hb dX2_follow_104 ?_
                  refine lv_iload hx hb dX2_follow_105 (lv_at hl 6 rfl) ?_
                  refine lv_imul hx hb dX2_follow_107 ?_
                  refine lv_iadd hx hb dX2_follow_108 ?_
                  refine lv_istore (lv' := [(6, .int (x6 + ((2 * (-1)) * x7))), (10, .int ((x5 + x7) + ((-1) * x6))), (9, .int (-1)), (0, .ref (ad 4)), (4, .int x4), (5, .int x5), (7, .int x7), (8, .int x8)]) hx hb dX2_follow_109 hl (by decide) rfl (fun ls hl => ?_)
                  refine lv_iload hx hb dX2_follow_111 (lv_at hl 1 rfl) ?_
                  refine lv_istore (lv' := [(5, .int ((x5 + x7) + ((-1) * x6))), (6, .int (x6 + ((2 * (-1)) * x7))), (10, .int ((x5 + x7) + ((-1) * x6))), (9, .int (-1)), (0, .ref (ad 4)), (4, .int x4), (7, .int x7), (8, .int x8)]) hx hb dX2_follow_113 hl (by decide) rfl (fun ls hl => ?_)
                  refine lv_goto (tgt := 134) hx hb dX2_follow_115 rfl ?_
                  refine lv_iinc (v := x8 + 1) (lv' := [(8, .int (x8 + 1)), (5, .int ((x5 + x7) + ((-1) * x6))), (6, .int (x6 + ((2 * (-1)) * x7))), (10, .int ((x5 + x7) + ((-1) * x6))), (9, .int (-1)), (0, .ref (ad 4)), (4, .int x4), (7, .int x7)]) hx hb dX2_follow_134 hl (k := 7) rfl rfl (by decide) rfl (fun ls hl => ?_)
                  refine lv_goto (tgt := 12) hx hb dX2_follow_137 rfl ?_
                  exact ih ((x5 + x7) + ((-1) * x6)) (x6 + ((2 * (-1)) * x7)) x7 (x8 + 1) out hrun K _ (lv_sub hl [5, 6, 1, 2, 7, 0] rfl)
              · have hrun := p_neg hrun c5
                refine lv_iconst (v := 1) hx hb dX2_follow_58 rfl ?_
                refine lv_goto (tgt := 63) hx hb dX2_follow_59 rfl ?_
                refine lv_icmp_ne (tgt := 70) hx hb dX2_follow_63 rfl (fun _ => ?_) (fun c => absurd c (by decide))
                refine lv_iconst (v := 1) hx hb dX2_follow_70 rfl ?_
                refine lv_istore (lv' := [(9, .int 1), (0, .ref (ad 4)), (4, .int x4), (5, .int x5), (6, .int x6), (7, .int x7), (8, .int x8)]) hx hb dX2_follow_71 hl (by decide) rfl (fun ls hl => ?_)
                refine lv_iload hx hb dX2_follow_73 (lv_at hl 3 rfl) ?_
                refine lv_iload hx hb dX2_follow_75 (lv_at hl 5 rfl) ?_
                refine lv_iadd hx hb dX2_follow_77 ?_
                refine lv_iload hx hb dX2_follow_78 (lv_at hl 0 rfl) ?_
                refine lv_iload hx hb dX2_follow_80 (lv_at hl 4 rfl) ?_
                refine lv_imul hx hb dX2_follow_82 ?_
                refine lv_iadd hx hb dX2_follow_83 ?_
                refine lv_istore (lv' := [(10, .int ((x5 + x7) + (1 * x6))), (9, .int 1), (0, .ref (ad 4)), (4, .int x4), (5, .int x5), (6, .int x6), (7, .int x7), (8, .int x8)]) hx hb dX2_follow_84 hl (by decide) rfl (fun ls hl => ?_)
                refine lv_iload hx hb dX2_follow_86 (lv_at hl 4 rfl) ?_
                refine va_mabs hx hb (by rw [C.2.2.1]; exact hl.1.symm) C.2.2.2.1 (C.2.2.2.2 _ jl2_follow_abs) (C.2.2.2.2 _ js2_follow_abs) (C.2.2.2.2 _ ji2_follow) (C.2.2.2.2 _ jc2_follow_abs) (Nat.le_of_ble_eq_true rfl) (Nat.le_of_ble_eq_true rfl) (Nat.zero_le _) (Nat.zero_le _) dX2_follow_88 ?_
                refine lv_iload hx hb dX2_follow_91 (lv_at hl 6 rfl) ?_
                refine va_mabs hx hb (by rw [C.2.2.1]; exact hl.1.symm) C.2.2.2.1 (C.2.2.2.2 _ jl2_follow_abs) (C.2.2.2.2 _ js2_follow_abs) (C.2.2.2.2 _ ji2_follow) (C.2.2.2.2 _ jc2_follow_abs) (Nat.le_of_ble_eq_true rfl) (Nat.le_of_ble_eq_true rfl) (Nat.zero_le _) (Nat.zero_le _) dX2_follow_93 ?_
                refine lv_icmp_lt (tgt := 118) hx hb dX2_follow_96 rfl (fun c7 => ?_) (fun c7 => ?_)
                · have hrun := p_pos hrun c7
                  refine lv_iload hx hb dX2_follow_118 (lv_at hl 5 rfl) ?_
                  refine lv_iconst (v := 2) hx hb dX2_follow_120 rfl ?_
                  refine lv_iload hx hb dX2_follow_121 (lv_at hl 1 rfl) ?_
                  refine lv_imul hx hb dX2_follow_123 ?_
                  refine lv_iload hx hb dX2_follow_124 (lv_at hl 4 rfl) ?_
                  refine lv_imul hx hb dX2_follow_126 ?_
                  refine lv_iadd hx hb dX2_follow_127 ?_
                  refine lv_istore (lv' := [(6, .int (x6 + ((2 * 1) * x5))), (10, .int ((x5 + x7) + (1 * x6))), (9, .int 1), (0, .ref (ad 4)), (4, .int x4), (5, .int x5), (7, .int x7), (8, .int x8)]) hx hb dX2_follow_128 hl (by decide) rfl (fun ls hl => ?_)
                  refine lv_iload hx hb dX2_follow_130 (lv_at hl 1 rfl) ?_
                  refine lv_istore (lv' := [(7, .int ((x5 + x7) + (1 * x6))), (6, .int (x6 + ((2 * 1) * x5))), (10, .int ((x5 + x7) + (1 * x6))), (9, .int 1), (0, .ref (ad 4)), (4, .int x4), (5, .int x5), (8, .int x8)]) hx hb dX2_follow_132 hl (by decide) rfl (fun ls hl => ?_)
                  refine lv_iinc (v := x8 + 1) (lv' := [(8, .int (x8 + 1)), (7, .int ((x5 + x7) + (1 * x6))), (6, .int (x6 + ((2 * 1) * x5))), (10, .int ((x5 + x7) + (1 * x6))), (9, .int 1), (0, .ref (ad 4)), (4, .int x4), (5, .int x5)]) hx hb dX2_follow_134 hl (k := 7) rfl rfl (by decide) rfl (fun ls hl => ?_)
                  refine lv_goto (tgt := 12) hx hb dX2_follow_137 rfl ?_
                  exact ih x5 (x6 + ((2 * 1) * x5)) ((x5 + x7) + (1 * x6)) (x8 + 1) out hrun K _ (lv_sub hl [5, 6, 7, 2, 1, 0] rfl)
                · have hrun := p_neg hrun c7
                  refine lv_iload hx hb dX2_follow_99 (lv_at hl 5 rfl) ?_
                  refine lv_iconst (v := 2) hx hb dX2_follow_101 rfl ?_
                  refine lv_iload hx hb dX2_follow_102 (lv_at hl 1 rfl) ?_
                  refine lv_imul hx hb dX2_follow_104 ?_
                  refine lv_iload hx hb dX2_follow_105 (lv_at hl 6 rfl) ?_
                  refine lv_imul hx hb dX2_follow_107 ?_
                  refine lv_iadd hx hb dX2_follow_108 ?_
                  refine lv_istore (lv' := [(6, .int (x6 + ((2 * 1) * x7))), (10, .int ((x5 + x7) + (1 * x6))), (9, .int 1), (0, .ref (ad 4)), (4, .int x4), (5, .int x5), (7, .int x7), (8, .int x8)]) hx hb dX2_follow_109 hl (by decide) rfl (fun ls hl => ?_)
                  refine lv_iload hx hb dX2_follow_111 (lv_at hl 1 rfl) ?_
                  refine lv_istore (lv' := [(5, .int ((x5 + x7) + (1 * x6))), (6, .int (x6 + ((2 * 1) * x7))), (10, .int ((x5 + x7) + (1 * x6))), (9, .int 1), (0, .ref (ad 4)), (4, .int x4), (7, .int x7), (8, .int x8)]) hx hb dX2_follow_113 hl (by decide) rfl (fun ls hl => ?_)
                  refine lv_goto (tgt := 134) hx hb dX2_follow_115 rfl ?_
                  refine lv_iinc (v := x8 + 1) (lv' := [(8, .int (x8 + 1)), (5, .int ((x5 + x7) + (1 * x6))), (6, .int (x6 + ((2 * 1) * x7))), (10, .int ((x5 + x7) + (1 * x6))), (9, .int 1), (0, .ref (ad 4)), (4, .int x4), (7, .int x7)]) hx hb dX2_follow_134 hl (k := 7) rfl rfl (by decide) rfl (fun ls hl => ?_)
                  refine lv_goto (tgt := 12) hx hb dX2_follow_137 rfl ?_
                  exact ih ((x5 + x7) + (1 * x6)) (x6 + ((2 * 1) * x7)) x7 (x8 + 1) out hrun K _ (lv_sub hl [5, 6, 1, 2, 7, 0] rfl)
            · have hrun := p_neg hrun c4
              refine lv_iconst (v := 1) hx hb dX2_follow_48 rfl ?_
              refine lv_goto (tgt := 53) hx hb dX2_follow_49 rfl ?_
              refine lv_iload hx hb dX2_follow_53 (lv_at hl 3 rfl) ?_
              refine lv_if_le (tgt := 62) hx hb dX2_follow_55 rfl (fun c8 => ?_) (fun c8 => ?_)
              · have hrun := p_pos hrun c8
                refine lv_iconst (v := 0) hx hb dX2_follow_62 rfl ?_
                refine lv_icmp_ne (tgt := 70) hx hb dX2_follow_63 rfl (fun _ => ?_) (fun c => absurd c (by decide))
                refine lv_iconst (v := 1) hx hb dX2_follow_70 rfl ?_
                refine lv_istore (lv' := [(9, .int 1), (0, .ref (ad 4)), (4, .int x4), (5, .int x5), (6, .int x6), (7, .int x7), (8, .int x8)]) hx hb dX2_follow_71 hl (by decide) rfl (fun ls hl => ?_)
                refine lv_iload hx hb dX2_follow_73 (lv_at hl 3 rfl) ?_
                refine lv_iload hx hb dX2_follow_75 (lv_at hl 5 rfl) ?_
                refine lv_iadd hx hb dX2_follow_77 ?_
                refine lv_iload hx hb dX2_follow_78 (lv_at hl 0 rfl) ?_
                refine lv_iload hx hb dX2_follow_80 (lv_at hl 4 rfl) ?_
                refine lv_imul hx hb dX2_follow_82 ?_
                refine lv_iadd hx hb dX2_follow_83 ?_
                refine lv_istore (lv' := [(10, .int ((x5 + x7) + (1 * x6))), (9, .int 1), (0, .ref (ad 4)), (4, .int x4), (5, .int x5), (6, .int x6), (7, .int x7), (8, .int x8)]) hx hb dX2_follow_84 hl (by decide) rfl (fun ls hl => ?_)
                refine lv_iload hx hb dX2_follow_86 (lv_at hl 4 rfl) ?_
                refine va_mabs hx hb (by rw [C.2.2.1]; exact hl.1.symm) C.2.2.2.1 (C.2.2.2.2 _ jl2_follow_abs) (C.2.2.2.2 _ js2_follow_abs) (C.2.2.2.2 _ ji2_follow) (C.2.2.2.2 _ jc2_follow_abs) (Nat.le_of_ble_eq_true rfl) (Nat.le_of_ble_eq_true rfl) (Nat.zero_le _) (Nat.zero_le _) dX2_follow_88 ?_
                refine lv_iload hx hb dX2_follow_91 (lv_at hl 6 rfl) ?_
                refine va_mabs hx hb (by rw [C.2.2.1]; exact hl.1.symm) C.2.2.2.1 (C.2.2.2.2 _ jl2_follow_abs) (C.2.2.2.2 _ js2_follow_abs) (C.2.2.2.2 _ ji2_follow) (C.2.2.2.2 _ jc2_follow_abs) (Nat.le_of_ble_eq_true rfl) (Nat.le_of_ble_eq_true rfl) (Nat.zero_le _) (Nat.zero_le _) dX2_follow_93 ?_
                refine lv_icmp_lt (tgt := 118) hx hb dX2_follow_96 rfl (fun c9 => ?_) (fun c9 => ?_)
                · have hrun := p_pos hrun c9
                  refine lv_iload hx hb dX2_follow_118 (lv_at hl 5 rfl) ?_
                  refine lv_iconst (v := 2) hx hb dX2_follow_120 rfl ?_
                  refine lv_iload hx hb dX2_follow_121 (lv_at hl 1 rfl) ?_
                  refine lv_imul hx hb dX2_follow_123 ?_
                  refine lv_iload hx hb dX2_follow_124 (lv_at hl 4 rfl) ?_
                  refine lv_imul hx hb dX2_follow_126 ?_
                  refine lv_iadd hx hb dX2_follow_127 ?_
                  refine lv_istore (lv' := [(6, .int (x6 + ((2 * 1) * x5))), (10, .int ((x5 + x7) + (1 * x6))), (9, .int 1), (0, .ref (ad 4)), (4, .int x4), (5, .int x5), (7, .int x7), (8, .int x8)]) hx hb dX2_follow_128 hl (by decide) rfl (fun ls hl => ?_)
                  refine lv_iload hx hb dX2_follow_130 (lv_at hl 1 rfl) ?_
                  refine lv_istore (lv' := [(7, .int ((x5 + x7) + (1 * x6))), (6, .int (x6 + ((2 * 1) * x5))), (10, .int ((x5 + x7) + (1 * x6))), (9, .int 1), (0, .ref (ad 4)), (4, .int x4), (5, .int x5), (8, .int x8)]) hx hb dX2_follow_132 hl (by decide) rfl (fun ls hl => ?_)
                  refine lv_iinc (v := x8 + 1) (lv' := [(8, .int (x8 + 1)), (7, .int ((x5 + x7) + (1 * x6))), (6, .int (x6 + ((2 * 1) * x5))), (10, .int ((x5 + x7) + (1 * x6))), (9, .int 1), (0, .ref (ad 4)), (4, .int x4), (5, .int x5)]) hx hb dX2_follow_134 hl (k := 7) rfl rfl (by decide) rfl (fun ls hl => ?_)
                  refine lv_goto (tgt := 12) hx hb dX2_follow_137 rfl ?_
                  exact ih x5 (x6 + ((2 * 1) * x5)) ((x5 + x7) + (1 * x6)) (x8 + 1) out hrun K _ (lv_sub hl [5, 6, 7, 2, 1, 0] rfl)
                · have hrun := p_neg hrun c9
                  refine lv_iload hx hb dX2_follow_99 (lv_at hl 5 rfl) ?_
                  refine lv_iconst (v := 2) hx hb dX2_follow_101 rfl ?_
                  refine lv_iload hx hb dX2_follow_102 (lv_at hl 1 rfl) ?_
                  refine lv_imul hx hb dX2_follow_104 ?_
                  refine lv_iload hx hb dX2_follow_105 (lv_at hl 6 rfl) ?_
                  refine lv_imul hx hb dX2_follow_107 ?_
                  refine lv_iadd hx hb dX2_follow_108 ?_
                  refine lv_istore (lv' := [(6, .int (x6 + ((2 * 1) * x7))), (10, .int ((x5 + x7) + (1 * x6))), (9, .int 1), (0, .ref (ad 4)), (4, .int x4), (5, .int x5), (7, .int x7), (8, .int x8)]) hx hb dX2_follow_109 hl (by decide) rfl (fun ls hl => ?_)
                  refine lv_iload hx hb dX2_follow_111 (lv_at hl 1 rfl) ?_
                  refine lv_istore (lv' := [(5, .int ((x5 + x7) + (1 * x6))), (6, .int (x6 + ((2 * 1) * x7))), (10, .int ((x5 + x7) + (1 * x6))), (9, .int 1), (0, .ref (ad 4)), (4, .int x4), (7, .int x7), (8, .int x8)]) hx hb dX2_follow_113 hl (by decide) rfl (fun ls hl => ?_)
                  refine lv_goto (tgt := 134) hx hb dX2_follow_115 rfl ?_
                  refine lv_iinc (v := x8 + 1) (lv' := [(8, .int (x8 + 1)), (5, .int ((x5 + x7) + (1 * x6))), (6, .int (x6 + ((2 * 1) * x7))), (10, .int ((x5 + x7) + (1 * x6))), (9, .int 1), (0, .ref (ad 4)), (4, .int x4), (7, .int x7)]) hx hb dX2_follow_134 hl (k := 7) rfl rfl (by decide) rfl (fun ls hl => ?_)
                  refine lv_goto (tgt := 12) hx hb dX2_follow_137 rfl ?_
                  exact ih ((x5 + x7) + (1 * x6)) (x6 + ((2 * 1) * x7)) x7 (x8 + 1) out hrun K _ (lv_sub hl [5, 6, 1, 2, 7, 0] rfl)
              · have hrun := p_neg hrun c8
                refine lv_iconst (v := 1) hx hb dX2_follow_58 rfl ?_
                refine lv_goto (tgt := 63) hx hb dX2_follow_59 rfl ?_
                refine lv_icmp_ne (tgt := 70) hx hb dX2_follow_63 rfl (fun c => absurd rfl c) (fun _ => ?_)
                refine lv_iconst (v := (-1)) hx hb dX2_follow_66 rfl ?_
                refine lv_goto (tgt := 71) hx hb dX2_follow_67 rfl ?_
                refine lv_istore (lv' := [(9, .int (-1)), (0, .ref (ad 4)), (4, .int x4), (5, .int x5), (6, .int x6), (7, .int x7), (8, .int x8)]) hx hb dX2_follow_71 hl (by decide) rfl (fun ls hl => ?_)
                refine lv_iload hx hb dX2_follow_73 (lv_at hl 3 rfl) ?_
                refine lv_iload hx hb dX2_follow_75 (lv_at hl 5 rfl) ?_
                refine lv_iadd hx hb dX2_follow_77 ?_
                refine lv_iload hx hb dX2_follow_78 (lv_at hl 0 rfl) ?_
                refine lv_iload hx hb dX2_follow_80 (lv_at hl 4 rfl) ?_
                refine lv_imul hx hb dX2_follow_82 ?_
                refine lv_iadd hx hb dX2_follow_83 ?_
                refine lv_istore (lv' := [(10, .int ((x5 + x7) + ((-1) * x6))), (9, .int (-1)), (0, .ref (ad 4)), (4, .int x4), (5, .int x5), (6, .int x6), (7, .int x7), (8, .int x8)]) hx hb dX2_follow_84 hl (by decide) rfl (fun ls hl => ?_)
                refine lv_iload hx hb dX2_follow_86 (lv_at hl 4 rfl) ?_
                refine va_mabs hx hb (by rw [C.2.2.1]; exact hl.1.symm) C.2.2.2.1 (C.2.2.2.2 _ jl2_follow_abs) (C.2.2.2.2 _ js2_follow_abs) (C.2.2.2.2 _ ji2_follow) (C.2.2.2.2 _ jc2_follow_abs) (Nat.le_of_ble_eq_true rfl) (Nat.le_of_ble_eq_true rfl) (Nat.zero_le _) (Nat.zero_le _) dX2_follow_88 ?_
                refine lv_iload hx hb dX2_follow_91 (lv_at hl 6 rfl) ?_
                refine va_mabs hx hb (by rw [C.2.2.1]; exact hl.1.symm) C.2.2.2.1 (C.2.2.2.2 _ jl2_follow_abs) (C.2.2.2.2 _ js2_follow_abs) (C.2.2.2.2 _ ji2_follow) (C.2.2.2.2 _ jc2_follow_abs) (Nat.le_of_ble_eq_true rfl) (Nat.le_of_ble_eq_true rfl) (Nat.zero_le _) (Nat.zero_le _) dX2_follow_93 ?_
                refine lv_icmp_lt (tgt := 118) hx hb dX2_follow_96 rfl (fun c10 => ?_) (fun c10 => ?_)
                · have hrun := p_pos hrun c10
                  refine lv_iload hx hb dX2_follow_118 (lv_at hl 5 rfl) ?_
                  refine lv_iconst (v := 2) hx hb dX2_follow_120 rfl ?_
                  refine lv_iload hx hb dX2_follow_121 (lv_at hl 1 rfl) ?_
                  refine lv_imul hx hb dX2_follow_123 ?_
                  refine lv_iload hx hb dX2_follow_124 (lv_at hl 4 rfl) ?_
                  refine lv_imul hx hb dX2_follow_126 ?_
                  refine lv_iadd hx hb dX2_follow_127 ?_
                  refine lv_istore (lv' := [(6, .int (x6 + ((2 * (-1)) * x5))), (10, .int ((x5 + x7) + ((-1) * x6))), (9, .int (-1)), (0, .ref (ad 4)), (4, .int x4), (5, .int x5), (7, .int x7), (8, .int x8)]) hx hb dX2_follow_128 hl (by decide) rfl (fun ls hl => ?_)
                  refine lv_iload hx hb dX2_follow_130 (lv_at hl 1 rfl) ?_
                  refine lv_istore (lv' := [(7, .int ((x5 + x7) + ((-1) * x6))), (6, .int (x6 + ((2 * (-1)) * x5))), (10, .int ((x5 + x7) + ((-1) * x6))), (9, .int (-1)), (0, .ref (ad 4)), (4, .int x4), (5, .int x5), (8, .int x8)]) hx hb dX2_follow_132 hl (by decide) rfl (fun ls hl => ?_)
                  refine lv_iinc (v := x8 + 1) (lv' := [(8, .int (x8 + 1)), (7, .int ((x5 + x7) + ((-1) * x6))), (6, .int (x6 + ((2 * (-1)) * x5))), (10, .int ((x5 + x7) + ((-1) * x6))), (9, .int (-1)), (0, .ref (ad 4)), (4, .int x4), (5, .int x5)]) hx hb dX2_follow_134 hl (k := 7) rfl rfl (by decide) rfl (fun ls hl => ?_)
                  refine lv_goto (tgt := 12) hx hb dX2_follow_137 rfl ?_
                  exact ih x5 (x6 + ((2 * (-1)) * x5)) ((x5 + x7) + ((-1) * x6)) (x8 + 1) out hrun K _ (lv_sub hl [5, 6, 7, 2, 1, 0] rfl)
                · have hrun := p_neg hrun c10
                  refine lv_iload hx hb dX2_follow_99 (lv_at hl 5 rfl) ?_
                  refine lv_iconst (v := 2) hx hb dX2_follow_101 rfl ?_
                  refine lv_iload hx hb dX2_follow_102 (lv_at hl 1 rfl) ?_
                  refine lv_imul hx hb dX2_follow_104 ?_
                  refine lv_iload hx hb dX2_follow_105 (lv_at hl 6 rfl) ?_
                  refine lv_imul hx hb dX2_follow_107 ?_
                  refine lv_iadd hx hb dX2_follow_108 ?_
                  refine lv_istore (lv' := [(6, .int (x6 + ((2 * (-1)) * x7))), (10, .int ((x5 + x7) + ((-1) * x6))), (9, .int (-1)), (0, .ref (ad 4)), (4, .int x4), (5, .int x5), (7, .int x7), (8, .int x8)]) hx hb dX2_follow_109 hl (by decide) rfl (fun ls hl => ?_)
                  refine lv_iload hx hb dX2_follow_111 (lv_at hl 1 rfl) ?_
                  refine lv_istore (lv' := [(5, .int ((x5 + x7) + ((-1) * x6))), (6, .int (x6 + ((2 * (-1)) * x7))), (10, .int ((x5 + x7) + ((-1) * x6))), (9, .int (-1)), (0, .ref (ad 4)), (4, .int x4), (7, .int x7), (8, .int x8)]) hx hb dX2_follow_113 hl (by decide) rfl (fun ls hl => ?_)
                  refine lv_goto (tgt := 134) hx hb dX2_follow_115 rfl ?_
                  refine lv_iinc (v := x8 + 1) (lv' := [(8, .int (x8 + 1)), (5, .int ((x5 + x7) + ((-1) * x6))), (6, .int (x6 + ((2 * (-1)) * x7))), (10, .int ((x5 + x7) + ((-1) * x6))), (9, .int (-1)), (0, .ref (ad 4)), (4, .int x4), (7, .int x7)]) hx hb dX2_follow_134 hl (k := 7) rfl rfl (by decide) rfl (fun ls hl => ?_)
                  refine lv_goto (tgt := 12) hx hb dX2_follow_137 rfl ?_
                  exact ih ((x5 + x7) + ((-1) * x6)) (x6 + ((2 * (-1)) * x7)) x7 (x8 + 1) out hrun K _ (lv_sub hl [5, 6, 1, 2, 7, 0] rfl)
          · have hrun := p_neg hrun c3
            refine lv_iconst (v := 1) hx hb dX2_follow_35 rfl ?_
            refine lv_goto (tgt := 40) hx hb dX2_follow_36 rfl ?_
            refine lv_icmp_ne (tgt := 140) hx hb dX2_follow_40 rfl (fun _ => ?_) (fun c => absurd c (by decide))
            cases hrun
            exact K _ (lv_sub hl [0, 1, 2, 3, 4, 5] rfl)
        · have hrun := p_neg hrun c2
          refine lv_iconst (v := 1) hx hb dX2_follow_25 rfl ?_
          refine lv_goto (tgt := 30) hx hb dX2_follow_26 rfl ?_
          refine lv_iload hx hb dX2_follow_30 (lv_at hl 4 rfl) ?_
          refine lv_if_le (tgt := 39) hx hb dX2_follow_32 rfl (fun c11 => ?_) (fun c11 => ?_)
          · have hrun := p_pos hrun c11
            refine lv_iconst (v := 0) hx hb dX2_follow_39 rfl ?_
            refine lv_icmp_ne (tgt := 140) hx hb dX2_follow_40 rfl (fun _ => ?_) (fun c => absurd c (by decide))
            cases hrun
            exact K _ (lv_sub hl [0, 1, 2, 3, 4, 5] rfl)
          · have hrun := p_neg hrun c11
            refine lv_iconst (v := 1) hx hb dX2_follow_35 rfl ?_
            refine lv_goto (tgt := 40) hx hb dX2_follow_36 rfl ?_
            refine lv_icmp_ne (tgt := 140) hx hb dX2_follow_40 rfl (fun c => absurd rfl c) (fun _ => ?_)
            refine lv_iload hx hb dX2_follow_43 (lv_at hl 2 rfl) ?_
            refine lv_if_le (tgt := 52) hx hb dX2_follow_45 rfl (fun c12 => ?_) (fun c12 => ?_)
            · have hrun := p_pos hrun c12
              refine lv_iconst (v := 0) hx hb dX2_follow_52 rfl ?_
              refine lv_iload hx hb dX2_follow_53 (lv_at hl 3 rfl) ?_
              refine lv_if_le (tgt := 62) hx hb dX2_follow_55 rfl (fun c13 => ?_) (fun c13 => ?_)
              · have hrun := p_pos hrun c13
                refine lv_iconst (v := 0) hx hb dX2_follow_62 rfl ?_
                refine lv_icmp_ne (tgt := 70) hx hb dX2_follow_63 rfl (fun c => absurd rfl c) (fun _ => ?_)
                refine lv_iconst (v := (-1)) hx hb dX2_follow_66 rfl ?_
                refine lv_goto (tgt := 71) hx hb dX2_follow_67 rfl ?_
                refine lv_istore (lv' := [(9, .int (-1)), (0, .ref (ad 4)), (4, .int x4), (5, .int x5), (6, .int x6), (7, .int x7), (8, .int x8)]) hx hb dX2_follow_71 hl (by decide) rfl (fun ls hl => ?_)
                refine lv_iload hx hb dX2_follow_73 (lv_at hl 3 rfl) ?_
                refine lv_iload hx hb dX2_follow_75 (lv_at hl 5 rfl) ?_
                refine lv_iadd hx hb dX2_follow_77 ?_
                refine lv_iload hx hb dX2_follow_78 (lv_at hl 0 rfl) ?_
                refine lv_iload hx hb dX2_follow_80 (lv_at hl 4 rfl) ?_
                refine lv_imul hx hb dX2_follow_82 ?_
                refine lv_iadd hx hb dX2_follow_83 ?_
                refine lv_istore (lv' := [(10, .int ((x5 + x7) + ((-1) * x6))), (9, .int (-1)), (0, .ref (ad 4)), (4, .int x4), (5, .int x5), (6, .int x6), (7, .int x7), (8, .int x8)]) hx hb dX2_follow_84 hl (by decide) rfl (fun ls hl => ?_)
                refine lv_iload hx hb dX2_follow_86 (lv_at hl 4 rfl) ?_
                refine va_mabs hx hb (by rw [C.2.2.1]; exact hl.1.symm) C.2.2.2.1 (C.2.2.2.2 _ jl2_follow_abs) (C.2.2.2.2 _ js2_follow_abs) (C.2.2.2.2 _ ji2_follow) (C.2.2.2.2 _ jc2_follow_abs) (Nat.le_of_ble_eq_true rfl) (Nat.le_of_ble_eq_true rfl) (Nat.zero_le _) (Nat.zero_le _) dX2_follow_88 ?_
                refine lv_iload hx hb dX2_follow_91 (lv_at hl 6 rfl) ?_
                refine va_mabs hx hb (by rw [C.2.2.1]; exact hl.1.symm) C.2.2.2.1 (C.2.2.2.2 _ jl2_follow_abs) (C.2.2.2.2 _ js2_follow_abs) (C.2.2.2.2 _ ji2_follow) (C.2.2.2.2 _ jc2_follow_abs) (Nat.le_of_ble_eq_true rfl) (Nat.le_of_ble_eq_true rfl) (Nat.zero_le _) (Nat.zero_le _) dX2_follow_93 ?_
                refine lv_icmp_lt (tgt := 118) hx hb dX2_follow_96 rfl (fun c14 => ?_) (fun c14 => ?_)
                · have hrun := p_pos hrun c14
                  refine lv_iload hx hb dX2_follow_118 (lv_at hl 5 rfl) ?_
                  refine lv_iconst (v := 2) hx hb dX2_follow_120 rfl ?_
                  refine lv_iload hx hb dX2_follow_121 (lv_at hl 1 rfl) ?_
                  refine lv_imul hx hb dX2_follow_123 ?_
                  refine lv_iload hx hb dX2_follow_124 (lv_at hl 4 rfl) ?_
                  refine lv_imul hx hb dX2_follow_126 ?_
                  refine lv_iadd hx hb dX2_follow_127 ?_
                  refine lv_istore (lv' := [(6, .int (x6 + ((2 * (-1)) * x5))), (10, .int ((x5 + x7) + ((-1) * x6))), (9, .int (-1)), (0, .ref (ad 4)), (4, .int x4), (5, .int x5), (7, .int x7), (8, .int x8)]) hx hb dX2_follow_128 hl (by decide) rfl (fun ls hl => ?_)
                  refine lv_iload hx hb dX2_follow_130 (lv_at hl 1 rfl) ?_
                  refine lv_istore (lv' := [(7, .int ((x5 + x7) + ((-1) * x6))), (6, .int (x6 + ((2 * (-1)) * x5))), (10, .int ((x5 + x7) + ((-1) * x6))), (9, .int (-1)), (0, .ref (ad 4)), (4, .int x4), (5, .int x5), (8, .int x8)]) hx hb dX2_follow_132 hl (by decide) rfl (fun ls hl => ?_)
                  refine lv_iinc (v := x8 + 1) (lv' := [(8, .int (x8 + 1)), (7, .int ((x5 + x7) + ((-1) * x6))), (6, .int (x6 + ((2 * (-1)) * x5))), (10, .int ((x5 + x7) + ((-1) * x6))), (9, .int (-1)), (0, .ref (ad 4)), (4, .int x4), (5, .int x5)]) hx hb dX2_follow_134 hl (k := 7) rfl rfl (by decide) rfl (fun ls hl => ?_)
                  refine lv_goto (tgt := 12) hx hb dX2_follow_137 rfl ?_
                  exact ih x5 (x6 + ((2 * (-1)) * x5)) ((x5 + x7) + ((-1) * x6)) (x8 + 1) out hrun K _ (lv_sub hl [5, 6, 7, 2, 1, 0] rfl)
                · have hrun := p_neg hrun c14
                  refine lv_iload hx hb dX2_follow_99 (lv_at hl 5 rfl) ?_
                  refine lv_iconst (v := 2) hx hb dX2_follow_101 rfl ?_
                  refine lv_iload hx hb dX2_follow_102 (lv_at hl 1 rfl) ?_
                  refine lv_imul hx hb dX2_follow_104 ?_
                  refine lv_iload hx hb dX2_follow_105 (lv_at hl 6 rfl) ?_
                  refine lv_imul hx hb dX2_follow_107 ?_
                  refine lv_iadd hx hb dX2_follow_108 ?_
                  refine lv_istore (lv' := [(6, .int (x6 + ((2 * (-1)) * x7))), (10, .int ((x5 + x7) + ((-1) * x6))), (9, .int (-1)), (0, .ref (ad 4)), (4, .int x4), (5, .int x5), (7, .int x7), (8, .int x8)]) hx hb dX2_follow_109 hl (by decide) rfl (fun ls hl => ?_)
                  refine lv_iload hx hb dX2_follow_111 (lv_at hl 1 rfl) ?_
                  refine lv_istore (lv' := [(5, .int ((x5 + x7) + ((-1) * x6))), (6, .int (x6 + ((2 * (-1)) * x7))), (10, .int ((x5 + x7) + ((-1) * x6))), (9, .int (-1)), (0, .ref (ad 4)), (4, .int x4), (7, .int x7), (8, .int x8)]) hx hb dX2_follow_113 hl (by decide) rfl (fun ls hl => ?_)
                  refine lv_goto (tgt := 134) hx hb dX2_follow_115 rfl ?_
                  refine lv_iinc (v := x8 + 1) (lv' := [(8, .int (x8 + 1)), (5, .int ((x5 + x7) + ((-1) * x6))), (6, .int (x6 + ((2 * (-1)) * x7))), (10, .int ((x5 + x7) + ((-1) * x6))), (9, .int (-1)), (0, .ref (ad 4)), (4, .int x4), (7, .int x7)]) hx hb dX2_follow_134 hl (k := 7) rfl rfl (by decide) rfl (fun ls hl => ?_)
                  refine lv_goto (tgt := 12) hx hb dX2_follow_137 rfl ?_
                  exact ih ((x5 + x7) + ((-1) * x6)) (x6 + ((2 * (-1)) * x7)) x7 (x8 + 1) out hrun K _ (lv_sub hl [5, 6, 1, 2, 7, 0] rfl)
              · have hrun := p_neg hrun c13
                refine lv_iconst (v := 1) hx hb dX2_follow_58 rfl ?_
                refine lv_goto (tgt := 63) hx hb dX2_follow_59 rfl ?_
                refine lv_icmp_ne (tgt := 70) hx hb dX2_follow_63 rfl (fun _ => ?_) (fun c => absurd c (by decide))
                refine lv_iconst (v := 1) hx hb dX2_follow_70 rfl ?_
                refine lv_istore (lv' := [(9, .int 1), (0, .ref (ad 4)), (4, .int x4), (5, .int x5), (6, .int x6), (7, .int x7), (8, .int x8)]) hx hb dX2_follow_71 hl (by decide) rfl (fun ls hl => ?_)
                refine lv_iload hx hb dX2_follow_73 (lv_at hl 3 rfl) ?_
                refine lv_iload hx hb dX2_follow_75 (lv_at hl 5 rfl) ?_
                refine lv_iadd hx hb dX2_follow_77 ?_
                refine lv_iload hx hb dX2_follow_78 (lv_at hl 0 rfl) ?_
                refine lv_iload hx hb dX2_follow_80 (lv_at hl 4 rfl) ?_
                refine lv_imul hx hb dX2_follow_82 ?_
                refine lv_iadd hx hb dX2_follow_83 ?_
                refine lv_istore (lv' := [(10, .int ((x5 + x7) + (1 * x6))), (9, .int 1), (0, .ref (ad 4)), (4, .int x4), (5, .int x5), (6, .int x6), (7, .int x7), (8, .int x8)]) hx hb dX2_follow_84 hl (by decide) rfl (fun ls hl => ?_)
                refine lv_iload hx hb dX2_follow_86 (lv_at hl 4 rfl) ?_
                refine va_mabs hx hb (by rw [C.2.2.1]; exact hl.1.symm) C.2.2.2.1 (C.2.2.2.2 _ jl2_follow_abs) (C.2.2.2.2 _ js2_follow_abs) (C.2.2.2.2 _ ji2_follow) (C.2.2.2.2 _ jc2_follow_abs) (Nat.le_of_ble_eq_true rfl) (Nat.le_of_ble_eq_true rfl) (Nat.zero_le _) (Nat.zero_le _) dX2_follow_88 ?_
                refine lv_iload hx hb dX2_follow_91 (lv_at hl 6 rfl) ?_
                refine va_mabs hx hb (by rw [C.2.2.1]; exact hl.1.symm) C.2.2.2.1 (C.2.2.2.2 _ jl2_follow_abs) (C.2.2.2.2 _ js2_follow_abs) (C.2.2.2.2 _ ji2_follow) (C.2.2.2.2 _ jc2_follow_abs) (Nat.le_of_ble_eq_true rfl) (Nat.le_of_ble_eq_true rfl) (Nat.zero_le _) (Nat.zero_le _) dX2_follow_93 ?_
                refine lv_icmp_lt (tgt := 118) hx hb dX2_follow_96 rfl (fun c15 => ?_) (fun c15 => ?_)
                · have hrun := p_pos hrun c15
                  refine lv_iload hx hb dX2_follow_118 (lv_at hl 5 rfl) ?_
                  refine lv_iconst (v := 2) hx hb dX2_follow_120 rfl ?_
                  refine lv_iload hx hb dX2_follow_121 (lv_at hl 1 rfl) ?_
                  refine lv_imul hx hb dX2_follow_123 ?_
                  refine lv_iload hx hb dX2_follow_124 (lv_at hl 4 rfl) ?_
                  refine lv_imul hx hb dX2_follow_126 ?_
                  refine lv_iadd hx hb dX2_follow_127 ?_
                  refine lv_istore (lv' := [(6, .int (x6 + ((2 * 1) * x5))), (10, .int ((x5 + x7) + (1 * x6))), (9, .int 1), (0, .ref (ad 4)), (4, .int x4), (5, .int x5), (7, .int x7), (8, .int x8)]) hx hb dX2_follow_128 hl (by decide) rfl (fun ls hl => ?_)
                  refine lv_iload hx hb dX2_follow_130 (lv_at hl 1 rfl) ?_
                  refine lv_istore (lv' := [(7, .int ((x5 + x7) + (1 * x6))), (6, .int (x6 + ((2 * 1) * x5))), (10, .int ((x5 + x7) + (1 * x6))), (9, .int 1), (0, .ref (ad 4)), (4, .int x4), (5, .int x5), (8, .int x8)]) hx hb dX2_follow_132 hl (by decide) rfl (fun ls hl => ?_)
                  refine lv_iinc (v := x8 + 1) (lv' := [(8, .int (x8 + 1)), (7, .int ((x5 + x7) + (1 * x6))), (6, .int (x6 + ((2 * 1) * x5))), (10, .int ((x5 + x7) + (1 * x6))), (9, .int 1), (0, .ref (ad 4)), (4, .int x4), (5, .int x5)]) hx hb dX2_follow_134 hl (k := 7) rfl rfl (by decide) rfl (fun ls hl => ?_)
                  refine lv_goto (tgt := 12) hx hb dX2_follow_137 rfl ?_
                  exact ih x5 (x6 + ((2 * 1) * x5)) ((x5 + x7) + (1 * x6)) (x8 + 1) out hrun K _ (lv_sub hl [5, 6, 7, 2, 1, 0] rfl)
                · have hrun := p_neg hrun c15
                  refine lv_iload hx hb dX2_follow_99 (lv_at hl 5 rfl) ?_
                  refine lv_iconst (v := 2) hx hb dX2_follow_101 rfl ?_
                  refine lv_iload hx hb dX2_follow_102 (lv_at hl 1 rfl) ?_
                  refine lv_imul hx hb dX2_follow_104 ?_
                  refine lv_iload hx hb dX2_follow_105 (lv_at hl 6 rfl) ?_
                  refine lv_imul hx hb dX2_follow_107 ?_
                  refine lv_iadd hx hb dX2_follow_108 ?_
                  refine lv_istore (lv' := [(6, .int (x6 + ((2 * 1) * x7))), (10, .int ((x5 + x7) + (1 * x6))), (9, .int 1), (0, .ref (ad 4)), (4, .int x4), (5, .int x5), (7, .int x7), (8, .int x8)]) hx hb dX2_follow_109 hl (by decide) rfl (fun ls hl => ?_)
                  refine lv_iload hx hb dX2_follow_111 (lv_at hl 1 rfl) ?_
                  refine lv_istore (lv' := [(5, .int ((x5 + x7) + (1 * x6))), (6, .int (x6 + ((2 * 1) * x7))), (10, .int ((x5 + x7) + (1 * x6))), (9, .int 1), (0, .ref (ad 4)), (4, .int x4), (7, .int x7), (8, .int x8)]) hx hb dX2_follow_113 hl (by decide) rfl (fun ls hl => ?_)
                  refine lv_goto (tgt := 134) hx hb dX2_follow_115 rfl ?_
                  refine lv_iinc (v := x8 + 1) (lv' := [(8, .int (x8 + 1)), (5, .int ((x5 + x7) + (1 * x6))), (6, .int (x6 + ((2 * 1) * x7))), (10, .int ((x5 + x7) + (1 * x6))), (9, .int 1), (0, .ref (ad 4)), (4, .int x4), (7, .int x7)]) hx hb dX2_follow_134 hl (k := 7) rfl rfl (by decide) rfl (fun ls hl => ?_)
                  refine lv_goto (tgt := 12) hx hb dX2_follow_137 rfl ?_
                  exact ih ((x5 + x7) + (1 * x6)) (x6 + ((2 * 1) * x7)) x7 (x8 + 1) out hrun K _ (lv_sub hl [5, 6, 1, 2, 7, 0] rfl)
            · have hrun := p_neg hrun c12
              refine lv_iconst (v := 1) hx hb dX2_follow_48 rfl ?_
              refine lv_goto (tgt := 53) hx hb dX2_follow_49 rfl ?_
              refine lv_iload hx hb dX2_follow_53 (lv_at hl 3 rfl) ?_
              refine lv_if_le (tgt := 62) hx hb dX2_follow_55 rfl (fun c16 => ?_) (fun c16 => ?_)
              · have hrun := p_pos hrun c16
                refine lv_iconst (v := 0) hx hb dX2_follow_62 rfl ?_
                refine lv_icmp_ne (tgt := 70) hx hb dX2_follow_63 rfl (fun _ => ?_) (fun c => absurd c (by decide))
                refine lv_iconst (v := 1) hx hb dX2_follow_70 rfl ?_
                refine lv_istore (lv' := [(9, .int 1), (0, .ref (ad 4)), (4, .int x4), (5, .int x5), (6, .int x6), (7, .int x7), (8, .int x8)]) hx hb dX2_follow_71 hl (by decide) rfl (fun ls hl => ?_)
                refine lv_iload hx hb dX2_follow_73 (lv_at hl 3 rfl) ?_
                refine lv_iload hx hb dX2_follow_75 (lv_at hl 5 rfl) ?_
                refine lv_iadd hx hb dX2_follow_77 ?_
                refine lv_iload hx hb dX2_follow_78 (lv_at hl 0 rfl) ?_
                refine lv_iload hx hb dX2_follow_80 (lv_at hl 4 rfl) ?_
                refine lv_imul hx hb dX2_follow_82 ?_
                refine lv_iadd hx hb dX2_follow_83 ?_
                refine lv_istore (lv' := [(10, .int ((x5 + x7) + (1 * x6))), (9, .int 1), (0, .ref (ad 4)), (4, .int x4), (5, .int x5), (6, .int x6), (7, .int x7), (8, .int x8)]) hx hb dX2_follow_84 hl (by decide) rfl (fun ls hl => ?_)
                refine lv_iload hx hb dX2_follow_86 (lv_at hl 4 rfl) ?_
                refine va_mabs hx hb (by rw [C.2.2.1]; exact hl.1.symm) C.2.2.2.1 (C.2.2.2.2 _ jl2_follow_abs) (C.2.2.2.2 _ js2_follow_abs) (C.2.2.2.2 _ ji2_follow) (C.2.2.2.2 _ jc2_follow_abs) (Nat.le_of_ble_eq_true rfl) (Nat.le_of_ble_eq_true rfl) (Nat.zero_le _) (Nat.zero_le _) dX2_follow_88 ?_
                refine lv_iload hx hb dX2_follow_91 (lv_at hl 6 rfl) ?_
                refine va_mabs hx hb (by rw [C.2.2.1]; exact hl.1.symm) C.2.2.2.1 (C.2.2.2.2 _ jl2_follow_abs) (C.2.2.2.2 _ js2_follow_abs) (C.2.2.2.2 _ ji2_follow) (C.2.2.2.2 _ jc2_follow_abs) (Nat.le_of_ble_eq_true rfl) (Nat.le_of_ble_eq_true rfl) (Nat.zero_le _) (Nat.zero_le _) dX2_follow_93 ?_
                refine lv_icmp_lt (tgt := 118) hx hb dX2_follow_96 rfl (fun c17 => ?_) (fun c17 => ?_)
                · have hrun := p_pos hrun c17
                  refine lv_iload hx hb dX2_follow_118 (lv_at hl 5 rfl) ?_
                  refine lv_iconst (v := 2) hx hb dX2_follow_120 rfl ?_
                  refine lv_iload hx hb dX2_follow_121 (lv_at hl 1 rfl) ?_
                  refine lv_imul hx hb dX2_follow_123 ?_
                  refine lv_iload hx hb dX2_follow_124 (lv_at hl 4 rfl) ?_
                  refine lv_imul hx hb dX2_follow_126 ?_
                  refine lv_iadd hx hb dX2_follow_127 ?_
                  refine lv_istore (lv' := [(6, .int (x6 + ((2 * 1) * x5))), (10, .int ((x5 + x7) + (1 * x6))), (9, .int 1), (0, .ref (ad 4)), (4, .int x4), (5, .int x5), (7, .int x7), (8, .int x8)]) hx hb dX2_follow_128 hl (by decide) rfl (fun ls hl => ?_)
                  refine lv_iload hx hb dX2_follow_130 (lv_at hl 1 rfl) ?_
                  refine lv_istore (lv' := [(7, .int ((x5 + x7) + (1 * x6))), (6, .int (x6 + ((2 * 1) * x5))), (10, .int ((x5 + x7) + (1 * x6))), (9, .int 1), (0, .ref (ad 4)), (4, .int x4), (5, .int x5), (8, .int x8)]) hx hb dX2_follow_132 hl (by decide) rfl (fun ls hl => ?_)
                  refine lv_iinc (v := x8 + 1) (lv' := [(8, .int (x8 + 1)), (7, .int ((x5 + x7) + (1 * x6))), (6, .int (x6 + ((2 * 1) * x5))), (10, .int ((x5 + x7) + (1 * x6))), (9, .int 1), (0, .ref (ad 4)), (4, .int x4), (5, .int x5)]) hx hb dX2_follow_134 hl (k := 7) rfl rfl (by decide) rfl (fun ls hl => ?_)
                  refine lv_goto (tgt := 12) hx hb dX2_follow_137 rfl ?_
                  exact ih x5 (x6 + ((2 * 1) * x5)) ((x5 + x7) + (1 * x6)) (x8 + 1) out hrun K _ (lv_sub hl [5, 6, 7, 2, 1, 0] rfl)
                · have hrun := p_neg hrun c17
                  refine lv_iload hx hb dX2_follow_99 (lv_at hl 5 rfl) ?_
                  refine lv_iconst (v := 2) hx hb dX2_follow_101 rfl ?_
                  refine lv_iload hx hb dX2_follow_102 (lv_at hl 1 rfl) ?_
                  refine lv_imul hx hb dX2_follow_104 ?_
                  refine lv_iload hx hb dX2_follow_105 (lv_at hl 6 rfl) ?_
                  refine lv_imul hx hb dX2_follow_107 ?_
                  refine lv_iadd hx hb dX2_follow_108 ?_
                  refine lv_istore (lv' := [(6, .int (x6 + ((2 * 1) * x7))), (10, .int ((x5 + x7) + (1 * x6))), (9, .int 1), (0, .ref (ad 4)), (4, .int x4), (5, .int x5), (7, .int x7), (8, .int x8)]) hx hb dX2_follow_109 hl (by decide) rfl (fun ls hl => ?_)
                  refine lv_iload hx hb dX2_follow_111 (lv_at hl 1 rfl) ?_
                  refine lv_istore (lv' := [(5, .int ((x5 + x7) + (1 * x6))), (6, .int (x6 + ((2 * 1) * x7))), (10, .int ((x5 + x7) + (1 * x6))), (9, .int 1), (0, .ref (ad 4)), (4, .int x4), (7, .int x7), (8, .int x8)]) hx hb dX2_follow_113 hl (by decide) rfl (fun ls hl => ?_)
                  refine lv_goto (tgt := 134) hx hb dX2_follow_115 rfl ?_
                  refine lv_iinc (v := x8 + 1) (lv' := [(8, .int (x8 + 1)), (5, .int ((x5 + x7) + (1 * x6))), (6, .int (x6 + ((2 * 1) * x7))), (10, .int ((x5 + x7) + (1 * x6))), (9, .int 1), (0, .ref (ad 4)), (4, .int x4), (7, .int x7)]) hx hb dX2_follow_134 hl (k := 7) rfl rfl (by decide) rfl (fun ls hl => ?_)
                  refine lv_goto (tgt := 12) hx hb dX2_follow_137 rfl ?_
                  exact ih ((x5 + x7) + (1 * x6)) (x6 + ((2 * 1) * x7)) x7 (x8 + 1) out hrun K _ (lv_sub hl [5, 6, 1, 2, 7, 0] rfl)
              · have hrun := p_neg hrun c16
                refine lv_iconst (v := 1) hx hb dX2_follow_58 rfl ?_
                refine lv_goto (tgt := 63) hx hb dX2_follow_59 rfl ?_
                refine lv_icmp_ne (tgt := 70) hx hb dX2_follow_63 rfl (fun c => absurd rfl c) (fun _ => ?_)
                refine lv_iconst (v := (-1)) hx hb dX2_follow_66 rfl ?_
                refine lv_goto (tgt := 71) hx hb dX2_follow_67 rfl ?_
                refine lv_istore (lv' := [(9, .int (-1)), (0, .ref (ad 4)), (4, .int x4), (5, .int x5), (6, .int x6), (7, .int x7), (8, .int x8)]) hx hb dX2_follow_71 hl (by decide) rfl (fun ls hl => ?_)
                refine lv_iload hx hb dX2_follow_73 (lv_at hl 3 rfl) ?_
                refine lv_iload hx hb dX2_follow_75 (lv_at hl 5 rfl) ?_
                refine lv_iadd hx hb dX2_follow_77 ?_
                refine lv_iload hx hb dX2_follow_78 (lv_at hl 0 rfl) ?_
                refine lv_iload hx hb dX2_follow_80 (lv_at hl 4 rfl) ?_
                refine lv_imul hx hb dX2_follow_82 ?_
                refine lv_iadd hx hb dX2_follow_83 ?_
                refine lv_istore (lv' := [(10, .int ((x5 + x7) + ((-1) * x6))), (9, .int (-1)), (0, .ref (ad 4)), (4, .int x4), (5, .int x5), (6, .int x6), (7, .int x7), (8, .int x8)]) hx hb dX2_follow_84 hl (by decide) rfl (fun ls hl => ?_)
                refine lv_iload hx hb dX2_follow_86 (lv_at hl 4 rfl) ?_
                refine va_mabs hx hb (by rw [C.2.2.1]; exact hl.1.symm) C.2.2.2.1 (C.2.2.2.2 _ jl2_follow_abs) (C.2.2.2.2 _ js2_follow_abs) (C.2.2.2.2 _ ji2_follow) (C.2.2.2.2 _ jc2_follow_abs) (Nat.le_of_ble_eq_true rfl) (Nat.le_of_ble_eq_true rfl) (Nat.zero_le _) (Nat.zero_le _) dX2_follow_88 ?_
                refine lv_iload hx hb dX2_follow_91 (lv_at hl 6 rfl) ?_
                refine va_mabs hx hb (by rw [C.2.2.1]; exact hl.1.symm) C.2.2.2.1 (C.2.2.2.2 _ jl2_follow_abs) (C.2.2.2.2 _ js2_follow_abs) (C.2.2.2.2 _ ji2_follow) (C.2.2.2.2 _ jc2_follow_abs) (Nat.le_of_ble_eq_true rfl) (Nat.le_of_ble_eq_true rfl) (Nat.zero_le _) (Nat.zero_le _) dX2_follow_93 ?_
                refine lv_icmp_lt (tgt := 118) hx hb dX2_follow_96 rfl (fun c18 => ?_) (fun c18 => ?_)
                · have hrun := p_pos hrun c18
                  refine lv_iload hx hb dX2_follow_118 (lv_at hl 5 rfl) ?_
                  refine lv_iconst (v := 2) hx hb dX2_follow_120 rfl ?_
                  refine lv_iload hx hb dX2_follow_121 (lv_at hl 1 rfl) ?_
                  refine lv_imul hx hb dX2_follow_123 ?_
                  refine lv_iload hx hb dX2_follow_124 (lv_at hl 4 rfl) ?_
                  refine lv_imul hx hb dX2_follow_126 ?_
                  refine lv_iadd hx hb dX2_follow_127 ?_
                  refine lv_istore (lv' := [(6, .int (x6 + ((2 * (-1)) * x5))), (10, .int ((x5 + x7) + ((-1) * x6))), (9, .int (-1)), (0, .ref (ad 4)), (4, .int x4), (5, .int x5), (7, .int x7), (8, .int x8)]) hx hb dX2_follow_128 hl (by decide) rfl (fun ls hl => ?_)
                  refine lv_iload hx hb dX2_follow_130 (lv_at hl 1 rfl) ?_
                  refine lv_istore (lv' := [(7, .int ((x5 + x7) + ((-1) * x6))), (6, .int (x6 + ((2 * (-1)) * x5))), (10, .int ((x5 + x7) + ((-1) * x6))), (9, .int (-1)), (0, .ref (ad 4)), (4, .int x4), (5, .int x5), (8, .int x8)]) hx hb dX2_follow_132 hl (by decide) rfl (fun ls hl => ?_)
                  refine lv_iinc (v := x8 + 1) (lv' := [(8, .int (x8 + 1)), (7, .int ((x5 + x7) + ((-1) * x6))), (6, .int (x6 + ((2 * (-1)) * x5))), (10, .int ((x5 + x7) + ((-1) * x6))), (9, .int (-1)), (0, .ref (ad 4)), (4, .int x4), (5, .int x5)]) hx hb dX2_follow_134 hl (k := 7) rfl rfl (by decide) rfl (fun ls hl => ?_)
                  refine lv_goto (tgt := 12) hx hb dX2_follow_137 rfl ?_
                  exact ih x5 (x6 + ((2 * (-1)) * x5)) ((x5 + x7) + ((-1) * x6)) (x8 + 1) out hrun K _ (lv_sub hl [5, 6, 7, 2, 1, 0] rfl)
                · have hrun := p_neg hrun c18
                  refine lv_iload hx hb dX2_follow_99 (lv_at hl 5 rfl) ?_
                  refine lv_iconst (v := 2) hx hb dX2_follow_101 rfl ?_
                  refine lv_iload hx hb dX2_follow_102 (lv_at hl 1 rfl) ?_
                  refine lv_imul hx hb dX2_follow_104 ?_
                  refine lv_iload hx hb dX2_follow_105 (lv_at hl 6 rfl) ?_
                  refine lv_imul hx hb dX2_follow_107 ?_
                  refine lv_iadd hx hb dX2_follow_108 ?_
                  refine lv_istore (lv' := [(6, .int (x6 + ((2 * (-1)) * x7))), (10, .int ((x5 + x7) + ((-1) * x6))), (9, .int (-1)), (0, .ref (ad 4)), (4, .int x4), (5, .int x5), (7, .int x7), (8, .int x8)]) hx hb dX2_follow_109 hl (by decide) rfl (fun ls hl => ?_)
                  refine lv_iload hx hb dX2_follow_111 (lv_at hl 1 rfl) ?_
                  refine lv_istore (lv' := [(5, .int ((x5 + x7) + ((-1) * x6))), (6, .int (x6 + ((2 * (-1)) * x7))), (10, .int ((x5 + x7) + ((-1) * x6))), (9, .int (-1)), (0, .ref (ad 4)), (4, .int x4), (7, .int x7), (8, .int x8)]) hx hb dX2_follow_113 hl (by decide) rfl (fun ls hl => ?_)
                  refine lv_goto (tgt := 134) hx hb dX2_follow_115 rfl ?_
                  refine lv_iinc (v := x8 + 1) (lv' := [(8, .int (x8 + 1)), (5, .int ((x5 + x7) + ((-1) * x6))), (6, .int (x6 + ((2 * (-1)) * x7))), (10, .int ((x5 + x7) + ((-1) * x6))), (9, .int (-1)), (0, .ref (ad 4)), (4, .int x4), (7, .int x7)]) hx hb dX2_follow_134 hl (k := 7) rfl rfl (by decide) rfl (fun ls hl => ?_)
                  refine lv_goto (tgt := 12) hx hb dX2_follow_137 rfl ?_
                  exact ih ((x5 + x7) + ((-1) * x6)) (x6 + ((2 * (-1)) * x7)) x7 (x8 + 1) out hrun K _ (lv_sub hl [5, 6, 1, 2, 7, 0] rfl)
  unfold P2_follow at hrun
  refine lv_iload_n hx hb dX2_follow_0 rfl (lv_at hl 1 rfl) ?_
  refine lv_istore (lv' := [(5, .int x1), (0, .ref (ad 4)), (1, .int x1), (2, .int x2), (3, .int x3), (4, .int x4)]) hx hb dX2_follow_1 hl (by decide) rfl (fun ls hl => ?_)
  refine lv_iload_n hx hb dX2_follow_3 rfl (lv_at hl 3 rfl) ?_
  refine lv_istore (lv' := [(6, .int x2), (5, .int x1), (0, .ref (ad 4)), (1, .int x1), (2, .int x2), (3, .int x3), (4, .int x4)]) hx hb dX2_follow_4 hl (by decide) rfl (fun ls hl => ?_)
  refine lv_iload_n hx hb dX2_follow_6 rfl (lv_at hl 5 rfl) ?_
  refine lv_istore (lv' := [(7, .int x3), (6, .int x2), (5, .int x1), (0, .ref (ad 4)), (1, .int x1), (2, .int x2), (3, .int x3), (4, .int x4)]) hx hb dX2_follow_7 hl (by decide) rfl (fun ls hl => ?_)
  refine lv_iconst (v := 0) hx hb dX2_follow_9 rfl ?_
  refine lv_istore (lv' := [(8, .int 0), (7, .int x3), (6, .int x2), (5, .int x1), (0, .ref (ad 4)), (1, .int x1), (2, .int x2), (3, .int x3), (4, .int x4)]) hx hb dX2_follow_10 hl (by decide) rfl (fun ls hl => ?_)
  obtain ⟨o19, h_o19, hrun⟩ := p_bnd hrun
  refine loop_12 FU x1 x2 x3 0 o19 h_o19 (fun ls hl => ?_) _ (lv_sub hl [4, 8, 3, 2, 1, 0] rfl)
  refine lv_iload hx hb dX2_follow_140 (lv_at hl 1 rfl) ?_
  refine lv_if_eq (tgt := 148) hx hb dX2_follow_142 rfl (fun c20 => ?_) (fun c20 => ?_)
  · have hrun := p_pos hrun c20
    refine lv_iload hx hb dX2_follow_148 (lv_at hl 2 rfl) ?_
    refine lv_if_ge (tgt := 167) hx hb dX2_follow_150 rfl (fun c21 => ?_) (fun c21 => ?_)
    · have hrun := p_pos hrun c21
      refine lv_aload_n hx hb dX2_follow_167 rfl (lv_at hl 0 rfl) ?_
      refine lv_iload hx hb dX2_follow_168 (lv_at hl 2 rfl) ?_
      refine lv_iload hx hb dX2_follow_170 (lv_at hl 3 rfl) ?_
      refine lv_iload hx hb dX2_follow_172 (lv_at hl 4 rfl) ?_
      obtain ⟨r22, h_r22, hrun⟩ := p_bnd hrun
      refine jVS_i (rest := []) C (c2_find h_r22) gX2_follow_X2_find hd2_find hK hN hP rcR rfl ⟨rfl, rfl⟩ ⟨Nat.le_of_ble_eq_true rfl, Nat.le_of_ble_eq_true rfl⟩ rfl hl.1 rfl (Nat.le_of_ble_eq_true rfl) ⟨Nat.le_of_ble_eq_true rfl, Nat.le_of_ble_eq_true rfl⟩ dX2_follow_174 ?_
      cases hrun
      exact rS_i C hr hlk hQ (nbi _) rfl dX2_follow_177
    · have hrun := p_neg hrun c21
      refine lv_aload_n hx hb dX2_follow_153 rfl (lv_at hl 0 rfl) ?_
      refine lv_iload hx hb dX2_follow_154 (lv_at hl 4 rfl) ?_
      refine lv_iload hx hb dX2_follow_156 (lv_at hl 3 rfl) ?_
      refine lv_ineg hx hb dX2_follow_158 ?_
      refine lv_iload hx hb dX2_follow_159 (lv_at hl 2 rfl) ?_
      obtain ⟨r23, h_r23, hrun⟩ := p_bnd hrun
      refine jVS_i (rest := []) C (c2_find h_r23) gX2_follow_X2_find hd2_find hK hN hP rcR rfl ⟨rfl, rfl⟩ ⟨Nat.le_of_ble_eq_true rfl, Nat.le_of_ble_eq_true rfl⟩ rfl hl.1 rfl (Nat.le_of_ble_eq_true rfl) ⟨Nat.le_of_ble_eq_true rfl, Nat.le_of_ble_eq_true rfl⟩ dX2_follow_161 ?_
      refine lv_goto (tgt := 177) hx hb dX2_follow_164 rfl ?_
      cases hrun
      exact rS_i C hr hlk hQ (nbi _) rfl dX2_follow_177
  · have hrun := p_neg hrun c20
    refine lv_iload hx hb dX2_follow_145 (lv_at hl 5 rfl) ?_
    cases hrun
    exact rS_i C hr hlk hQ (nbi _) rfl dX2_follow_147

end X96
