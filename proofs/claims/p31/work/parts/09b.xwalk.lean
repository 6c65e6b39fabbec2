section X91
variable {l : Launch} {D : va_G} {sz : Nat}
variable {ad fa ca wad : Nat → Nat} {cI cR cG : ClassId}
variable {v_roadCount v_readings v_psize v_good v_pbits v_letters v_afterLetter v_disc v_rsize v_cycleCount v_closed v_traces v_crossings v_db_bits v_db_size v_db_allBits v_db_a v_db_b v_db_c v_db_d v_dn_bits v_dn_size v_dn_allBits v_dn_a v_dn_b v_dn_c v_dn_d : Int32}
variable {v_s : Int64}
variable {v_codes : Nat → Int32}
variable {v_fo v_cy v_wv : Nat → Nat → Int32}
variable {v_wn : Nat}
abbrev rm1_continues : Room := { frames := 0, cells := 0, slots := 0, locals := 0 }
theorem fl1_continues_22 : Cond.fieldLink RX1 22 "RiverWords$Page" "bits" "I" ∈ wsX1_continues := by decide +kernel
theorem fl1_continues_25 : Cond.fieldLink RX1 25 "RiverWords$Page" "letters" "I" ∈ wsX1_continues := by decide +kernel
theorem fl1_continues_28 : Cond.fieldLink RX1 28 "RiverWords$Page" "afterLetter" "Z" ∈ wsX1_continues := by decide +kernel
theorem inm1_continues_X1 : ∀ w ∈ wsX10, w ∈ wsX1_continues := by decide +kernel
theorem hd1_continues : okD yX1_continues 1 := by decide +kernel
set_option maxHeartbeats 8000000 in
set_option maxRecDepth 100000 in
theorem c1_continues {x1 : Int32} {res : Int32 × Int32 × Int32 × Int32} (hrun : P1_continues v_pbits v_letters v_afterLetter x1 = some res) : Met l yX1_continues wsX1_continues rm1_continues (va_Pc [.ref (ad 1), .int x1] (PE D (tyX cI cR cG) sz (WX0 ad fa ca wad cI cR cG v_wn) (WX ad fa ca wad cI cR cG v_roadCount v_readings v_psize v_good v_pbits v_letters v_afterLetter v_codes v_disc v_rsize v_cycleCount v_fo v_cy v_s v_closed v_traces v_crossings v_db_bits v_db_size v_db_allBits v_db_a v_db_b v_db_c v_db_d v_dn_bits v_dn_size v_dn_allBits v_dn_a v_dn_b v_dn_c v_dn_d v_wn v_wv))) (va_Qi (fun (x : Int32) (_ : Unit) => x = res.1) (fun _ t => va_P D vwCl (WX ad fa ca wad cI cR cG v_roadCount v_readings v_psize v_good res.2.1 res.2.2.1 res.2.2.2 v_codes v_disc v_rsize v_cycleCount v_fo v_cy v_s v_closed v_traces v_crossings v_db_bits v_db_size v_db_allBits v_db_a v_db_b v_db_c v_db_d v_dn_bits v_dn_size v_dn_allBits v_dn_a v_dn_b v_dn_c v_dn_d v_wn v_wv) t.heap) (va_A (WX0 ad fa ca wad cI cR cG v_wn) sz)) 0 0 (va_A (WX0 ad fa ca wad cI cR cG v_wn) sz) := by
  refine E_in (cc := cX1_continues) (maxL := 7) (ret := (some .boolean)) (by decide) rfl (Nat.le_of_ble_eq_true rfl) ?_
  intro p e s m args below meth c ls Q hQ C hr hlk hK hN hD hA I hl
  have C : CallFix p m c cX1_continues 7 s args wsX1_continues RX1 := C
  have hx := C.1
  have hb := C.2.1
  have hl : lv_has ls 7 [(0, .ref (ad 1)), (1, .int x1)] := hl
  have loop_110 : ∀ (v_letters : Int32) (v_afterLetter : Int32) (x2 : Int32) (x4 : Int32) (x5 : Int32) (n : Nat) (v_pbits : Int32) (x6 : Int32) (out : Int32), P1_continues_110 x4 x5 n v_pbits x6 = some out → (∀ (H : Heap) (locs : List Loc) (ls : Array Slot), IM D (va_A (WX0 ad fa ca wad cI cR cG v_wn) sz) s.heap H locs (WX ad fa ca wad cI cR cG v_roadCount v_readings v_psize v_good out v_letters v_afterLetter v_codes v_disc v_rsize v_cycleCount v_fo v_cy v_s v_closed v_traces v_crossings v_db_bits v_db_size v_db_allBits v_db_a v_db_b v_db_c v_db_d v_dn_bits v_dn_size v_dn_allBits v_dn_a v_dn_b v_dn_c v_dn_d v_wn v_wv) → lv_has ls 7 [(0, .ref (ad 1)), (2, .int x2), (4, .int x4)] → W p l e rm1_continues s m args below meth c H locs 0 0 Q (F0 m 136 ls [])) → ∀ (H : Heap) (locs : List Loc) (ls : Array Slot), IM D (va_A (WX0 ad fa ca wad cI cR cG v_wn) sz) s.heap H locs (WX ad fa ca wad cI cR cG v_roadCount v_readings v_psize v_good v_pbits v_letters v_afterLetter v_codes v_disc v_rsize v_cycleCount v_fo v_cy v_s v_closed v_traces v_crossings v_db_bits v_db_size v_db_allBits v_db_a v_db_b v_db_c v_db_d v_dn_bits v_dn_size v_dn_allBits v_dn_a v_dn_b v_dn_c v_dn_d v_wn v_wv) → lv_has ls 7 [(0, .ref (ad 1)), (2, .int x2), (4, .int x4), (5, .int x5), (6, .int x6)] → W p l e rm1_continues s m args below meth c H locs 0 0 Q (F0 m 110 ls []) := by
    intro v_letters v_afterLetter x2 x4 x5 n
    induction n with
    | zero =>
      intro v_pbits x6 out hrun K H locs ls I hl
      cases hrun
    | succ n ih =>
      intro v_pbits x6 out hrun K H locs ls I hl
      rw [P1_continues_110] at hrun
      refine lv_iload hx hb dX1_continues_110 (lv_at hl 4 rfl) ?_
      refine lv_iload hx hb dX1_continues_112 (lv_at hl 2 rfl) ?_
      refine lv_icmp_ge (tgt := 136) hx hb dX1_continues_114 rfl (fun c5 => ?_) (fun c5 => ?_)
      · have hrun := p_pos hrun c5
        cases hrun
        exact K _ _ _ I (lv_sub hl [0, 1, 2] rfl)
      · have hrun := p_neg hrun c5
        refine lv_aload_n hx hb dX1_continues_117 rfl (lv_at hl 0 rfl) ?_
        refine lv_aload_n hx hb dX1_continues_118 rfl (lv_at hl 0 rfl) ?_
        refine gX_P_bits C inm1_continues_X1 hK I.1 fl1_continues_22 dX1_continues_119 ?_
        refine lv_iconst (v := 1) hx hb dX1_continues_122 rfl ?_
        refine j_ishl hx hb dX1_continues_123 ?_
        refine lv_iload hx hb dX1_continues_124 (lv_at hl 3 rfl) ?_
        refine lv_ior hx hb dX1_continues_126 ?_
        refine pX_P_bits C inm1_continues_X1 hK hD I fl1_continues_22 dX1_continues_127 (fun H locs I => ?_)
        refine lv_iinc (v := x6 + 1) (lv' := [(6, .int (x6 + 1)), (0, .ref (ad 1)), (2, .int x2), (4, .int x4), (5, .int x5)]) hx hb dX1_continues_130 hl (k := 4) rfl rfl (by decide) rfl (fun ls hl => ?_)
        refine lv_goto (tgt := 110) hx hb dX1_continues_133 rfl ?_
        exact ih ((jshl v_pbits 1) ||| x5) (x6 + 1) out hrun K _ _ _ I (lv_sub hl [1, 2, 3, 4, 0] rfl)
  unfold P1_continues at hrun
  refine lv_iload_n hx hb dX1_continues_0 rfl (lv_at hl 1 rfl) ?_
  refine lv_bipush (v := 76) hx hb dX1_continues_1 rfl ?_
  refine lv_icmp_eq (tgt := 12) hx hb dX1_continues_3 rfl (fun c1 => ?_) (fun c1 => ?_)
  · have hrun := p_pos hrun c1
    refine lv_iconst (v := 1) hx hb dX1_continues_12 rfl ?_
    refine lv_goto (tgt := 17) hx hb dX1_continues_13 rfl ?_
    refine lv_istore_n (lv' := [(2, .int 1), (0, .ref (ad 1)), (1, .int x1)]) hx hb dX1_continues_17 rfl hl (by decide) rfl (fun ls hl => ?_)
    refine lv_aload_n hx hb dX1_continues_18 rfl (lv_at hl 1 rfl) ?_
    refine gX_P_afterLetter C inm1_continues_X1 hK I.1 fl1_continues_28 dX1_continues_19 ?_
    refine lv_if_eq (tgt := 41) hx hb dX1_continues_22 rfl (fun c2 => ?_) (fun c2 => ?_)
    · have hrun := p_pos hrun c2
      refine lv_iconst (v := 0) hx hb dX1_continues_41 rfl ?_
      refine lv_istore_n (lv' := [(3, .int 0), (2, .int 1), (0, .ref (ad 1)), (1, .int x1)]) hx hb dX1_continues_42 rfl hl (by decide) rfl (fun ls hl => ?_)
      refine lv_iload_n hx hb dX1_continues_43 rfl (lv_at hl 1 rfl) ?_
      refine lv_if_ne (tgt := 53) hx hb dX1_continues_44 rfl (fun _ => ?_) (fun c => absurd c (by decide))
      refine lv_iload_n hx hb dX1_continues_53 rfl (lv_at hl 1 rfl) ?_
      refine lv_if_eq (tgt := 61) hx hb dX1_continues_54 rfl (fun c => absurd c (by decide)) (fun _ => ?_)
      refine lv_iconst (v := 1) hx hb dX1_continues_57 rfl ?_
      refine lv_goto (tgt := 65) hx hb dX1_continues_58 rfl ?_
      refine lv_istore (lv' := [(4, .int 1), (3, .int 0), (2, .int 1), (0, .ref (ad 1)), (1, .int x1)]) hx hb dX1_continues_65 hl (by decide) rfl (fun ls hl => ?_)
      refine lv_aload_n hx hb dX1_continues_67 rfl (lv_at hl 3 rfl) ?_
      refine gX_P_letters C inm1_continues_X1 hK I.1 fl1_continues_25 dX1_continues_68 ?_
      refine lv_iload hx hb dX1_continues_71 (lv_at hl 0 rfl) ?_
      refine lv_iadd hx hb dX1_continues_73 ?_
      refine lv_bipush (v := 20) hx hb dX1_continues_74 rfl ?_
      refine lv_icmp_le (tgt := 81) hx hb dX1_continues_76 rfl (fun c3 => ?_) (fun c3 => ?_)
      · have hrun := p_pos hrun c3
        refine lv_iload_n hx hb dX1_continues_81 rfl (lv_at hl 2 rfl) ?_
        refine lv_if_eq (tgt := 99) hx hb dX1_continues_82 rfl (fun c => absurd c (by decide)) (fun _ => ?_)
        refine lv_iload_n hx hb dX1_continues_85 rfl (lv_at hl 4 rfl) ?_
        refine lv_bipush (v := 82) hx hb dX1_continues_86 rfl ?_
        refine lv_icmp_ne (tgt := 95) hx hb dX1_continues_88 rfl (fun c4 => ?_) (fun c4 => ?_)
        · have hrun := p_neg hrun c4
          refine lv_iconst (v := 0) hx hb dX1_continues_95 rfl ?_
          refine lv_goto (tgt := 105) hx hb dX1_continues_96 rfl ?_
          refine lv_istore (lv' := [(5, .int 0), (4, .int 1), (3, .int 0), (2, .int 1), (0, .ref (ad 1)), (1, .int x1)]) hx hb dX1_continues_105 hl (by decide) rfl (fun ls hl => ?_)
          refine lv_iconst (v := 0) hx hb dX1_continues_107 rfl ?_
          refine lv_istore (lv' := [(6, .int 0), (5, .int 0), (4, .int 1), (3, .int 0), (2, .int 1), (0, .ref (ad 1)), (1, .int x1)]) hx hb dX1_continues_108 hl (by decide) rfl (fun ls hl => ?_)
          obtain ⟨o6, h_o6, hrun⟩ := p_bnd hrun
          refine loop_110 v_letters v_afterLetter 1 1 0 FU v_pbits 0 o6 h_o6 (fun H locs ls I hl => ?_) _ _ _ I (lv_sub hl [5, 4, 2, 1, 0] rfl)
          refine lv_aload_n hx hb dX1_continues_136 rfl (lv_at hl 0 rfl) ?_
          refine lv_dup hx hb dX1_continues_137 rfl ?_
          refine gX_P_letters C inm1_continues_X1 hK I.1 fl1_continues_25 dX1_continues_138 ?_
          refine lv_iload hx hb dX1_continues_141 (lv_at hl 2 rfl) ?_
          refine lv_iadd hx hb dX1_continues_143 ?_
          refine pX_P_letters C inm1_continues_X1 hK hD I fl1_continues_25 dX1_continues_144 (fun H locs I => ?_)
          refine lv_aload_n hx hb dX1_continues_147 rfl (lv_at hl 0 rfl) ?_
          refine lv_iload_n hx hb dX1_continues_148 rfl (lv_at hl 1 rfl) ?_
          refine pX_P_afterLetter C inm1_continues_X1 hK hD I fl1_continues_28 (Or.inr rfl) dX1_continues_149 (fun H locs I => ?_)
          refine lv_iconst (v := 1) hx hb dX1_continues_152 rfl ?_
          cases hrun
          exact rE_i C hr hlk hQ I (nb01 (Or.inr rfl)) rfl dX1_continues_153
        · have hrun := p_pos hrun c4
          refine lv_iconst (v := 1) hx hb dX1_continues_91 rfl ?_
          refine lv_goto (tgt := 105) hx hb dX1_continues_92 rfl ?_
          refine lv_istore (lv' := [(5, .int 1), (4, .int 1), (3, .int 0), (2, .int 1), (0, .ref (ad 1)), (1, .int x1)]) hx hb dX1_continues_105 hl (by decide) rfl (fun ls hl => ?_)
          refine lv_iconst (v := 0) hx hb dX1_continues_107 rfl ?_
          refine lv_istore (lv' := [(6, .int 0), (5, .int 1), (4, .int 1), (3, .int 0), (2, .int 1), (0, .ref (ad 1)), (1, .int x1)]) hx hb dX1_continues_108 hl (by decide) rfl (fun ls hl => ?_)
          obtain ⟨o7, h_o7, hrun⟩ := p_bnd hrun
          refine loop_110 v_letters v_afterLetter 1 1 1 FU v_pbits 0 o7 h_o7 (fun H locs ls I hl => ?_) _ _ _ I (lv_sub hl [5, 4, 2, 1, 0] rfl)
          refine lv_aload_n hx hb dX1_continues_136 rfl (lv_at hl 0 rfl) ?_
          refine lv_dup hx hb dX1_continues_137 rfl ?_
          refine gX_P_letters C inm1_continues_X1 hK I.1 fl1_continues_25 dX1_continues_138 ?_
          refine lv_iload hx hb dX1_continues_141 (lv_at hl 2 rfl) ?_
          refine lv_iadd hx hb dX1_continues_143 ?_
          refine pX_P_letters C inm1_continues_X1 hK hD I fl1_continues_25 dX1_continues_144 (fun H locs I => ?_)
          refine lv_aload_n hx hb dX1_continues_147 rfl (lv_at hl 0 rfl) ?_
          refine lv_iload_n hx hb dX1_continues_148 rfl (lv_at hl 1 rfl) ?_
          refine pX_P_afterLetter C inm1_continues_X1 hK hD I fl1_continues_28 (Or.inr rfl) dX1_continues_149 (fun H locs I => ?_)
          refine lv_iconst (v := 1) hx hb dX1_continues_152 rfl ?_
          cases hrun
          exact rE_i C hr hlk hQ I (nb01 (Or.inr rfl)) rfl dX1_continues_153
      · have hrun := p_neg hrun c3
        refine lv_iconst (v := 0) hx hb dX1_continues_79 rfl ?_
        cases hrun
        exact rE_i C hr hlk hQ I (nb01 (Or.inl rfl)) rfl dX1_continues_80
    · have hrun := p_neg hrun c2
      refine lv_iload_n hx hb dX1_continues_25 rfl (lv_at hl 2 rfl) ?_
      refine lv_bipush (v := 50) hx hb dX1_continues_26 rfl ?_
      refine lv_icmp_lt (tgt := 41) hx hb dX1_continues_28 rfl (fun c8 => ?_) (fun c8 => ?_)
      · have hrun := p_pos hrun c8
        refine lv_iconst (v := 0) hx hb dX1_continues_41 rfl ?_
        refine lv_istore_n (lv' := [(3, .int 0), (2, .int 1), (0, .ref (ad 1)), (1, .int x1)]) hx hb dX1_continues_42 rfl hl (by decide) rfl (fun ls hl => ?_)
        refine lv_iload_n hx hb dX1_continues_43 rfl (lv_at hl 1 rfl) ?_
        refine lv_if_ne (tgt := 53) hx hb dX1_continues_44 rfl (fun _ => ?_) (fun c => absurd c (by decide))
        refine lv_iload_n hx hb dX1_continues_53 rfl (lv_at hl 1 rfl) ?_
        refine lv_if_eq (tgt := 61) hx hb dX1_continues_54 rfl (fun c => absurd c (by decide)) (fun _ => ?_)
        refine lv_iconst (v := 1) hx hb dX1_continues_57 rfl ?_
        refine lv_goto (tgt := 65) hx hb dX1_continues_58 rfl ?_
        refine lv_istore (lv' := [(4, .int 1), (3, .int 0), (2, .int 1), (0, .ref (ad 1)), (1, .int x1)]) hx hb dX1_continues_65 hl (by decide) rfl (fun ls hl => ?_)
        refine lv_aload_n hx hb dX1_continues_67 rfl (lv_at hl 3 rfl) ?_
        refine gX_P_letters C inm1_continues_X1 hK I.1 fl1_continues_25 dX1_continues_68 ?_
        refine lv_iload hx hb dX1_continues_71 (lv_at hl 0 rfl) ?_
        refine lv_iadd hx hb dX1_continues_73 ?_
        refine lv_bipush (v := 20) hx hb dX1_continues_74 rfl ?_
        refine lv_icmp_le (tgt := 81) hx hb dX1_continues_76 rfl (fun c9 => ?_) (fun c9 => ?_)
        · have hrun := p_pos hrun c9
          refine lv_iload_n hx hb dX1_continues_81 rfl (lv_at hl 2 rfl) ?_
          refine lv_if_eq (tgt := 99) hx hb dX1_continues_82 rfl (fun c => absurd c (by decide)) (fun _ => ?_)
          refine lv_iload_n hx hb dX1_continues_85 rfl (lv_at hl 4 rfl) ?_
          refine lv_bipush (v := 82) hx hb dX1_continues_86 rfl ?_
          refine lv_icmp_ne (tgt := 95) hx hb dX1_continues_88 rfl (fun c10 => ?_) (fun c10 => ?_)
          · have hrun := p_neg hrun c10
            refine lv_iconst (v := 0) hx hb dX1_continues_95 rfl ?_
            refine lv_goto (tgt := 105) hx hb dX1_continues_96 rfl ?_
            refine lv_istore (lv' := [(5, .int 0), (4, .int 1), (3, .int 0), (2, .int 1), (0, .ref (ad 1)), (1, .int x1)]) hx hb dX1_continues_105 hl (by decide) rfl (fun ls hl => ?_)
            refine lv_iconst (v := 0) hx hb dX1_continues_107 rfl ?_
            refine lv_istore (lv' := [(6, .int 0), (5, .int 0), (4, .int 1), (3, .int 0), (2, .int 1), (0, .ref (ad 1)), (1, .int x1)]) hx hb dX1_continues_108 hl (by decide) rfl (fun ls hl => ?_)
            obtain ⟨o11, h_o11, hrun⟩ := p_bnd hrun
            refine loop_110 v_letters v_afterLetter 1 1 0 FU v_pbits 0 o11 h_o11 (fun H locs ls I hl => ?_) _ _ _ I (lv_sub hl [5, 4, 2, 1, 0] rfl)
            refine lv_aload_n hx hb dX1_continues_136 rfl (lv_at hl 0 rfl) ?_
            refine lv_dup hx hb dX1_continues_137 rfl ?_
            refine gX_P_letters C inm1_continues_X1 hK I.1 fl1_continues_25 dX1_continues_138 ?_
            refine lv_iload hx hb dX1_continues_141 (lv_at hl 2 rfl) ?_
            refine lv_iadd hx hb dX1_continues_143 ?_
            refine pX_P_letters C inm1_continues_X1 hK hD I fl1_continues_25 dX1_continues_144 (fun H locs I => ?_)
            refine lv_aload_n hx hb dX1_continues_147 rfl (lv_at hl 0 rfl) ?_
            refine lv_iload_n hx hb dX1_continues_148 rfl (lv_at hl 1 rfl) ?_
            refine pX_P_afterLetter C inm1_continues_X1 hK hD I fl1_continues_28 (Or.inr rfl) dX1_continues_149 (fun H locs I => ?_)
            refine lv_iconst (v := 1) hx hb dX1_continues_152 rfl ?_
            cases hrun
            exact rE_i C hr hlk hQ I (nb01 (Or.inr rfl)) rfl dX1_continues_153
          · have hrun := p_pos hrun c10
            refine lv_iconst (v := 1) hx hb dX1_continues_91 rfl ?_
            refine lv_goto (tgt := 105) hx hb dX1_continues_92 rfl ?_
            refine lv_istore (lv' := [(5, .int 1), (4, .int 1), (3, .int 0), (2, .int 1), (0, .ref (ad 1)), (1, .int x1)]) hx hb dX1_continues_105 hl (by decide) rfl (fun ls hl => ?_)
            refine lv_iconst (v := 0) hx hb dX1_continues_107 rfl ?_
            refine lv_istore (lv' := [(6, .int 0), (5, .int 1), (4, .int 1), (3, .int 0), (2, .int 1), (0, .ref (ad 1)), (1, .int x1)]) hx hb dX1_continues_108 hl (by decide) rfl (fun ls hl => ?_)
            obtain ⟨o12, h_o12, hrun⟩ := p_bnd hrun
            refine loop_110 v_letters v_afterLetter 1 1 1 FU v_pbits 0 o12 h_o12 (fun H locs ls I hl => ?_) _ _ _ I (lv_sub hl [5, 4, 2, 1, 0] rfl)
            refine lv_aload_n hx hb dX1_continues_136 rfl (lv_at hl 0 rfl) ?_
            refine lv_dup hx hb dX1_continues_137 rfl ?_
            refine gX_P_letters C inm1_continues_X1 hK I.1 fl1_continues_25 dX1_continues_138 ?_
            refine lv_iload hx hb dX1_continues_141 (lv_at hl 2 rfl) ?_
            refine lv_iadd hx hb dX1_continues_143 ?_
            refine pX_P_letters C inm1_continues_X1 hK hD I fl1_continues_25 dX1_continues_144 (fun H locs I => ?_)
            refine lv_aload_n hx hb dX1_continues_147 rfl (lv_at hl 0 rfl) ?_
            refine lv_iload_n hx hb dX1_continues_148 rfl (lv_at hl 1 rfl) ?_
            refine pX_P_afterLetter C inm1_continues_X1 hK hD I fl1_continues_28 (Or.inr rfl) dX1_continues_149 (fun H locs I => ?_)
            refine lv_iconst (v := 1) hx hb dX1_continues_152 rfl ?_
            cases hrun
            exact rE_i C hr hlk hQ I (nb01 (Or.inr rfl)) rfl dX1_continues_153
        · have hrun := p_neg hrun c9
          refine lv_iconst (v := 0) hx hb dX1_continues_79 rfl ?_
          cases hrun
          exact rE_i C hr hlk hQ I (nb01 (Or.inl rfl)) rfl dX1_continues_80
      · have hrun := p_neg hrun c8
        refine lv_iload_n hx hb dX1_continues_31 rfl (lv_at hl 2 rfl) ?_
        refine lv_bipush (v := 57) hx hb dX1_continues_32 rfl ?_
        refine lv_icmp_gt (tgt := 41) hx hb dX1_continues_34 rfl (fun c13 => ?_) (fun c13 => ?_)
        · have hrun := p_pos hrun c13
          refine lv_iconst (v := 0) hx hb dX1_continues_41 rfl ?_
          refine lv_istore_n (lv' := [(3, .int 0), (2, .int 1), (0, .ref (ad 1)), (1, .int x1)]) hx hb dX1_continues_42 rfl hl (by decide) rfl (fun ls hl => ?_)
          refine lv_iload_n hx hb dX1_continues_43 rfl (lv_at hl 1 rfl) ?_
          refine lv_if_ne (tgt := 53) hx hb dX1_continues_44 rfl (fun _ => ?_) (fun c => absurd c (by decide))
          refine lv_iload_n hx hb dX1_continues_53 rfl (lv_at hl 1 rfl) ?_
          refine lv_if_eq (tgt := 61) hx hb dX1_continues_54 rfl (fun c => absurd c (by decide)) (fun _ => ?_)
          refine lv_iconst (v := 1) hx hb dX1_continues_57 rfl ?_
          refine lv_goto (tgt := 65) hx hb dX1_continues_58 rfl ?_
          refine lv_istore (lv' := [(4, .int 1), (3, .int 0), (2, .int 1), (0, .ref (ad 1)), (1, .int x1)]) hx hb dX1_continues_65 hl (by decide) rfl (fun ls hl => ?_)
          refine lv_aload_n hx hb dX1_continues_67 rfl (lv_at hl 3 rfl) ?_
          refine gX_P_letters C inm1_continues_X1 hK I.1 fl1_continues_25 dX1_continues_68 ?_
          refine lv_iload hx hb dX1_continues_71 (lv_at hl 0 rfl) ?_
          refine lv_iadd hx hb dX1_continues_73 ?_
          refine lv_bipush (v := 20) hx hb dX1_continues_74 rfl ?_
          refine lv_icmp_le (tgt := 81) hx hb dX1_continues_76 rfl (fun c14 => ?_) (fun c14 => ?_)
          · have hrun := p_pos hrun c14
            refine lv_iload_n hx hb dX1_continues_81 rfl (lv_at hl 2 rfl) ?_
            refine lv_if_eq (tgt := 99) hx hb dX1_continues_82 rfl (fun c => absurd c (by decide)) (fun _ => ?_)
            refine lv_iload_n hx hb dX1_continues_85 rfl (lv_at hl 4 rfl) ?_
            refine lv_bipush (v := 82) hx hb dX1_continues_86 rfl ?_
            refine lv_icmp_ne (tgt := 95) hx hb dX1_continues_88 rfl (fun c15 => ?_) (fun c15 => ?_)
            · have hrun := p_neg hrun c15
              refine lv_iconst (v := 0) hx hb dX1_continues_95 rfl ?_
              refine lv_goto (tgt := 105) hx hb dX1_continues_96 rfl ?_
              refine lv_istore (lv' := [(5, .int 0), (4, .int 1), (3, .int 0), (2, .int 1), (0, .ref (ad 1)), (1, .int x1)]) hx hb dX1_continues_105 hl (by decide) rfl (fun ls hl => ?_)
              refine lv_iconst (v := 0) hx hb dX1_continues_107 rfl ?_
              refine lv_istore (lv' := [(6, .int 0), (5, .int 0), (4, .int 1), (3, .int 0), (2, .int 1), (0, .ref (ad 1)), (1, .int x1)]) hx hb dX1_continues_108 hl (by decide) rfl (fun ls hl => ?_)
              obtain ⟨o16, h_o16, hrun⟩ := p_bnd hrun
              refine loop_110 v_letters v_afterLetter 1 1 0 FU v_pbits 0 o16 h_o16 (fun H locs ls I hl => ?_) _ _ _ I (lv_sub hl [5, 4, 2, 1, 0] rfl)
              refine lv_aload_n hx hb dX1_continues_136 rfl (lv_at hl 0 rfl) ?_
              refine lv_dup hx hb dX1_continues_137 rfl ?_
              refine gX_P_letters C inm1_continues_X1 hK I.1 fl1_continues_25 dX1_continues_138 ?_
              refine lv_iload hx hb dX1_continues_141 (lv_at hl 2 rfl) ?_
              refine lv_iadd hx hb dX1_continues_143 ?_
              refine pX_P_letters C inm1_continues_X1 hK hD I fl1_continues_25 dX1_continues_144 (fun H locs I => ?_)
              refine lv_aload_n hx hb dX1_continues_147 rfl (lv_at hl 0 rfl) ?_
              refine lv_iload_n hx hb dX1_continues_148 rfl (lv_at hl 1 rfl) ?_
              refine pX_P_afterLetter C inm1_continues_X1 hK hD I fl1_continues_28 (Or.inr rfl) dX1_continues_149 (fun H locs I => ?_)
              refine lv_iconst (v := 1) hx hb dX1_continues_152 rfl ?_
              cases hrun
              exact rE_i C hr hlk hQ I (nb01 (Or.inr rfl)) rfl dX1_continues_153
            · have hrun := p_pos hrun c15
              refine lv_iconst (v := 1) hx hb dX1_continues_91 rfl ?_
              refine lv_goto (tgt := 105) hx hb dX1_continues_92 rfl ?_
              refine lv_istore (lv' := [(5, .int 1), (4, .int 1), (3, .int 0), (2, .int 1), (0, .ref (ad 1)), (1, .int x1)]) hx hb dX1_continues_105 hl (by decide) rfl (fun ls hl => ?_)
              refine lv_iconst (v := 0) hx hb dX1_continues_107 rfl ?_
              refine lv_istore (lv' := [(6, .int 0), (5, .int 1), (4, .int 1), (3, .int 0), (2, .int 1), (0, .ref (ad 1)), (1, .int x1)]) hx hb dX1_continues_108 hl (by decide) rfl (fun ls hl => ?_)
              obtain ⟨o17, h_o17, hrun⟩ := p_bnd hrun
              refine loop_110 v_letters v_afterLetter 1 1 1 FU v_pbits 0 o17 h_o17 (fun H locs ls I hl => ?_) _ _ _ I (lv_sub hl [5, 4, 2, 1, 0] rfl)
              refine lv_aload_n hx hb dX1_continues_136 rfl (lv_at hl 0 rfl) ?_
              refine lv_dup hx hb dX1_continues_137 rfl ?_
              refine gX_P_letters C inm1_continues_X1 hK I.1 fl1_continues_25 dX1_continues_138 ?_
              refine lv_iload hx hb dX1_continues_141 (lv_at hl 2 rfl) ?_
              refine lv_iadd hx hb dX1_continues_143 ?_
              refine pX_P_letters C inm1_continues_X1 hK hD I fl1_continues_25 dX1_continues_144 (fun H locs I => ?_)
              refine lv_aload_n hx hb dX1_continues_147 rfl (lv_at hl 0 rfl) ?_
              refine lv_iload_n hx hb dX1_continues_148 rfl (lv_at hl 1 rfl) ?_
              refine pX_P_afterLetter C inm1_continues_X1 hK hD I fl1_continues_28 (Or.inr rfl) dX1_continues_149 (fun H locs I => ?_)
              refine lv_iconst (v := 1) hx hb dX1_continues_152 rfl ?_
              cases hrun
              exact rE_i C hr hlk hQ I (nb01 (Or.inr rfl)) rfl dX1_continues_153
          · have hrun := p_neg hrun c14
            refine lv_iconst (v := 0) hx hb dX1_continues_79 rfl ?_
            cases hrun
            exact rE_i C hr hlk hQ I (nb01 (Or.inl rfl)) rfl dX1_continues_80
        · have hrun := p_neg hrun c13
          refine lv_iconst (v := 1) hx hb dX1_continues_37 rfl ?_
          refine lv_goto (tgt := 42) hx hb dX1_continues_38 rfl ?_
          refine lv_istore_n (lv' := [(3, .int 1), (2, .int 1), (0, .ref (ad 1)), (1, .int x1)]) hx hb dX1_continues_42 rfl hl (by decide) rfl (fun ls hl => ?_)
          refine lv_iload_n hx hb dX1_continues_43 rfl (lv_at hl 1 rfl) ?_
          refine lv_if_ne (tgt := 53) hx hb dX1_continues_44 rfl (fun _ => ?_) (fun c => absurd c (by decide))
          refine lv_iload_n hx hb dX1_continues_53 rfl (lv_at hl 1 rfl) ?_
          refine lv_if_eq (tgt := 61) hx hb dX1_continues_54 rfl (fun c => absurd c (by decide)) (fun _ => ?_)
          refine lv_iconst (v := 1) hx hb dX1_continues_57 rfl ?_
          refine lv_goto (tgt := 65) hx hb dX1_continues_58 rfl ?_
          refine lv_istore (lv' := [(4, .int 1), (3, .int 1), (2, .int 1), (0, .ref (ad 1)), (1, .int x1)]) hx hb dX1_continues_65 hl (by decide) rfl (fun ls hl => ?_)
          refine lv_aload_n hx hb dX1_continues_67 rfl (lv_at hl 3 rfl) ?_
          refine gX_P_letters C inm1_continues_X1 hK I.1 fl1_continues_25 dX1_continues_68 ?_
          refine lv_iload hx hb dX1_continues_71 (lv_at hl 0 rfl) ?_
          refine lv_iadd hx hb dX1_continues_73 ?_
          refine lv_bipush (v := 20) hx hb dX1_continues_74 rfl ?_
          refine lv_icmp_le (tgt := 81) hx hb dX1_continues_76 rfl (fun c18 => ?_) (fun c18 => ?_)
          · have hrun := p_pos hrun c18
            refine lv_iload_n hx hb dX1_continues_81 rfl (lv_at hl 2 rfl) ?_
            refine lv_if_eq (tgt := 99) hx hb dX1_continues_82 rfl (fun c => absurd c (by decide)) (fun _ => ?_)
            refine lv_iload_n hx hb dX1_continues_85 rfl (lv_at hl 4 rfl) ?_
            refine lv_bipush (v := 82) hx hb dX1_continues_86 rfl ?_
            refine lv_icmp_ne (tgt := 95) hx hb dX1_continues_88 rfl (fun c19 => ?_) (fun c19 => ?_)
            · have hrun := p_neg hrun c19
              refine lv_iconst (v := 0) hx hb dX1_continues_95 rfl ?_
              refine lv_goto (tgt := 105) hx hb dX1_continues_96 rfl ?_
              refine lv_istore (lv' := [(5, .int 0), (4, .int 1), (3, .int 1), (2, .int 1), (0, .ref (ad 1)), (1, .int x1)]) hx hb dX1_continues_105 hl (by decide) rfl (fun ls hl => ?_)
              refine lv_iconst (v := 0) hx hb dX1_continues_107 rfl ?_
              refine lv_istore (lv' := [(6, .int 0), (5, .int 0), (4, .int 1), (3, .int 1), (2, .int 1), (0, .ref (ad 1)), (1, .int x1)]) hx hb dX1_continues_108 hl (by decide) rfl (fun ls hl => ?_)
              obtain ⟨o20, h_o20, hrun⟩ := p_bnd hrun
              refine loop_110 v_letters v_afterLetter 1 1 0 FU v_pbits 0 o20 h_o20 (fun H locs ls I hl => ?_) _ _ _ I (lv_sub hl [5, 4, 2, 1, 0] rfl)
              refine lv_aload_n hx hb dX1_continues_136 rfl (lv_at hl 0 rfl) ?_
              refine lv_dup hx hb dX1_continues_137 rfl ?_
              refine gX_P_letters C inm1_continues_X1 hK I.1 fl1_continues_25 dX1_continues_138 ?_
              refine lv_iload hx hb dX1_continues_141 (lv_at hl 2 rfl) ?_
              refine lv_iadd hx hb dX1_continues_143 ?_
              refine pX_P_letters C inm1_continues_X1 hK hD I fl1_continues_25 dX1_continues_144 (fun H locs I => ?_)
              refine lv_aload_n hx hb dX1_continues_147 rfl (lv_at hl 0 rfl) ?_
              refine lv_iload_n hx hb dX1_continues_148 rfl (lv_at hl 1 rfl) ?_
              refine pX_P_afterLetter C inm1_continues_X1 hK hD I fl1_continues_28 (Or.inr rfl) dX1_continues_149 (fun H locs I => ?_)
              refine lv_iconst (v := 1) hx hb dX1_continues_152 rfl ?_
              cases hrun
              exact rE_i C hr hlk hQ I (nb01 (Or.inr rfl)) rfl dX1_continues_153
            · have hrun := p_pos hrun c19
              refine lv_iconst (v := 1) hx hb dX1_continues_91 rfl ?_
              refine lv_goto (tgt := 105) hx hb dX1_continues_92 rfl ?_
              refine lv_istore (lv' := [(5, .int 1), (4, .int 1), (3, .int 1), (2, .int 1), (0, .ref (ad 1)), (1, .int x1)]) hx hb dX1_continues_105 hl (by decide) rfl (fun ls hl => ?_)
              refine lv_iconst (v := 0) hx hb dX1_continues_107 rfl ?_
              refine lv_istore (lv' := [(6, .int 0), (5, .int 1), (4, .int 1), (3, .int 1), (2, .int 1), (0, .ref (ad 1)), (1, .int x1)]) hx hb dX1_continues_108 hl (by decide) rfl (fun ls hl => ?_)
              obtain ⟨o21, h_o21, hrun⟩ := p_bnd hrun
              refine loop_110 v_letters v_afterLetter 1 1 1 FU v_pbits 0 o21 h_o21 (fun H locs ls I hl => ?_) _ _ _ I (lv_sub hl [5, 4, 2, 1, 0] rfl)
              refine lv_aload_n hx hb dX1_continues_136 rfl (lv_at hl 0 rfl) ?_
              refine lv_dup hx hb dX1_continues_137 rfl ?_
              refine gX_P_letters C inm1_continues_X1 hK I.1 fl1_continues_25 dX1_continues_138 ?_
              refine lv_iload hx hb dX1_continues_141 (lv_at hl 2 rfl) ?_
              refine lv_iadd hx hb dX1_continues_143 ?_
              refine pX_P_letters C inm1_continues_X1 hK hD I fl1_continues_25 dX1_continues_144 (fun H locs I => ?_)
              refine lv_aload_n hx hb dX1_continues_147 rfl (lv_at hl 0 rfl) ?_
              refine lv_iload_n hx hb dX1_continues_148 rfl (lv_at hl 1 rfl) ?_
              refine pX_P_afterLetter C inm1_continues_X1 hK hD I fl1_continues_28 (Or.inr rfl) dX1_continues_149 (fun H locs I => ?_)
              refine lv_iconst (v := 1) hx hb dX1_continues_152 rfl ?_
              cases hrun
              exact rE_i C hr hlk hQ I (nb01 (Or.inr rfl)) rfl dX1_continues_153
          · have hrun := p_neg hrun c18
            refine lv_iconst (v := 0) hx hb dX1_continues_79 rfl ?_
            cases hrun
            exact rE_i C hr hlk hQ I (nb01 (Or.inl rfl)) rfl dX1_continues_80
  · have hrun := p_neg hrun c1
    refine lv_iload_n hx hb dX1_continues_6 rfl (lv_at hl 1 rfl) ?_
    refine lv_bipush (v := 82) hx hb dX1_continues_7 rfl ?_
    refine lv_icmp_ne (tgt := 16) hx hb dX1_continues_9 rfl (fun c22 => ?_) (fun c22 => ?_)
    · have hrun := p_neg hrun c22
      refine lv_iconst (v := 0) hx hb dX1_continues_16 rfl ?_
      refine lv_istore_n (lv' := [(2, .int 0), (0, .ref (ad 1)), (1, .int x1)]) hx hb dX1_continues_17 rfl hl (by decide) rfl (fun ls hl => ?_)
      refine lv_aload_n hx hb dX1_continues_18 rfl (lv_at hl 1 rfl) ?_
      refine gX_P_afterLetter C inm1_continues_X1 hK I.1 fl1_continues_28 dX1_continues_19 ?_
      refine lv_if_eq (tgt := 41) hx hb dX1_continues_22 rfl (fun c23 => ?_) (fun c23 => ?_)
      · have hrun := p_pos hrun c23
        refine lv_iconst (v := 0) hx hb dX1_continues_41 rfl ?_
        refine lv_istore_n (lv' := [(3, .int 0), (2, .int 0), (0, .ref (ad 1)), (1, .int x1)]) hx hb dX1_continues_42 rfl hl (by decide) rfl (fun ls hl => ?_)
        refine lv_iload_n hx hb dX1_continues_43 rfl (lv_at hl 1 rfl) ?_
        refine lv_if_ne (tgt := 53) hx hb dX1_continues_44 rfl (fun c => absurd rfl c) (fun _ => ?_)
        refine lv_iload_n hx hb dX1_continues_47 rfl (lv_at hl 0 rfl) ?_
        refine lv_if_ne (tgt := 53) hx hb dX1_continues_48 rfl (fun c => absurd rfl c) (fun _ => ?_)
        refine lv_iconst (v := 0) hx hb dX1_continues_51 rfl ?_
        cases hrun
        exact rE_i C hr hlk hQ I (nb01 (Or.inl rfl)) rfl dX1_continues_52
      · have hrun := p_neg hrun c23
        refine lv_iload_n hx hb dX1_continues_25 rfl (lv_at hl 2 rfl) ?_
        refine lv_bipush (v := 50) hx hb dX1_continues_26 rfl ?_
        refine lv_icmp_lt (tgt := 41) hx hb dX1_continues_28 rfl (fun c24 => ?_) (fun c24 => ?_)
        · have hrun := p_pos hrun c24
          refine lv_iconst (v := 0) hx hb dX1_continues_41 rfl ?_
          refine lv_istore_n (lv' := [(3, .int 0), (2, .int 0), (0, .ref (ad 1)), (1, .int x1)]) hx hb dX1_continues_42 rfl hl (by decide) rfl (fun ls hl => ?_)
          refine lv_iload_n hx hb dX1_continues_43 rfl (lv_at hl 1 rfl) ?_
          refine lv_if_ne (tgt := 53) hx hb dX1_continues_44 rfl (fun c => absurd rfl c) (fun _ => ?_)
          refine lv_iload_n hx hb dX1_continues_47 rfl (lv_at hl 0 rfl) ?_
          refine lv_if_ne (tgt := 53) hx hb dX1_continues_48 rfl (fun c => absurd rfl c) (fun _ => ?_)
          refine lv_iconst (v := 0) hx hb dX1_continues_51 rfl ?_
          cases hrun
          exact rE_i C hr hlk hQ I (nb01 (Or.inl rfl)) rfl dX1_continues_52
        · have hrun := p_neg hrun c24
          refine lv_iload_n hx hb dX1_continues_31 rfl (lv_at hl 2 rfl) ?_
          refine lv_bipush (v := 57) hx hb dX1_continues_32 rfl ?_
          refine lv_icmp_gt (tgt := 41) hx hb dX1_continues_34 rfl (fun c25 => ?_) (fun c25 => ?_)
          · have hrun := p_pos hrun c25
            refine lv_iconst (v := 0) hx hb dX1_continues_41 rfl ?_
            refine lv_istore_n (lv' := [(3, .int 0), (2, .int 0), (0, .ref (ad 1)), (1, .int x1)]) hx hb dX1_continues_42 rfl hl (by decide) rfl (fun ls hl => ?_)
            refine lv_iload_n hx hb dX1_continues_43 rfl (lv_at hl 1 rfl) ?_
            refine lv_if_ne (tgt := 53) hx hb dX1_continues_44 rfl (fun c => absurd rfl c) (fun _ => ?_)
            refine lv_iload_n hx hb dX1_continues_47 rfl (lv_at hl 0 rfl) ?_
            refine lv_if_ne (tgt := 53) hx hb dX1_continues_48 rfl (fun c => absurd rfl c) (fun _ => ?_)
            refine lv_iconst (v := 0) hx hb dX1_continues_51 rfl ?_
            cases hrun
            exact rE_i C hr hlk hQ I (nb01 (Or.inl rfl)) rfl dX1_continues_52
          · have hrun := p_neg hrun c25
            refine lv_iconst (v := 1) hx hb dX1_continues_37 rfl ?_
            refine lv_goto (tgt := 42) hx hb dX1_continues_38 rfl ?_
            refine lv_istore_n (lv' := [(3, .int 1), (2, .int 0), (0, .ref (ad 1)), (1, .int x1)]) hx hb dX1_continues_42 rfl hl (by decide) rfl (fun ls hl => ?_)
            refine lv_iload_n hx hb dX1_continues_43 rfl (lv_at hl 1 rfl) ?_
            refine lv_if_ne (tgt := 53) hx hb dX1_continues_44 rfl (fun c => absurd rfl c) (fun _ => ?_)
            refine lv_iload_n hx hb dX1_continues_47 rfl (lv_at hl 0 rfl) ?_
            refine lv_if_ne (tgt := 53) hx hb dX1_continues_48 rfl (fun _ => ?_) (fun c => absurd c (by decide))
            refine lv_iload_n hx hb dX1_continues_53 rfl (lv_at hl 1 rfl) ?_
            refine lv_if_eq (tgt := 61) hx hb dX1_continues_54 rfl (fun _ => ?_) (fun c => absurd (by decide) c)
            refine lv_iload_n hx hb dX1_continues_61 rfl (lv_at hl 3 rfl) ?_
            refine lv_bipush (v := 49) hx hb dX1_continues_62 rfl ?_
            refine lv_isub hx hb dX1_continues_64 ?_
            refine lv_istore (lv' := [(4, .int (x1 - 49)), (3, .int 1), (2, .int 0), (0, .ref (ad 1)), (1, .int x1)]) hx hb dX1_continues_65 hl (by decide) rfl (fun ls hl => ?_)
            refine lv_aload_n hx hb dX1_continues_67 rfl (lv_at hl 3 rfl) ?_
            refine gX_P_letters C inm1_continues_X1 hK I.1 fl1_continues_25 dX1_continues_68 ?_
            refine lv_iload hx hb dX1_continues_71 (lv_at hl 0 rfl) ?_
            refine lv_iadd hx hb dX1_continues_73 ?_
            refine lv_bipush (v := 20) hx hb dX1_continues_74 rfl ?_
            refine lv_icmp_le (tgt := 81) hx hb dX1_continues_76 rfl (fun c26 => ?_) (fun c26 => ?_)
            · have hrun := p_pos hrun c26
              refine lv_iload_n hx hb dX1_continues_81 rfl (lv_at hl 2 rfl) ?_
              refine lv_if_eq (tgt := 99) hx hb dX1_continues_82 rfl (fun _ => ?_) (fun c => absurd (by decide) c)
              refine lv_aload_n hx hb dX1_continues_99 rfl (lv_at hl 3 rfl) ?_
              refine gX_P_bits C inm1_continues_X1 hK I.1 fl1_continues_22 dX1_continues_100 ?_
              refine lv_iconst (v := 1) hx hb dX1_continues_103 rfl ?_
              refine lv_iand hx hb dX1_continues_104 ?_
              refine lv_istore (lv' := [(5, .int (v_pbits &&& 1)), (4, .int (x1 - 49)), (3, .int 1), (2, .int 0), (0, .ref (ad 1)), (1, .int x1)]) hx hb dX1_continues_105 hl (by decide) rfl (fun ls hl => ?_)
              refine lv_iconst (v := 0) hx hb dX1_continues_107 rfl ?_
              refine lv_istore (lv' := [(6, .int 0), (5, .int (v_pbits &&& 1)), (4, .int (x1 - 49)), (3, .int 1), (2, .int 0), (0, .ref (ad 1)), (1, .int x1)]) hx hb dX1_continues_108 hl (by decide) rfl (fun ls hl => ?_)
              obtain ⟨o27, h_o27, hrun⟩ := p_bnd hrun
              refine loop_110 v_letters v_afterLetter 0 (x1 - 49) (v_pbits &&& 1) FU v_pbits 0 o27 h_o27 (fun H locs ls I hl => ?_) _ _ _ I (lv_sub hl [5, 4, 2, 1, 0] rfl)
              refine lv_aload_n hx hb dX1_continues_136 rfl (lv_at hl 0 rfl) ?_
              refine lv_dup hx hb dX1_continues_137 rfl ?_
              refine gX_P_letters C inm1_continues_X1 hK I.1 fl1_continues_25 dX1_continues_138 ?_
              refine lv_iload hx hb dX1_continues_141 (lv_at hl 2 rfl) ?_
              refine lv_iadd hx hb dX1_continues_143 ?_
              refine pX_P_letters C inm1_continues_X1 hK hD I fl1_continues_25 dX1_continues_144 (fun H locs I => ?_)
              refine lv_aload_n hx hb dX1_continues_147 rfl (lv_at hl 0 rfl) ?_
              refine lv_iload_n hx hb dX1_continues_148 rfl (lv_at hl 1 rfl) ?_
              refine pX_P_afterLetter C inm1_continues_X1 hK hD I fl1_continues_28 (Or.inl rfl) dX1_continues_149 (fun H locs I => ?_)
              refine lv_iconst (v := 1) hx hb dX1_continues_152 rfl ?_
              cases hrun
              exact rE_i C hr hlk hQ I (nb01 (Or.inr rfl)) rfl dX1_continues_153
            · have hrun := p_neg hrun c26
              refine lv_iconst (v := 0) hx hb dX1_continues_79 rfl ?_
              cases hrun
              exact rE_i C hr hlk hQ I (nb01 (Or.inl rfl)) rfl dX1_continues_80
    · have hrun := p_pos hrun c22
      refine lv_iconst (v := 1) hx hb dX1_continues_12 rfl ?_
      refine lv_goto (tgt := 17) hx hb dX1_continues_13 rfl ?_
      refine lv_istore_n (lv' := [(2, .int 1), (0, .ref (ad 1)), (1, .int x1)]) hx hb dX1_continues_17 rfl hl (by decide) rfl (fun ls hl => ?_)
      refine lv_aload_n hx hb dX1_continues_18 rfl (lv_at hl 1 rfl) ?_
      refine gX_P_afterLetter C inm1_continues_X1 hK I.1 fl1_continues_28 dX1_continues_19 ?_
      refine lv_if_eq (tgt := 41) hx hb dX1_continues_22 rfl (fun c28 => ?_) (fun c28 => ?_)
      · have hrun := p_pos hrun c28
        refine lv_iconst (v := 0) hx hb dX1_continues_41 rfl ?_
        refine lv_istore_n (lv' := [(3, .int 0), (2, .int 1), (0, .ref (ad 1)), (1, .int x1)]) hx hb dX1_continues_42 rfl hl (by decide) rfl (fun ls hl => ?_)
        refine lv_iload_n hx hb dX1_continues_43 rfl (lv_at hl 1 rfl) ?_
        refine lv_if_ne (tgt := 53) hx hb dX1_continues_44 rfl (fun _ => ?_) (fun c => absurd c (by decide))
        refine lv_iload_n hx hb dX1_continues_53 rfl (lv_at hl 1 rfl) ?_
        refine lv_if_eq (tgt := 61) hx hb dX1_continues_54 rfl (fun c => absurd c (by decide)) (fun _ => ?_)
        refine lv_iconst (v := 1) hx hb dX1_continues_57 rfl ?_
        refine lv_goto (tgt := 65) hx hb dX1_continues_58 rfl ?_
        refine lv_istore (lv' := [(4, .int 1), (3, .int 0), (2, .int 1), (0, .ref (ad 1)), (1, .int x1)]) hx hb dX1_continues_65 hl (by decide) rfl (fun ls hl => ?_)
        refine lv_aload_n hx hb dX1_continues_67 rfl (lv_at hl 3 rfl) ?_
        refine gX_P_letters C inm1_continues_X1 hK I.1 fl1_continues_25 dX1_continues_68 ?_
        refine lv_iload hx hb dX1_continues_71 (lv_at hl 0 rfl) ?_
        refine lv_iadd hx hb dX1_continues_73 ?_
        refine lv_bipush (v := 20) hx hb dX1_continues_74 rfl ?_
        refine lv_icmp_le (tgt := 81) hx hb dX1_continues_76 rfl (fun c29 => ?_) (fun c29 => ?_)
        · have hrun := p_pos hrun c29
          refine lv_iload_n hx hb dX1_continues_81 rfl (lv_at hl 2 rfl) ?_
          refine lv_if_eq (tgt := 99) hx hb dX1_continues_82 rfl (fun c => absurd c (by decide)) (fun _ => ?_)
          refine lv_iload_n hx hb dX1_continues_85 rfl (lv_at hl 4 rfl) ?_
          refine lv_bipush (v := 82) hx hb dX1_continues_86 rfl ?_
          refine lv_icmp_ne (tgt := 95) hx hb dX1_continues_88 rfl (fun c30 => ?_) (fun c30 => ?_)
          · have hrun := p_neg hrun c30
            refine lv_iconst (v := 0) hx hb dX1_continues_95 rfl ?_
            refine lv_goto (tgt := 105) hx hb dX1_continues_96 rfl ?_
            refine lv_istore (lv' := [(5, .int 0), (4, .int 1), (3, .int 0), (2, .int 1), (0, .ref (ad 1)), (1, .int x1)]) hx hb dX1_continues_105 hl (by decide) rfl (fun ls hl => ?_)
            refine lv_iconst (v := 0) hx hb dX1_continues_107 rfl ?_
            refine lv_istore (lv' := [(6, .int 0), (5, .int 0), (4, .int 1), (3, .int 0), (2, .int 1), (0, .ref (ad 1)), (1, .int x1)]) hx hb dX1_continues_108 hl (by decide) rfl (fun ls hl => ?_)
            obtain ⟨o31, h_o31, hrun⟩ := p_bnd hrun
            refine loop_110 v_letters v_afterLetter 1 1 0 FU v_pbits 0 o31 h_o31 (fun H locs ls I hl => ?_) _ _ _ I (lv_sub hl [5, 4, 2, 1, 0] rfl)
            refine lv_aload_n hx hb dX1_continues_136 rfl (lv_at hl 0 rfl) ?_
            refine lv_dup hx hb dX1_continues_137 rfl ?_
            refine gX_P_letters C inm1_continues_X1 hK I.1 fl1_continues_25 dX1_continues_138 ?_
            refine lv_iload hx hb dX1_continues_141 (lv_at hl 2 rfl) ?_
            refine lv_iadd hx hb dX1_continues_143 ?_
            refine pX_P_letters C inm1_continues_X1 hK hD I fl1_continues_25 dX1_continues_144 (fun H locs I => ?_)
            refine lv_aload_n hx hb dX1_continues_147 rfl (lv_at hl 0 rfl) ?_
            refine lv_iload_n hx hb dX1_continues_148 rfl (lv_at hl 1 rfl) ?_
            refine pX_P_afterLetter C inm1_continues_X1 hK hD I fl1_continues_28 (Or.inr rfl) dX1_continues_149 (fun H locs I => ?_)
            refine lv_iconst (v := 1) hx hb dX1_continues_152 rfl ?_
            cases hrun
            exact rE_i C hr hlk hQ I (nb01 (Or.inr rfl)) rfl dX1_continues_153
          · have hrun := p_pos hrun c30
            refine lv_iconst (v := 1) hx hb dX1_continues_91 rfl ?_
            refine lv_goto (tgt := 105) hx hb dX1_continues_92 rfl ?_
            refine lv_istore (lv' := [(5, .int 1), (4, .int 1), (3, .int 0), (2, .int 1), (0, .ref (ad 1)), (1, .int x1)]) hx hb dX1_continues_105 hl (by decide) rfl (fun ls hl => ?_)
            refine lv_iconst (v := 0) hx hb dX1_continues_107 rfl ?_
            refine lv_istore (lv' := [(6, .int 0), (5, .int 1), (4, .int 1), (3, .int 0), (2, .int 1), (0, .ref (ad 1)), (1, .int x1)]) hx hb dX1_continues_108 hl (by decide) rfl (fun ls hl => ?_)
            obtain ⟨o32, h_o32, hrun⟩ := p_bnd hrun
            refine loop_110 v_letters v_afterLetter 1 1 1 FU v_pbits 0 o32 h_o32 (fun H locs ls I hl => ?_) _ _ _ I (lv_sub hl [5, 4, 2, 1, 0] rfl)
            refine lv_aload_n hx hb dX1_continues_136 rfl (lv_at hl 0 rfl) ?_
            refine lv_dup hx hb dX1_continues_137 rfl ?_
            refine gX_P_letters C inm1_continues_X1 hK I.1 fl1_continues_25 dX1_continues_138 ?_
            refine lv_iload hx hb dX1_continues_141 (lv_at hl 2 rfl) ?_
            refine lv_iadd hx hb dX1_continues_143 ?_
            refine pX_P_letters C inm1_continues_X1 hK hD I fl1_continues_25 dX1_continues_144 (fun H locs I => ?_)
            refine lv_aload_n hx hb dX1_continues_147 rfl (lv_at hl 0 rfl) ?_
            refine lv_iload_n hx hb dX1_continues_148 rfl (lv_at hl 1 rfl) ?_
            refine pX_P_afterLetter C inm1_continues_X1 hK hD I fl1_continues_28 (Or.inr rfl) dX1_continues_149 (fun H locs I => ?_)
            refine lv_iconst (v := 1) hx hb dX1_continues_152 rfl ?_
            cases hrun
            exact rE_i C hr hlk hQ I (nb01 (Or.inr rfl)) rfl dX1_continues_153
        · have hrun := p_neg hrun c29
          refine lv_iconst (v := 0) hx hb dX1_continues_79 rfl ?_
          cases hrun
          exact rE_i C hr hlk hQ I (nb01 (Or.inl rfl)) rfl dX1_continues_80
      · have hrun := p_neg hrun c28
        refine lv_iload_n hx hb dX1_continues_25 rfl (lv_at hl 2 rfl) ?_
        refine lv_bipush (v := 50) hx hb dX1_continues_26 rfl ?_
        refine lv_icmp_lt (tgt := 41) hx hb dX1_continues_28 rfl (fun c33 => ?_) (fun c33 => ?_)
        · have hrun := p_pos hrun c33
          refine lv_iconst (v := 0) hx hb dX1_continues_41 rfl ?_
          refine lv_istore_n (lv' := [(3, .int 0), (2, .int 1), (0, .ref (ad 1)), (1, .int x1)]) hx hb dX1_continues_42 rfl hl (by decide) rfl (fun ls hl => ?_)
          refine lv_iload_n hx hb dX1_continues_43 rfl (lv_at hl 1 rfl) ?_
          refine lv_if_ne (tgt := 53) hx hb dX1_continues_44 rfl (fun _ => ?_) (fun c => absurd c (by decide))
          refine lv_iload_n hx hb dX1_continues_53 rfl (lv_at hl 1 rfl) ?_
          refine lv_if_eq (tgt := 61) hx hb dX1_continues_54 rfl (fun c => absurd c (by decide)) (fun _ => ?_)
          refine lv_iconst (v := 1) hx hb dX1_continues_57 rfl ?_
          refine lv_goto (tgt := 65) hx hb dX1_continues_58 rfl ?_
          refine lv_istore (lv' := [(4, .int 1), (3, .int 0), (2, .int 1), (0, .ref (ad 1)), (1, .int x1)]) hx hb dX1_continues_65 hl (by decide) rfl (fun ls hl => ?_)
          refine lv_aload_n hx hb dX1_continues_67 rfl (lv_at hl 3 rfl) ?_
          refine gX_P_letters C inm1_continues_X1 hK I.1 fl1_continues_25 dX1_continues_68 ?_
          refine lv_iload hx hb dX1_continues_71 (lv_at hl 0 rfl) ?_
          refine lv_iadd hx hb dX1_continues_73 ?_
          refine lv_bipush (v := 20) hx hb dX1_continues_74 rfl ?_
          refine lv_icmp_le (tgt := 81) hx hb dX1_continues_76 rfl (fun c34 => ?_) (fun c34 => ?_)
          · have hrun := p_pos hrun c34
            refine lv_iload_n hx hb dX1_continues_81 rfl (lv_at hl 2 rfl) ?_
            refine lv_if_eq (tgt := 99) hx hb dX1_continues_82 rfl (fun c => absurd c (by decide)) (fun _ => ?_)
            refine lv_iload_n hx hb dX1_continues_85 rfl (lv_at hl 4 rfl) ?_
            refine lv_bipush (v := 82) hx hb dX1_continues_86 rfl ?_
            refine lv_icmp_ne (tgt := 95) hx hb dX1_continues_88 rfl (fun c35 => ?_) (fun c35 => ?_)
            · have hrun := p_neg hrun c35
              refine lv_iconst (v := 0) hx hb dX1_continues_95 rfl ?_
              refine lv_goto (tgt := 105) hx hb dX1_continues_96 rfl ?_
              refine lv_istore (lv' := [(5, .int 0), (4, .int 1), (3, .int 0), (2, .int 1), (0, .ref (ad 1)), (1, .int x1)]) hx hb dX1_continues_105 hl (by decide) rfl (fun ls hl => ?_)
              refine lv_iconst (v := 0) hx hb dX1_continues_107 rfl ?_
              refine lv_istore (lv' := [(6, .int 0), (5, .int 0), (4, .int 1), (3, .int 0), (2, .int 1), (0, .ref (ad 1)), (1, .int x1)]) hx hb dX1_continues_108 hl (by decide) rfl (fun ls hl => ?_)
              obtain ⟨o36, h_o36, hrun⟩ := p_bnd hrun
              refine loop_110 v_letters v_afterLetter 1 1 0 FU v_pbits 0 o36 h_o36 (fun H locs ls I hl => ?_) _ _ _ I (lv_sub hl [5, 4, 2, 1, 0] rfl)
              refine lv_aload_n hx hb dX1_continues_136 rfl (lv_at hl 0 rfl) ?_
              refine lv_dup hx hb dX1_continues_137 rfl ?_
              refine gX_P_letters C inm1_continues_X1 hK I.1 fl1_continues_25 dX1_continues_138 ?_
              refine lv_iload hx hb dX1_continues_141 (lv_at hl 2 rfl) ?_
              refine lv_iadd hx hb dX1_continues_143 ?_
              refine pX_P_letters C inm1_continues_X1 hK hD I fl1_continues_25 dX1_continues_144 (fun H locs I => ?_)
              refine lv_aload_n hx hb dX1_continues_147 rfl (lv_at hl 0 rfl) ?_
              refine lv_iload_n hx hb dX1_continues_148 rfl (lv_at hl 1 rfl) ?_
              refine pX_P_afterLetter C inm1_continues_X1 hK hD I fl1_continues_28 (Or.inr rfl) dX1_continues_149 (fun H locs I => ?_)
              refine lv_iconst (v := 1) hx hb dX1_continues_152 rfl ?_
              cases hrun
              exact rE_i C hr hlk hQ I (nb01 (Or.inr rfl)) rfl dX1_continues_153
            · have hrun := p_pos hrun c35
              refine lv_iconst (v := 1) hx hb dX1_continues_91 rfl ?_
              refine lv_goto (tgt := 105) hx hb dX1_continues_92 rfl ?_
              refine lv_istore (lv' := [(5, .int 1), (4, .int 1), (3, .int 0), (2, .int 1), (0, .ref (ad 1)), (1, .int x1)]) hx hb dX1_continues_105 hl (by decide) rfl (fun ls hl => ?_)
              refine lv_iconst (v := 0) hx hb dX1_continues_107 rfl ?_
              refine lv_istore (lv' := [(6, .int 0), (5, .int 1), (4, .int 1), (3, .int 0), (2, .int 1), (0, .ref (ad 1)), (1, .int x1)]) hx hb dX1_continues_108 hl (by decide) rfl (fun ls hl => ?_)
              obtain ⟨o37, h_o37, hrun⟩ := p_bnd hrun
              refine loop_110 v_letters v_afterLetter 1 1 1 FU v_pbits 0 o37 h_o37 (fun H locs ls I hl => ?_) _ _ _ I (lv_sub hl [5, 4, 2, 1, 0] rfl)
              refine lv_aload_n hx hb dX1_continues_136 rfl (lv_at hl 0 rfl) ?_
              refine lv_dup hx hb dX1_continues_137 rfl ?_
              refine gX_P_letters C inm1_continues_X1 hK I.1 fl1_continues_25 dX1_continues_138 ?_
              refine lv_iload hx hb dX1_continues_141 (lv_at hl 2 rfl) ?_
              refine lv_iadd hx hb dX1_continues_143 ?_
              refine pX_P_letters C inm1_continues_X1 hK hD I fl1_continues_25 dX1_continues_144 (fun H locs I => ?_)
              refine lv_aload_n hx hb dX1_continues_147 rfl (lv_at hl 0 rfl) ?_
              refine lv_iload_n hx hb dX1_continues_148 rfl (lv_at hl 1 rfl) ?_
              refine pX_P_afterLetter C inm1_continues_X1 hK hD I fl1_continues_28 (Or.inr rfl) dX1_continues_149 (fun H locs I => ?_)
              refine lv_iconst (v := 1) hx hb dX1_continues_152 rfl ?_
              cases hrun
              exact rE_i C hr hlk hQ I (nb01 (Or.inr rfl)) rfl dX1_continues_153
          · have hrun := p_neg hrun c34
            refine lv_iconst (v := 0) hx hb dX1_continues_79 rfl ?_
            cases hrun
            exact rE_i C hr hlk hQ I (nb01 (Or.inl rfl)) rfl dX1_continues_80
        · have hrun := p_neg hrun c33
          refine lv_iload_n hx hb dX1_continues_31 rfl (lv_at hl 2 rfl) ?_
          refine lv_bipush (v := 57) hx hb dX1_continues_32 rfl ?_
          refine lv_icmp_gt (tgt := 41) hx hb dX1_continues_34 rfl (fun c38 => ?_) (fun c38 => ?_)
          · have hrun := p_pos hrun c38
            refine lv_iconst (v := 0) hx hb dX1_continues_41 rfl ?_
            refine lv_istore_n (lv' := [(3, .int 0), (2, .int 1), (0, .ref (ad 1)), (1, .int x1)]) hx hb dX1_continues_42 rfl hl (by decide) rfl (fun ls hl => ?_)
            refine lv_iload_n hx hb dX1_continues_43 rfl (lv_at hl 1 rfl) ?_
            refine lv_if_ne (tgt := 53) hx hb dX1_continues_44 rfl (fun _ => ?_) (fun c => absurd c (by decide))
            refine lv_iload_n hx hb dX1_continues_53 rfl (lv_at hl 1 rfl) ?_
            refine lv_if_eq (tgt := 61) hx hb dX1_continues_54 rfl (fun c => absurd c (by decide)) (fun _ => ?_)
            refine lv_iconst (v := 1) hx hb dX1_continues_57 rfl ?_
            refine lv_goto (tgt := 65) hx hb dX1_continues_58 rfl ?_
            refine lv_istore (lv' := [(4, .int 1), (3, .int 0), (2, .int 1), (0, .ref (ad 1)), (1, .int x1)]) hx hb dX1_continues_65 hl (by decide) rfl (fun ls hl => ?_)
            refine lv_aload_n hx hb dX1_continues_67 rfl (lv_at hl 3 rfl) ?_
            refine gX_P_letters C inm1_continues_X1 hK I.1 fl1_continues_25 dX1_continues_68 ?_
            refine lv_iload hx hb dX1_continues_71 (lv_at hl 0 rfl) ?_
            refine lv_iadd hx hb dX1_continues_73 ?_
            refine lv_bipush (v := 20) hx hb dX1_continues_74 rfl ?_
            refine lv_icmp_le (tgt := 81) hx hb dX1_continues_76 rfl (fun c39 => ?_) (fun c39 => ?_)
            · have hrun := p_pos hrun c39
              refine lv_iload_n hx hb dX1_continues_81 rfl (lv_at hl 2 rfl) ?_
              refine lv_if_eq (tgt := 99) hx hb dX1_continues_82 rfl (fun c => absurd c (by decide)) (fun _ => ?_)
              refine lv_iload_n hx hb dX1_continues_85 rfl (lv_at hl 4 rfl) ?_
              refine lv_bipush (v := 82) hx hb dX1_continues_86 rfl ?_
              refine lv_icmp_ne (tgt := 95) hx hb dX1_continues_88 rfl (fun c40 => ?_) (fun c40 => ?_)
              · have hrun := p_neg hrun c40
                refine lv_iconst (v := 0) hx hb dX1_continues_95 rfl ?_
                refine lv_goto (tgt := 105) hx hb dX1_continues_96 rfl ?_
                refine lv_istore (lv' := [(5, .int 0), (4, .int 1), (3, .int 0), (2, .int 1), (0, .ref (ad 1)), (1, .int x1)]) hx hb dX1_continues_105 hl (by decide) rfl (fun ls hl => ?_)
                refine lv_iconst (v := 0) hx hb dX1_continues_107 rfl ?_
                refine lv_istore (lv' := [(6, .int 0), (5, .int 0), (4, .int 1), (3, .int 0), (2, .int 1), (0, .ref (ad 1)), (1, .int x1)]) hx hb dX1_continues_108 hl (by decide) rfl (fun ls hl => ?_)
                obtain ⟨o41, h_o41, hrun⟩ := p_bnd hrun
                refine loop_110 v_letters v_afterLetter 1 1 0 FU v_pbits 0 o41 h_o41 (fun H locs ls I hl => ?_) _ _ _ I (lv_sub hl [5, 4, 2, 1, 0] rfl)
                refine lv_aload_n hx hb dX1_continues_136 rfl (lv_at hl 0 rfl) ?_
                refine lv_dup hx hb dX1_continues_137 rfl ?_
                refine gX_P_letters C inm1_continues_X1 hK I.1 fl1_continues_25 dX1_continues_138 ?_
                refine lv_iload hx hb dX1_continues_141 (lv_at hl 2 rfl) ?_
                refine lv_iadd hx hb dX1_continues_143 ?_
                refine pX_P_letters C inm1_continues_X1 hK hD I fl1_continues_25 dX1_continues_144 (fun H locs I => ?_)
                refine lv_aload_n hx hb dX1_continues_147 rfl (lv_at hl 0 rfl) ?_
                refine lv_iload_n hx hb dX1_continues_148 rfl (lv_at hl 1 rfl) ?_
                refine pX_P_afterLetter C inm1_continues_X1 hK hD I fl1_continues_28 (Or.inr rfl) dX1_continues_149 (fun H locs I => ?_)
                refine lv_iconst (v := 1) hx hb dX1_continues_152 rfl ?_
                cases hrun
                exact rE_i C hr hlk hQ I (nb01 (Or.inr rfl)) rfl dX1_continues_153
              · have hrun := p_pos hrun c40
                refine lv_iconst (v := 1) hx hb dX1_continues_91 rfl ?_
                refine lv_goto (tgt := 105) hx hb dX1_continues_92 rfl ?_
                refine lv_istore (lv' := [(5, .int 1), (4, .int 1), (3, .int 0), (2, .int 1), (0, .ref (ad 1)), (1, .int x1)]) hx hb dX1_continues_105 hl (by decide) rfl (fun ls hl => ?_)
                refine lv_iconst (v := 0) hx hb dX1_continues_107 rfl ?_
                refine lv_istore (lv' := [(6, .int 0), (5, .int 1), (4, .int 1), (3, .int 0), (2, .int 1), (0, .ref (ad 1)), (1, .int x1)]) hx hb dX1_continues_108 hl (by decide) rfl (fun ls hl => ?_)
                obtain ⟨o42, h_o42, hrun⟩ := p_bnd hrun
                refine loop_110 v_letters v_afterLetter 1 1 1 FU v_pbits 0 o42 h_o42 (fun H locs ls I hl => ?_) _ _ _ I (lv_sub hl [5, 4, 2, 1, 0] rfl)
                refine lv_aload_n hx hb dX1_continues_136 rfl (lv_at hl 0 rfl) ?_
                refine lv_dup hx hb dX1_continues_137 rfl ?_
                refine gX_P_letters C inm1_continues_X1 hK I.1 fl1_continues_25 dX1_continues_138 ?_
                refine lv_iload hx hb dX1_continues_141 (lv_at hl 2 rfl) ?_
                refine lv_iadd hx hb dX1_continues_143 ?_
                refine pX_P_letters C inm1_continues_X1 hK hD I fl1_continues_25 dX1_continues_144 (fun H locs I => ?_)
                refine lv_aload_n hx hb dX1_continues_147 rfl (lv_at hl 0 rfl) ?_
                refine lv_iload_n hx hb dX1_continues_148 rfl (lv_at hl 1 rfl) ?_
                refine pX_P_afterLetter C inm1_continues_X1 hK hD I fl1_continues_28 (Or.inr rfl) dX1_continues_149 (fun H locs I => ?_)
                refine lv_iconst (v := 1) hx hb dX1_continues_152 rfl ?_
                cases hrun
                exact rE_i C hr hlk hQ I (nb01 (Or.inr rfl)) rfl dX1_continues_153
            · have hrun := p_neg hrun c39
              refine lv_iconst (v := 0) hx hb dX1_continues_79 rfl ?_
              cases hrun
              exact rE_i C hr hlk hQ I (nb01 (Or.inl rfl)) rfl dX1_continues_80
          · have hrun := p_neg hrun c38
            refine lv_iconst (v := 1) hx hb dX1_continues_37 rfl ?_
            refine lv_goto (tgt := 42) hx hb dX1_continues_38 rfl ?_
            refine lv_istore_n (lv' := [(3, .int 1), (2, .int 1), (0, .ref (ad 1)), (1, .int x1)]) hx hb dX1_continues_42 rfl hl (by decide) rfl (fun ls hl => ?_)
            refine lv_iload_n hx hb dX1_continues_43 rfl (lv_at hl 1 rfl) ?_
            refine lv_if_ne (tgt := 53) hx hb dX1_continues_44 rfl (fun _ => ?_) (fun c => absurd c (by decide))
            refine lv_iload_n hx hb dX1_continues_53 rfl (lv_at hl 1 rfl) ?_
            refine lv_if_eq (tgt := 61) hx hb dX1_continues_54 rfl (fun c => absurd c (by decide)) (fun _ => ?_)
            refine lv_iconst (v := 1) hx hb dX1_continues_57 rfl ?_
            refine lv_goto (tgt := 65) hx hb dX1_continues_58 rfl ?_
            refine lv_istore (lv' := [(4, .int 1), (3, .int 1), (2, .int 1), (0, .ref (ad 1)), (1, .int x1)]) hx hb dX1_continues_65 hl (by decide) rfl (fun ls hl => ?_)
            refine lv_aload_n hx hb dX1_continues_67 rfl (lv_at hl 3 rfl) ?_
            refine gX_P_letters C inm1_continues_X1 hK I.1 fl1_continues_25 dX1_continues_68 ?_
            refine lv_iload hx hb dX1_continues_71 (lv_at hl 0 rfl) ?_
            refine lv_iadd hx hb dX1_continues_73 ?_
            refine lv_bipush (v := 20) hx hb dX1_continues_74 rfl ?_
            refine lv_icmp_le (tgt := 81) hx hb dX1_continues_76 rfl (fun c43 => ?_) (fun c43 => ?_)
            · have hrun := p_pos hrun c43
              refine lv_iload_n hx hb dX1_continues_81 rfl (lv_at hl 2 rfl) ?_
              refine lv_if_eq (tgt := 99) hx hb dX1_continues_82 rfl (fun c => absurd c (by decide)) (fun _ => ?_)
              refine lv_iload_n hx hb dX1_continues_85 rfl (lv_at hl 4 rfl) ?_
              refine lv_bipush (v := 82) hx hb dX1_continues_86 rfl ?_
              refine lv_icmp_ne (tgt := 95) hx hb dX1_continues_88 rfl (fun c44 => ?_) (fun c44 => ?_)
              · have hrun := p_neg hrun c44
                refine lv_iconst (v := 0) hx hb dX1_continues_95 rfl ?_
                refine lv_goto (tgt := 105) hx hb dX1_continues_96 rfl ?_
                refine lv_istore (lv' := [(5, .int 0), (4, .int 1), (3, .int 1), (2, .int 1), (0, .ref (ad 1)), (1, .int x1)]) hx hb dX1_continues_105 hl (by decide) rfl (fun ls hl => ?_)
                refine lv_iconst (v := 0) hx hb dX1_continues_107 rfl ?_
                refine lv_istore (lv' := [(6, .int 0), (5, .int 0), (4, .int 1), (3, .int 1), (2, .int 1), (0, .ref (ad 1)), (1, .int x1)]) hx hb dX1_continues_108 hl (by decide) rfl (fun ls hl => ?_)
                obtain ⟨o45, h_o45, hrun⟩ := p_bnd hrun
                refine loop_110 v_letters v_afterLetter 1 1 0 FU v_pbits 0 o45 h_o45 (fun H locs ls I hl => ?_) _ _ _ I (lv_sub hl [5, 4, 2, 1, 0] rfl)
                refine lv_aload_n hx hb dX1_continues_136 rfl (lv_at hl 0 rfl) ?_
                refine lv_dup hx hb dX1_continues_137 rfl ?_
                refine gX_P_letters C inm1_continues_X1 hK I.1 fl1_continues_25 dX1_continues_138 ?_
                refine lv_iload hx hb dX1_continues_141 (lv_at hl 2 rfl) ?_
                refine lv_iadd hx hb dX1_continues_143 ?_
                refine pX_P_letters C inm1_continues_X1 hK hD I fl1_continues_25 dX1_continues_144 (fun H locs I => ?_)
                refine lv_aload_n hx hb dX1_continues_147 rfl (lv_at hl 0 rfl) ?_
                refine lv_iload_n hx hb dX1_continues_148 rfl (lv_at hl 1 rfl) ?_
                refine pX_P_afterLetter C inm1_continues_X1 hK hD I fl1_continues_28 (Or.inr rfl) dX1_continues_149 (fun H locs I => ?_)
                refine lv_iconst (v := 1) hx hb dX1_continues_152 rfl ?_
                cases hrun
                exact rE_i C hr hlk hQ I (nb01 (Or.inr rfl)) rfl dX1_continues_153
              · have hrun := p_pos hrun c44
                refine lv_iconst (v := 1) hx hb dX1_continues_91 rfl ?_
                refine lv_goto (tgt := 105) hx hb dX1_continues_92 rfl ?_
                refine lv_istore (lv' := [(5, .int 1), (4, .int 1), (3, .int 1), (2, .int 1), (0, .ref (ad 1)), (1, .int x1)]) hx hb dX1_continues_105 hl (by decide) rfl (fun ls hl => ?_)
                refine lv_iconst (v := 0) hx hb dX1_continues_107 rfl ?_
                refine lv_istore (lv' := [(6, .int 0), (5, .int 1), (4, .int 1), (3, .int 1), (2, .int 1), (0, .ref (ad 1)), (1, .int x1)]) hx hb dX1_continues_108 hl (by decide) rfl (fun ls hl => ?_)
                obtain ⟨o46, h_o46, hrun⟩ := p_bnd hrun
                refine loop_110 v_letters v_afterLetter 1 1 1 FU v_pbits 0 o46 h_o46 (fun H locs ls I hl => ?_) _ _ _ I (lv_sub hl [5, 4, 2, 1, 0] rfl)
                refine lv_aload_n hx hb dX1_continues_136 rfl (lv_at hl 0 rfl) ?_
                refine lv_dup hx hb dX1_continues_137 rfl ?_
                refine gX_P_letters C inm1_continues_X1 hK I.1 fl1_continues_25 dX1_continues_138 ?_
                refine lv_iload hx hb dX1_continues_141 (lv_at hl 2 rfl) ?_
                refine lv_iadd hx hb dX1_continues_143 ?_
                refine pX_P_letters C inm1_continues_X1 hK hD I fl1_continues_25 dX1_continues_144 (fun H locs I => ?_)
                refine lv_aload_n hx hb dX1_continues_147 rfl (lv_at hl 0 rfl) ?_
                refine lv_iload_n hx hb dX1_continues_148 rfl (lv_at hl 1 rfl) ?_
                refine pX_P_afterLetter C inm1_continues_X1 hK hD I fl1_continues_28 (Or.inr rfl) dX1_continues_149 (fun H locs I => ?_)
                refine lv_iconst (v := 1) hx hb dX1_continues_152 rfl ?_
                cases hrun
                exact rE_i C hr hlk hQ I (nb01 (Or.inr rfl)) rfl dX1_continues_153
            · have hrun := p_neg hrun c43
              refine lv_iconst (v := 0) hx hb dX1_continues_79 rfl ?_
              cases hrun
              exact rE_i C hr hlk hQ I (nb01 (Or.inl rfl)) rfl dX1_continues_80

end X91
