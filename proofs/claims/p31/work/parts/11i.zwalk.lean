section Z97
variable {l : Launch} {D : va_G} {sz : Nat}
variable {az ad fa ca wad : Nat → Nat} {cI cR cG : ClassId}
variable {v_roadCount v_readings v_psize v_good v_pbits v_letters v_afterLetter v_disc v_rsize v_cycleCount v_closed v_traces v_crossings v_db_bits v_db_size v_db_allBits v_db_a v_db_b v_db_c v_db_d v_dn_bits v_dn_size v_dn_allBits v_dn_a v_dn_b v_dn_c v_dn_d : Int32}
variable {v_s : Int64}
variable {v_zw v_zd v_zt v_codes : Nat → Int32}
variable {v_fo v_cy v_wv : Nat → Nat → Int32}
variable {v_wn : Nat}
abbrev rm_does : Room := { frames := 6, cells := 5, slots := 35, locals := 133 }
theorem k_does_68 : Cond.constant RL 68 (-2000000102) ∈ wsL_does := by decide +kernel
theorem k_does_84 : Cond.constant RL 84 (-2000000101) ∈ wsL_does := by decide +kernel
theorem k_does_105 : Cond.constant RL 105 (-2000000104) ∈ wsL_does := by decide +kernel
theorem hd_does : okD yL_does 6 := by decide +kernel
set_option maxHeartbeats 8000000 in
set_option maxRecDepth 100000 in
theorem c_does {x3 : Int32} {x4 : Int32} {res : Int32 × (Nat → Int32) × (Nat → Int32) × (Nat → Int32) × Int32 × Int32 × Int32 × Int32 × Int32 × Int32 × Int32 × (Nat → Int32) × Nat × (Nat → Nat → Int32)} (hrun : P_does v_zw v_zd v_zt v_roadCount v_readings v_psize v_good v_pbits v_letters v_afterLetter v_codes v_rsize v_cycleCount v_wn v_wv x3 x4 = some res) : Met l yL_does wsL_does rm_does (va_Pc [.ref (ad 0), .ref (az 0), .ref (az 1), .int x3, .int x4, .ref (az 2)] (PE D (tyX cI cR cG) sz (WZ0 az ad fa ca wad cI cR cG v_wn) (WZ az ad fa ca wad cI cR cG v_zw v_zd v_zt v_roadCount v_readings v_psize v_good v_pbits v_letters v_afterLetter v_codes v_disc v_rsize v_cycleCount v_fo v_cy v_s v_closed v_traces v_crossings v_db_bits v_db_size v_db_allBits v_db_a v_db_b v_db_c v_db_d v_dn_bits v_dn_size v_dn_allBits v_dn_a v_dn_b v_dn_c v_dn_d v_wn v_wv))) (va_Qi (fun (x : Int32) (_ : Nat → Nat) => x = res.1) (fun u t => va_P D vwCl (WZ az ad fa ca u cI cR cG res.2.1 res.2.2.1 res.2.2.2.1 res.2.2.2.2.1 res.2.2.2.2.2.1 res.2.2.2.2.2.2.1 res.2.2.2.2.2.2.2.1 res.2.2.2.2.2.2.2.2.1 res.2.2.2.2.2.2.2.2.2.1 res.2.2.2.2.2.2.2.2.2.2.1 res.2.2.2.2.2.2.2.2.2.2.2.1 v_disc v_rsize v_cycleCount v_fo v_cy v_s v_closed v_traces v_crossings v_db_bits v_db_size v_db_allBits v_db_a v_db_b v_db_c v_db_d v_dn_bits v_dn_size v_dn_allBits v_dn_a v_dn_b v_dn_c v_dn_d res.2.2.2.2.2.2.2.2.2.2.2.2.1 res.2.2.2.2.2.2.2.2.2.2.2.2.2) t.heap ∧ va_D (va_A (WZ0 az ad fa ca wad cI cR cG v_wn) sz) (WZ0 az ad fa ca u cI cR cG res.2.2.2.2.2.2.2.2.2.2.2.2.1)) (va_A (WZ0 az ad fa ca wad cI cR cG v_wn) sz)) 5 35 (va_A (WZ0 az ad fa ca wad cI cR cG v_wn) sz) := by
  refine E_in (cc := cL_does) (maxL := 14) (ret := (some .boolean)) (by decide) rfl (Nat.le_of_ble_eq_true rfl) ?_
  intro p e s m args below meth c ls Q hQ C hr hlk hK hN hD hA I hl
  have C : CallFix p m c cL_does 14 s args wsL_does RL := C
  have hx := C.1
  have hb := C.2.1
  have hl : lv_has ls 14 [(0, .ref (ad 0)), (1, .ref (az 0)), (2, .ref (az 1)), (3, .int x3), (4, .int x4), (5, .ref (az 2))] := hl
  have join_63 : ∀ (v_zw : Nat → Int32) (v_zd : Nat → Int32) (v_zt : Nat → Int32) (v_roadCount : Int32) (v_readings : Int32) (v_psize : Int32) (v_good : Int32) (v_pbits : Int32) (v_letters : Int32) (v_afterLetter : Int32) (v_codes : Nat → Int32) (v_wv : Nat → Nat → Int32) (x6 : Int32) (H : Heap) (locs : List Loc) (ls : Array Slot), P_does_J63 v_zw v_zd v_zt v_roadCount v_readings v_psize v_good v_pbits v_letters v_afterLetter v_codes v_rsize v_cycleCount v_wn v_wv x3 x4 x6 = some res → IM D (va_A (WZ0 az ad fa ca wad cI cR cG v_wn) sz) s.heap H locs (WZ az ad fa ca wad cI cR cG v_zw v_zd v_zt v_roadCount v_readings v_psize v_good v_pbits v_letters v_afterLetter v_codes v_disc v_rsize v_cycleCount v_fo v_cy v_s v_closed v_traces v_crossings v_db_bits v_db_size v_db_allBits v_db_a v_db_b v_db_c v_db_d v_dn_bits v_dn_size v_dn_allBits v_dn_a v_dn_b v_dn_c v_dn_d v_wn v_wv) → lv_has ls 14 [(0, .ref (ad 0)), (1, .ref (az 0)), (2, .ref (az 1)), (3, .int x3), (4, .int x4), (5, .ref (az 2)), (6, .int x6)] → W p l e rm_does s m args below meth c H locs 0 0 Q (F0 m 63 ls []) := by
    intro v_zw v_zd v_zt v_roadCount v_readings v_psize v_good v_pbits v_letters v_afterLetter v_codes v_wv x6 H locs ls hrun I hl
    unfold P_does_J63 at hrun
    refine lv_iload hx hb dL_does_63 (lv_at hl 4 rfl) ?_
    refine lv_bipush (v := 20) hx hb dL_does_65 rfl ?_
    obtain ⟨r8, h_r8, hrun⟩ := p_bnd hrun
    refine jSS_i (rest := []) C (c_wordBy h_r8) gL_does_L_wordBy hd_wordBy rfl ⟨rfl, rfl⟩ ⟨Nat.le_of_ble_eq_true rfl, Nat.le_of_ble_eq_true rfl⟩ rfl hl.1 rfl (Nat.le_of_ble_eq_true rfl) ⟨Nat.le_of_ble_eq_true rfl, Nat.le_of_ble_eq_true rfl⟩ dL_does_67 ?_
    refine lv_istore (lv' := [(10, .int r8), (0, .ref (ad 0)), (1, .ref (az 0)), (2, .ref (az 1)), (3, .int x3), (4, .int x4), (5, .ref (az 2)), (6, .int x6)]) hx hb dL_does_70 hl (by decide) rfl (fun ls hl => ?_)
    refine lv_iload hx hb dL_does_72 (lv_at hl 0 rfl) ?_
    refine lv_iload_n hx hb dL_does_74 rfl (lv_at hl 4 rfl) ?_
    refine lv_bipush (v := 9) hx hb dL_does_75 rfl ?_
    refine j_ishr hx hb dL_does_77 ?_
    refine lv_aload hx hb dL_does_78 (lv_at hl 6 rfl) ?_
    obtain ⟨r9, h_r9, hrun⟩ := p_bnd hrun
    refine jTE_i (rest := []) C (c_write h_r9) gL_does_L_write hd_write hK hN hD hA I rfl ⟨rfl, rfl⟩ ⟨Nat.le_of_ble_eq_true rfl, Nat.le_of_ble_eq_true rfl⟩ rfl hl.1 rfl (Nat.le_of_ble_eq_true rfl) ⟨Nat.le_of_ble_eq_true rfl, Nat.le_of_ble_eq_true rfl⟩ dL_does_80 (fun H locs I => ?_)
    refine lv_istore (lv' := [(11, .int r9.1), (10, .int r8), (0, .ref (ad 0)), (1, .ref (az 0)), (2, .ref (az 1)), (3, .int x3), (4, .int x4), (5, .ref (az 2)), (6, .int x6)]) hx hb dL_does_83 hl (by decide) rfl (fun ls hl => ?_)
    refine lv_aload_n hx hb dL_does_85 rfl (lv_at hl 2 rfl) ?_
    refine lv_aload hx hb dL_does_86 (lv_at hl 7 rfl) ?_
    refine lv_iload hx hb dL_does_88 (lv_at hl 0 rfl) ?_
    obtain ⟨r10, h_r10, hrun⟩ := p_bnd hrun
    refine jTE_i (rest := []) C (c_spell h_r10) gL_does_L_spell hd_spell hK hN hD hA I rfl ⟨rfl, rfl⟩ ⟨Nat.le_of_ble_eq_true rfl, Nat.le_of_ble_eq_true rfl⟩ rfl hl.1 rfl (Nat.le_of_ble_eq_true rfl) ⟨Nat.le_of_ble_eq_true rfl, Nat.le_of_ble_eq_true rfl⟩ dL_does_90 (fun H locs I => ?_)
    refine lv_if_eq (tgt := 105) hx hb dL_does_93 rfl (fun c11 => ?_) (fun c11 => ?_)
    · have hrun := p_pos hrun c11
      refine lv_iconst (v := 0) hx hb dL_does_105 rfl ?_
      cases hrun
      refine W.widen (k := 5) (n := 35) (Nat.le_of_ble_eq_true rfl) (Nat.le_of_ble_eq_true rfl) ?_
      exact rG_z (u := wad) C hr hlk hQ I hD (nb01 (Or.inl rfl)) rfl dL_does_106
    · have hrun := p_neg hrun c11
      refine lv_aload_n hx hb dL_does_96 rfl (lv_at hl 2 rfl) ?_
      obtain ⟨r12, h_r12, hrun⟩ := p_bnd hrun
      refine jVS_i (rest := []) C (c4_fault h_r12) gL_does_X4_fault hd4_fault hK hN (P_right I.1) rcX rfl ⟨rfl, rfl⟩ ⟨Nat.le_of_ble_eq_true rfl, Nat.le_of_ble_eq_true rfl⟩ rfl hl.1 rfl (Nat.le_of_ble_eq_true rfl) ⟨Nat.le_of_ble_eq_true rfl, Nat.le_of_ble_eq_true rfl⟩ dL_does_97 ?_
      refine lv_iload hx hb dL_does_100 (lv_at hl 0 rfl) ?_
      refine lv_icmp_eq (tgt := 107) hx hb dL_does_102 rfl (fun c13 => ?_) (fun c13 => ?_)
      · have hrun := p_pos hrun c13
        refine lv_iload hx hb dL_does_107 (lv_at hl 8 rfl) ?_
        refine lv_bipush (v := 6) hx hb dL_does_109 rfl ?_
        refine lv_icmp_ne (tgt := 148) hx hb dL_does_111 rfl (fun c14 => ?_) (fun c14 => ?_)
        · have hrun := p_neg hrun c14
          refine lv_aload_n hx hb dL_does_148 rfl (lv_at hl 3 rfl) ?_
          refine lv_iload hx hb dL_does_149 (lv_at hl 8 rfl) ?_
          refine lv_iload hx hb dL_does_151 (lv_at hl 1 rfl) ?_
          obtain ⟨b15, hrun⟩ := p_chk hrun
          refine stZ_zw C hK hD I b15 dL_does_153 (fun H locs I => ?_)
          refine lv_aload_n hx hb dL_does_154 rfl (lv_at hl 4 rfl) ?_
          refine lv_iconst (v := 0) hx hb dL_does_155 rfl ?_
          refine lv_dup2_11 hx hb dL_does_156 rfl rfl ?_
          obtain ⟨b16, hrun⟩ := p_chk hrun
          refine ldZ_zd C hK I.1 b16 dL_does_157 ?_
          refine lv_iconst (v := 1) hx hb dL_does_158 rfl ?_
          refine lv_iadd hx hb dL_does_159 ?_
          obtain ⟨b17, hrun⟩ := p_chk hrun
          refine stZ_zd C hK hD I b17 dL_does_160 (fun H locs I => ?_)
          refine lv_aload_n hx hb dL_does_161 rfl (lv_at hl 4 rfl) ?_
          refine lv_iconst (v := 1) hx hb dL_does_162 rfl ?_
          refine lv_dup2_11 hx hb dL_does_163 rfl rfl ?_
          obtain ⟨b18, hrun⟩ := p_chk hrun
          refine ldZ_zd C hK I.1 b18 dL_does_164 ?_
          refine lv_iconst (v := 1) hx hb dL_does_165 rfl ?_
          refine lv_iadd hx hb dL_does_166 ?_
          obtain ⟨b19, hrun⟩ := p_chk hrun
          refine stZ_zd C hK hD I b19 dL_does_167 (fun H locs I => ?_)
          refine lv_aload_n hx hb dL_does_168 rfl (lv_at hl 2 rfl) ?_
          obtain ⟨r20, h_r20, hrun⟩ := p_bnd hrun
          refine jFG_i (rest := []) C (c4_word h_r20) gL_does_X4_word hd4_word hK hN hD (by rfl) hA I rcX rfl ⟨rfl, rfl⟩ ⟨Nat.le_of_ble_eq_true rfl, Nat.le_of_ble_eq_true rfl⟩ rfl hl.1 rfl (Nat.le_of_ble_eq_true rfl) ⟨Nat.le_of_ble_eq_true rfl, Nat.le_of_ble_eq_true rfl⟩ dL_does_169 (fun wad H locs hD I => ?_)
          refine lv_iload hx hb dL_does_172 (lv_at hl 8 rfl) ?_
          refine lv_icmp_ne (tgt := 200) hx hb dL_does_174 rfl (fun c21 => ?_) (fun c21 => ?_)
          · have hrun := p_neg hrun c21
            refine lv_iconst (v := 0) hx hb dL_does_200 rfl ?_
            cases hrun
            refine W.widen (k := 5) (n := 35) (Nat.le_of_ble_eq_true rfl) (Nat.le_of_ble_eq_true rfl) ?_
            exact rG_z (u := wad) C hr hlk hQ I hD (nb01 (Or.inl rfl)) rfl dL_does_201
          · have hrun := p_pos hrun c21
            refine lv_aload_n hx hb dL_does_177 rfl (lv_at hl 2 rfl) ?_
            refine lv_iconst (v := 3) hx hb dL_does_178 rfl ?_
            obtain ⟨r22, h_r22, hrun⟩ := p_bnd hrun
            refine jVS_i (rest := []) C (c4_count h_r22) gL_does_X4_count hd4_count hK hN (P_right I.1) rcX rfl ⟨rfl, rfl⟩ ⟨Nat.le_of_ble_eq_true rfl, Nat.le_of_ble_eq_true rfl⟩ rfl hl.1 rfl (Nat.le_of_ble_eq_true rfl) ⟨Nat.le_of_ble_eq_true rfl, Nat.le_of_ble_eq_true rfl⟩ dL_does_179 ?_
            refine lv_if_ne (tgt := 200) hx hb dL_does_182 rfl (fun c23 => ?_) (fun c23 => ?_)
            · have hrun := p_neg hrun c23
              refine lv_iconst (v := 0) hx hb dL_does_200 rfl ?_
              cases hrun
              refine W.widen (k := 5) (n := 35) (Nat.le_of_ble_eq_true rfl) (Nat.le_of_ble_eq_true rfl) ?_
              exact rG_z (u := wad) C hr hlk hQ I hD (nb01 (Or.inl rfl)) rfl dL_does_201
            · have hrun := p_pos hrun c23
              refine lv_aload_n hx hb dL_does_185 rfl (lv_at hl 2 rfl) ?_
              refine lv_iconst (v := 4) hx hb dL_does_186 rfl ?_
              obtain ⟨r24, h_r24, hrun⟩ := p_bnd hrun
              refine jVS_i (rest := []) C (c4_count h_r24) gL_does_X4_count hd4_count hK hN (P_right I.1) rcX rfl ⟨rfl, rfl⟩ ⟨Nat.le_of_ble_eq_true rfl, Nat.le_of_ble_eq_true rfl⟩ rfl hl.1 rfl (Nat.le_of_ble_eq_true rfl) ⟨Nat.le_of_ble_eq_true rfl, Nat.le_of_ble_eq_true rfl⟩ dL_does_187 ?_
              refine lv_aload_n hx hb dL_does_190 rfl (lv_at hl 4 rfl) ?_
              refine lv_iconst (v := 1) hx hb dL_does_191 rfl ?_
              obtain ⟨b25, hrun⟩ := p_chk hrun
              refine ldZ_zd C hK I.1 b25 dL_does_192 ?_
              refine lv_icmp_ne (tgt := 200) hx hb dL_does_193 rfl (fun c26 => ?_) (fun c26 => ?_)
              · have hrun := p_neg hrun c26
                refine lv_iconst (v := 0) hx hb dL_does_200 rfl ?_
                cases hrun
                refine W.widen (k := 5) (n := 35) (Nat.le_of_ble_eq_true rfl) (Nat.le_of_ble_eq_true rfl) ?_
                exact rG_z (u := wad) C hr hlk hQ I hD (nb01 (Or.inl rfl)) rfl dL_does_201
              · have hrun := p_pos hrun c26
                refine lv_iconst (v := 1) hx hb dL_does_196 rfl ?_
                refine lv_goto (tgt := 201) hx hb dL_does_197 rfl ?_
                cases hrun
                refine W.widen (k := 5) (n := 35) (Nat.le_of_ble_eq_true rfl) (Nat.le_of_ble_eq_true rfl) ?_
                exact rG_z (u := wad) C hr hlk hQ I hD (nb01 (Or.inr rfl)) rfl dL_does_201
        · have hrun := p_pos hrun c14
          refine lv_aload_n hx hb dL_does_114 rfl (lv_at hl 2 rfl) ?_
          obtain ⟨r27, h_r27, hrun⟩ := p_bnd hrun
          refine jFG_i (rest := []) C (c4_word h_r27) gL_does_X4_word hd4_word hK hN hD (by rfl) hA I rcX rfl ⟨rfl, rfl⟩ ⟨Nat.le_of_ble_eq_true rfl, Nat.le_of_ble_eq_true rfl⟩ rfl hl.1 rfl (Nat.le_of_ble_eq_true rfl) ⟨Nat.le_of_ble_eq_true rfl, Nat.le_of_ble_eq_true rfl⟩ dL_does_115 (fun wad H locs hD I => ?_)
          refine lv_ldc (v := (-2000000104)) hx hb C.2.2.2.1 (C.2.2.2.2 _ k_does_105) dL_does_118 ?_
          refine lv_icmp_ne (tgt := 146) hx hb dL_does_120 rfl (fun c28 => ?_) (fun c28 => ?_)
          · have hrun := p_neg hrun c28
            refine lv_iconst (v := 0) hx hb dL_does_146 rfl ?_
            cases hrun
            refine W.widen (k := 5) (n := 35) (Nat.le_of_ble_eq_true rfl) (Nat.le_of_ble_eq_true rfl) ?_
            exact rG_z (u := wad) C hr hlk hQ I hD (nb01 (Or.inl rfl)) rfl dL_does_147
          · have hrun := p_pos hrun c28
            refine lv_aload_n hx hb dL_does_123 rfl (lv_at hl 2 rfl) ?_
            refine lv_iconst (v := 3) hx hb dL_does_124 rfl ?_
            obtain ⟨r29, h_r29, hrun⟩ := p_bnd hrun
            refine jVS_i (rest := []) C (c4_count h_r29) gL_does_X4_count hd4_count hK hN (P_right I.1) rcX rfl ⟨rfl, rfl⟩ ⟨Nat.le_of_ble_eq_true rfl, Nat.le_of_ble_eq_true rfl⟩ rfl hl.1 rfl (Nat.le_of_ble_eq_true rfl) ⟨Nat.le_of_ble_eq_true rfl, Nat.le_of_ble_eq_true rfl⟩ dL_does_125 ?_
            refine lv_iload hx hb dL_does_128 (lv_at hl 0 rfl) ?_
            refine lv_icmp_ne (tgt := 146) hx hb dL_does_130 rfl (fun c30 => ?_) (fun c30 => ?_)
            · have hrun := p_neg hrun c30
              refine lv_iconst (v := 0) hx hb dL_does_146 rfl ?_
              cases hrun
              refine W.widen (k := 5) (n := 35) (Nat.le_of_ble_eq_true rfl) (Nat.le_of_ble_eq_true rfl) ?_
              exact rG_z (u := wad) C hr hlk hQ I hD (nb01 (Or.inl rfl)) rfl dL_does_147
            · have hrun := p_pos hrun c30
              refine lv_aload_n hx hb dL_does_133 rfl (lv_at hl 2 rfl) ?_
              obtain ⟨r31, h_r31, hrun⟩ := p_bnd hrun
              refine jFE_i (wb := wA az cI v_zw v_zd r9.2) (rest := []) C (c4_blank h_r31) gL_does_X4_blank hd4_blank hK hN hD (by rfl) hA I rcX rfl ⟨rfl, rfl⟩ ⟨Nat.le_of_ble_eq_true rfl, Nat.le_of_ble_eq_true rfl⟩ rfl hl.1 rfl (Nat.le_of_ble_eq_true rfl) ⟨Nat.le_of_ble_eq_true rfl, Nat.le_of_ble_eq_true rfl⟩ dL_does_134 (fun H locs I => ?_)
              refine lv_iload hx hb dL_does_137 (lv_at hl 0 rfl) ?_
              refine lv_icmp_ne (tgt := 146) hx hb dL_does_139 rfl (fun c32 => ?_) (fun c32 => ?_)
              · have hrun := p_neg hrun c32
                refine lv_iconst (v := 0) hx hb dL_does_146 rfl ?_
                cases hrun
                refine W.widen (k := 5) (n := 35) (Nat.le_of_ble_eq_true rfl) (Nat.le_of_ble_eq_true rfl) ?_
                exact rG_z (u := wad) C hr hlk hQ I hD (nb01 (Or.inl rfl)) rfl dL_does_147
              · have hrun := p_pos hrun c32
                refine lv_iconst (v := 1) hx hb dL_does_142 rfl ?_
                refine lv_goto (tgt := 147) hx hb dL_does_143 rfl ?_
                cases hrun
                refine W.widen (k := 5) (n := 35) (Nat.le_of_ble_eq_true rfl) (Nat.le_of_ble_eq_true rfl) ?_
                exact rG_z (u := wad) C hr hlk hQ I hD (nb01 (Or.inr rfl)) rfl dL_does_147
      · have hrun := p_neg hrun c13
        refine lv_iconst (v := 0) hx hb dL_does_105 rfl ?_
        cases hrun
        refine W.widen (k := 5) (n := 35) (Nat.le_of_ble_eq_true rfl) (Nat.le_of_ble_eq_true rfl) ?_
        exact rG_z (u := wad) C hr hlk hQ I hD (nb01 (Or.inl rfl)) rfl dL_does_106
  have join_741 : ∀ (v_zw : Nat → Int32) (v_zd : Nat → Int32) (v_zt : Nat → Int32) (v_roadCount : Int32) (v_readings : Int32) (v_psize : Int32) (v_good : Int32) (v_pbits : Int32) (v_letters : Int32) (v_afterLetter : Int32) (v_codes : Nat → Int32) (v_wv : Nat → Nat → Int32) (x6 : Int32) (x10 : Int32) (s0 : Int32) (s1 : Int32) (s2 : Int32) (H : Heap) (locs : List Loc) (ls : Array Slot), P_does_J741 v_zw v_zd v_zt v_roadCount v_readings v_psize v_good v_pbits v_letters v_afterLetter v_codes v_wn v_wv x6 x10 s0 s1 s2 = some res → IM D (va_A (WZ0 az ad fa ca wad cI cR cG v_wn) sz) s.heap H locs (WZ az ad fa ca wad cI cR cG v_zw v_zd v_zt v_roadCount v_readings v_psize v_good v_pbits v_letters v_afterLetter v_codes v_disc v_rsize v_cycleCount v_fo v_cy v_s v_closed v_traces v_crossings v_db_bits v_db_size v_db_allBits v_db_a v_db_b v_db_c v_db_d v_dn_bits v_dn_size v_dn_allBits v_dn_a v_dn_b v_dn_c v_dn_d v_wn v_wv) → lv_has ls 14 [(0, .ref (ad 0)), (1, .ref (az 0)), (2, .ref (az 1)), (6, .int x6), (10, .int x10)] → W p l e rm_does s m args below meth c H locs 0 0 Q (F0 m 741 ls [.int s0, .int s1, .int s2]) := by
    intro v_zw v_zd v_zt v_roadCount v_readings v_psize v_good v_pbits v_letters v_afterLetter v_codes v_wv x6 x10 s0 s1 s2 H locs ls hrun I hl
    unfold P_does_J741 at hrun
    obtain ⟨r70, h_r70, hrun⟩ := p_bnd hrun
    refine jSS_i (rest := [.int s2]) C (c_at h_r70) gL_does_L_at hd_at rfl ⟨rfl, rfl⟩ ⟨Nat.le_of_ble_eq_true rfl, Nat.le_of_ble_eq_true rfl⟩ rfl hl.1 rfl (Nat.le_of_ble_eq_true rfl) ⟨Nat.le_of_ble_eq_true rfl, Nat.le_of_ble_eq_true rfl⟩ dL_does_741 ?_
    refine lv_iadd hx hb dL_does_744 ?_
    refine lv_istore (lv' := [(11, .int (s2 + r70)), (0, .ref (ad 0)), (1, .ref (az 0)), (2, .ref (az 1)), (6, .int x6), (10, .int x10)]) hx hb dL_does_745 hl (by decide) rfl (fun ls hl => ?_)
    refine lv_aload_n hx hb dL_does_747 rfl (lv_at hl 1 rfl) ?_
    refine lv_iconst (v := 0) hx hb dL_does_748 rfl ?_
    refine lv_iconst (v := 1) hx hb dL_does_749 rfl ?_
    obtain ⟨r71, h_r71, hrun⟩ := p_bnd hrun
    refine jFG_i (rest := []) C (c4_cut h_r71) gL_does_X4_cut hd4_cut hK hN hD (by rfl) hA I rcX rfl ⟨rfl, rfl⟩ ⟨Nat.le_of_ble_eq_true rfl, Nat.le_of_ble_eq_true rfl⟩ rfl hl.1 rfl (Nat.le_of_ble_eq_true rfl) ⟨Nat.le_of_ble_eq_true rfl, Nat.le_of_ble_eq_true rfl⟩ dL_does_750 (fun wad H locs hD I => ?_)
    refine lv_ldc (v := (-2000000102)) hx hb C.2.2.2.1 (C.2.2.2.2 _ k_does_68) dL_does_753 ?_
    refine lv_icmp_ne (tgt := 792) hx hb dL_does_755 rfl (fun c72 => ?_) (fun c72 => ?_)
    · have hrun := p_neg hrun c72
      refine lv_iconst (v := 0) hx hb dL_does_792 rfl ?_
      cases hrun
      refine W.widen (k := 5) (n := 35) (Nat.le_of_ble_eq_true rfl) (Nat.le_of_ble_eq_true rfl) ?_
      exact rG_z (u := wad) C hr hlk hQ I hD (nb01 (Or.inl rfl)) rfl dL_does_793
    · have hrun := p_pos hrun c72
      refine lv_aload_n hx hb dL_does_758 rfl (lv_at hl 1 rfl) ?_
      refine lv_iconst (v := 1) hx hb dL_does_759 rfl ?_
      refine lv_iconst (v := 1) hx hb dL_does_760 rfl ?_
      obtain ⟨r73, h_r73, hrun⟩ := p_bnd hrun
      refine jFG_i (rest := []) C (c4_cut h_r73) gL_does_X4_cut hd4_cut hK hN hD (by rfl) hA I rcX rfl ⟨rfl, rfl⟩ ⟨Nat.le_of_ble_eq_true rfl, Nat.le_of_ble_eq_true rfl⟩ rfl hl.1 rfl (Nat.le_of_ble_eq_true rfl) ⟨Nat.le_of_ble_eq_true rfl, Nat.le_of_ble_eq_true rfl⟩ dL_does_761 (fun wad H locs hD I => ?_)
      refine lv_ldc (v := (-2000000102)) hx hb C.2.2.2.1 (C.2.2.2.2 _ k_does_68) dL_does_764 ?_
      refine lv_icmp_ne (tgt := 792) hx hb dL_does_766 rfl (fun c74 => ?_) (fun c74 => ?_)
      · have hrun := p_neg hrun c74
        refine lv_iconst (v := 0) hx hb dL_does_792 rfl ?_
        cases hrun
        refine W.widen (k := 5) (n := 35) (Nat.le_of_ble_eq_true rfl) (Nat.le_of_ble_eq_true rfl) ?_
        exact rG_z (u := wad) C hr hlk hQ I hD (nb01 (Or.inl rfl)) rfl dL_does_793
      · have hrun := p_pos hrun c74
        refine lv_aload_n hx hb dL_does_769 rfl (lv_at hl 1 rfl) ?_
        refine lv_bipush (v := 100) hx hb dL_does_770 rfl ?_
        refine lv_iconst (v := 1) hx hb dL_does_772 rfl ?_
        obtain ⟨r75, h_r75, hrun⟩ := p_bnd hrun
        refine jFG_i (rest := []) C (c4_cut h_r75) gL_does_X4_cut hd4_cut hK hN hD (by rfl) hA I rcX rfl ⟨rfl, rfl⟩ ⟨Nat.le_of_ble_eq_true rfl, Nat.le_of_ble_eq_true rfl⟩ rfl hl.1 rfl (Nat.le_of_ble_eq_true rfl) ⟨Nat.le_of_ble_eq_true rfl, Nat.le_of_ble_eq_true rfl⟩ dL_does_773 (fun wad H locs hD I => ?_)
        refine lv_ldc (v := (-2000000102)) hx hb C.2.2.2.1 (C.2.2.2.2 _ k_does_68) dL_does_776 ?_
        refine lv_icmp_ne (tgt := 792) hx hb dL_does_778 rfl (fun c76 => ?_) (fun c76 => ?_)
        · have hrun := p_neg hrun c76
          refine lv_iconst (v := 0) hx hb dL_does_792 rfl ?_
          cases hrun
          refine W.widen (k := 5) (n := 35) (Nat.le_of_ble_eq_true rfl) (Nat.le_of_ble_eq_true rfl) ?_
          exact rG_z (u := wad) C hr hlk hQ I hD (nb01 (Or.inl rfl)) rfl dL_does_793
        · have hrun := p_pos hrun c76
          refine lv_aload_n hx hb dL_does_781 rfl (lv_at hl 1 rfl) ?_
          refine lv_iconst (v := 4) hx hb dL_does_782 rfl ?_
          refine lv_iconst (v := 2) hx hb dL_does_783 rfl ?_
          obtain ⟨r77, h_r77, hrun⟩ := p_bnd hrun
          refine jFG_i (rest := []) C (c4_cut h_r77) gL_does_X4_cut hd4_cut hK hN hD (by rfl) hA I rcX rfl ⟨rfl, rfl⟩ ⟨Nat.le_of_ble_eq_true rfl, Nat.le_of_ble_eq_true rfl⟩ rfl hl.1 rfl (Nat.le_of_ble_eq_true rfl) ⟨Nat.le_of_ble_eq_true rfl, Nat.le_of_ble_eq_true rfl⟩ dL_does_784 (fun wad H locs hD I => ?_)
          refine lv_ldc (v := (-2000000102)) hx hb C.2.2.2.1 (C.2.2.2.2 _ k_does_68) dL_does_787 ?_
          refine lv_icmp_eq (tgt := 794) hx hb dL_does_789 rfl (fun c78 => ?_) (fun c78 => ?_)
          · have hrun := p_pos hrun c78
            refine lv_iload hx hb dL_does_794 (lv_at hl 5 rfl) ?_
            refine lv_iload hx hb dL_does_796 (lv_at hl 0 rfl) ?_
            obtain ⟨r79, h_r79, hrun⟩ := p_bnd hrun
            refine jSS_i (rest := []) C (c_gcd h_r79) gL_does_L_gcd hd_gcd rfl ⟨rfl, rfl⟩ ⟨Nat.le_of_ble_eq_true rfl, Nat.le_of_ble_eq_true rfl⟩ rfl hl.1 rfl (Nat.le_of_ble_eq_true rfl) ⟨Nat.le_of_ble_eq_true rfl, Nat.le_of_ble_eq_true rfl⟩ dL_does_798 ?_
            refine lv_iconst (v := 1) hx hb dL_does_801 rfl ?_
            refine lv_icmp_gt (tgt := 812) hx hb dL_does_802 rfl (fun c80 => ?_) (fun c80 => ?_)
            · have hrun := p_pos hrun c80
              refine lv_aload_n hx hb dL_does_812 rfl (lv_at hl 1 rfl) ?_
              refine lv_iload hx hb dL_does_813 (lv_at hl 5 rfl) ?_
              refine lv_iload hx hb dL_does_815 (lv_at hl 0 rfl) ?_
              obtain ⟨r81, h_r81, hrun⟩ := p_bnd hrun
              refine jFG_i (rest := []) C (c4_cut h_r81) gL_does_X4_cut hd4_cut hK hN hD (by rfl) hA I rcX rfl ⟨rfl, rfl⟩ ⟨Nat.le_of_ble_eq_true rfl, Nat.le_of_ble_eq_true rfl⟩ rfl hl.1 rfl (Nat.le_of_ble_eq_true rfl) ⟨Nat.le_of_ble_eq_true rfl, Nat.le_of_ble_eq_true rfl⟩ dL_does_817 (fun wad H locs hD I => ?_)
              refine lv_ldc (v := (-2000000102)) hx hb C.2.2.2.1 (C.2.2.2.2 _ k_does_68) dL_does_820 ?_
              refine lv_icmp_ne (tgt := 829) hx hb dL_does_822 rfl (fun c82 => ?_) (fun c82 => ?_)
              · have hrun := p_neg hrun c82
                refine lv_iconst (v := 0) hx hb dL_does_829 rfl ?_
                cases hrun
                refine W.widen (k := 5) (n := 35) (Nat.le_of_ble_eq_true rfl) (Nat.le_of_ble_eq_true rfl) ?_
                exact rG_z (u := wad) C hr hlk hQ I hD (nb01 (Or.inl rfl)) rfl dL_does_830
              · have hrun := p_pos hrun c82
                refine lv_iconst (v := 1) hx hb dL_does_825 rfl ?_
                refine lv_goto (tgt := 830) hx hb dL_does_826 rfl ?_
                cases hrun
                refine W.widen (k := 5) (n := 35) (Nat.le_of_ble_eq_true rfl) (Nat.le_of_ble_eq_true rfl) ?_
                exact rG_z (u := wad) C hr hlk hQ I hD (nb01 (Or.inr rfl)) rfl dL_does_830
            · have hrun := p_neg hrun c80
              refine lv_iload hx hb dL_does_805 (lv_at hl 5 rfl) ?_
              refine lv_iload hx hb dL_does_807 (lv_at hl 0 rfl) ?_
              refine lv_icmp_ne (tgt := 831) hx hb dL_does_809 rfl (fun c83 => ?_) (fun c83 => ?_)
              · have hrun := p_neg hrun c83
                refine lv_iload hx hb dL_does_831 (lv_at hl 5 rfl) ?_
                refine lv_iload hx hb dL_does_833 (lv_at hl 0 rfl) ?_
                obtain ⟨r84, h_r84, hrun⟩ := p_bnd hrun
                refine jSS_i (rest := []) C (c_cutTo h_r84) gL_does_L_cutTo hd_cutTo rfl ⟨rfl, rfl⟩ ⟨Nat.le_of_ble_eq_true rfl, Nat.le_of_ble_eq_true rfl⟩ rfl hl.1 rfl (Nat.le_of_ble_eq_true rfl) ⟨Nat.le_of_ble_eq_true rfl, Nat.le_of_ble_eq_true rfl⟩ dL_does_835 ?_
                refine lv_istore (lv' := [(12, .int r84), (11, .int (s2 + r70)), (0, .ref (ad 0)), (1, .ref (az 0)), (2, .ref (az 1)), (6, .int x6), (10, .int x10)]) hx hb dL_does_838 hl (by decide) rfl (fun ls hl => ?_)
                refine lv_aload_n hx hb dL_does_840 rfl (lv_at hl 3 rfl) ?_
                refine lv_iload hx hb dL_does_841 (lv_at hl 5 rfl) ?_
                refine lv_iload hx hb dL_does_843 (lv_at hl 0 rfl) ?_
                refine lv_iload hx hb dL_does_845 (lv_at hl 0 rfl) ?_
                obtain ⟨r85, h_r85, hrun⟩ := p_bnd hrun
                refine jSS_i (rest := [.int r84, .int x6, .ref (az 0)]) C (c_size h_r85) gL_does_L_size hd_size rfl ⟨rfl, rfl⟩ ⟨Nat.le_of_ble_eq_true rfl, Nat.le_of_ble_eq_true rfl⟩ rfl hl.1 rfl (Nat.le_of_ble_eq_true rfl) ⟨Nat.le_of_ble_eq_true rfl, Nat.le_of_ble_eq_true rfl⟩ dL_does_847 ?_
                obtain ⟨r86, h_r86, hrun⟩ := p_bnd hrun
                refine jTE_i (rest := []) C (c_comes h_r86) gL_does_L_comes hd_comes hK hN hD hA I rfl ⟨rfl, rfl⟩ ⟨Nat.le_of_ble_eq_true rfl, Nat.le_of_ble_eq_true rfl⟩ rfl hl.1 rfl (Nat.le_of_ble_eq_true rfl) ⟨Nat.le_of_ble_eq_true rfl, Nat.le_of_ble_eq_true rfl⟩ dL_does_850 (fun H locs I => ?_)
                refine lv_istore (lv' := [(13, .int r86.1), (12, .int r84), (11, .int (s2 + r70)), (0, .ref (ad 0)), (1, .ref (az 0)), (2, .ref (az 1)), (6, .int x6), (10, .int x10)]) hx hb dL_does_853 hl (by decide) rfl (fun ls hl => ?_)
                refine lv_aload_n hx hb dL_does_855 rfl (lv_at hl 5 rfl) ?_
                refine lv_iconst (v := 0) hx hb dL_does_856 rfl ?_
                refine lv_dup2_11 hx hb dL_does_857 rfl rfl ?_
                obtain ⟨b87, hrun⟩ := p_chk hrun
                refine ldZ_zd C hK I.1 b87 dL_does_858 ?_
                refine lv_iload hx hb dL_does_859 (lv_at hl 0 rfl) ?_
                refine lv_iload hx hb dL_does_861 (lv_at hl 6 rfl) ?_
                refine lv_icmp_ne (tgt := 870) hx hb dL_does_863 rfl (fun c88 => ?_) (fun c88 => ?_)
                · have hrun := p_neg hrun c88
                  refine lv_iconst (v := 0) hx hb dL_does_870 rfl ?_
                  refine lv_iadd hx hb dL_does_871 ?_
                  obtain ⟨b89, hrun⟩ := p_chk hrun
                  refine stZ_zd C hK hD I b89 dL_does_872 (fun H locs I => ?_)
                  refine lv_aload_n hx hb dL_does_873 rfl (lv_at hl 3 rfl) ?_
                  refine lv_iload hx hb dL_does_874 (lv_at hl 7 rfl) ?_
                  refine lv_iload hx hb dL_does_876 (lv_at hl 2 rfl) ?_
                  obtain ⟨r90, h_r90, hrun⟩ := p_bnd hrun
                  refine jFG_i (rest := []) C (c4_cut h_r90) gL_does_X4_cut hd4_cut hK hN hD (by rfl) hA I rcX rfl ⟨rfl, rfl⟩ ⟨Nat.le_of_ble_eq_true rfl, Nat.le_of_ble_eq_true rfl⟩ rfl hl.1 rfl (Nat.le_of_ble_eq_true rfl) ⟨Nat.le_of_ble_eq_true rfl, Nat.le_of_ble_eq_true rfl⟩ dL_does_878 (fun wad H locs hD I => ?_)
                  refine lv_iload hx hb dL_does_881 (lv_at hl 0 rfl) ?_
                  refine lv_icmp_ne (tgt := 919) hx hb dL_does_883 rfl (fun c91 => ?_) (fun c91 => ?_)
                  · have hrun := p_neg hrun c91
                    refine lv_iconst (v := 0) hx hb dL_does_919 rfl ?_
                    cases hrun
                    refine W.widen (k := 5) (n := 35) (Nat.le_of_ble_eq_true rfl) (Nat.le_of_ble_eq_true rfl) ?_
                    exact rG_z (u := wad) C hr hlk hQ I hD (nb01 (Or.inl rfl)) rfl dL_does_920
                  · have hrun := p_pos hrun c91
                    refine lv_iload hx hb dL_does_886 (lv_at hl 0 rfl) ?_
                    refine lv_if_lt (tgt := 915) hx hb dL_does_888 rfl (fun c92 => ?_) (fun c92 => ?_)
                    · have hrun := p_pos hrun c92
                      refine lv_iconst (v := 1) hx hb dL_does_915 rfl ?_
                      refine lv_goto (tgt := 920) hx hb dL_does_916 rfl ?_
                      cases hrun
                      refine W.widen (k := 5) (n := 35) (Nat.le_of_ble_eq_true rfl) (Nat.le_of_ble_eq_true rfl) ?_
                      exact rG_z (u := wad) C hr hlk hQ I hD (nb01 (Or.inr rfl)) rfl dL_does_920
                    · have hrun := p_neg hrun c92
                      refine lv_aload_n hx hb dL_does_891 rfl (lv_at hl 3 rfl) ?_
                      refine lv_iload hx hb dL_does_892 (lv_at hl 0 rfl) ?_
                      refine lv_iconst (v := 0) hx hb dL_does_894 rfl ?_
                      obtain ⟨r93, h_r93, hrun⟩ := p_bnd hrun
                      refine jVS_i (rest := []) C (c4_end h_r93) gL_does_X4_end hd4_end hK hN (P_right I.1) rcX rfl ⟨rfl, rfl⟩ ⟨Nat.le_of_ble_eq_true rfl, Nat.le_of_ble_eq_true rfl⟩ rfl hl.1 rfl (Nat.le_of_ble_eq_true rfl) ⟨Nat.le_of_ble_eq_true rfl, Nat.le_of_ble_eq_true rfl⟩ dL_does_895 ?_
                      refine lv_iload hx hb dL_does_898 (lv_at hl 7 rfl) ?_
                      refine lv_icmp_ne (tgt := 919) hx hb dL_does_900 rfl (fun c94 => ?_) (fun c94 => ?_)
                      · have hrun := p_neg hrun c94
                        refine lv_iconst (v := 0) hx hb dL_does_919 rfl ?_
                        cases hrun
                        refine W.widen (k := 5) (n := 35) (Nat.le_of_ble_eq_true rfl) (Nat.le_of_ble_eq_true rfl) ?_
                        exact rG_z (u := wad) C hr hlk hQ I hD (nb01 (Or.inl rfl)) rfl dL_does_920
                      · have hrun := p_pos hrun c94
                        refine lv_aload_n hx hb dL_does_903 rfl (lv_at hl 3 rfl) ?_
                        refine lv_iload hx hb dL_does_904 (lv_at hl 0 rfl) ?_
                        refine lv_iconst (v := 1) hx hb dL_does_906 rfl ?_
                        obtain ⟨r95, h_r95, hrun⟩ := p_bnd hrun
                        refine jVS_i (rest := []) C (c4_end h_r95) gL_does_X4_end hd4_end hK hN (P_right I.1) rcX rfl ⟨rfl, rfl⟩ ⟨Nat.le_of_ble_eq_true rfl, Nat.le_of_ble_eq_true rfl⟩ rfl hl.1 rfl (Nat.le_of_ble_eq_true rfl) ⟨Nat.le_of_ble_eq_true rfl, Nat.le_of_ble_eq_true rfl⟩ dL_does_907 ?_
                        refine lv_iload hx hb dL_does_910 (lv_at hl 2 rfl) ?_
                        refine lv_icmp_ne (tgt := 919) hx hb dL_does_912 rfl (fun c96 => ?_) (fun c96 => ?_)
                        · have hrun := p_neg hrun c96
                          refine lv_iconst (v := 0) hx hb dL_does_919 rfl ?_
                          cases hrun
                          refine W.widen (k := 5) (n := 35) (Nat.le_of_ble_eq_true rfl) (Nat.le_of_ble_eq_true rfl) ?_
                          exact rG_z (u := wad) C hr hlk hQ I hD (nb01 (Or.inl rfl)) rfl dL_does_920
                        · have hrun := p_pos hrun c96
                          refine lv_iconst (v := 1) hx hb dL_does_915 rfl ?_
                          refine lv_goto (tgt := 920) hx hb dL_does_916 rfl ?_
                          cases hrun
                          refine W.widen (k := 5) (n := 35) (Nat.le_of_ble_eq_true rfl) (Nat.le_of_ble_eq_true rfl) ?_
                          exact rG_z (u := wad) C hr hlk hQ I hD (nb01 (Or.inr rfl)) rfl dL_does_920
                · have hrun := p_pos hrun c88
                  refine lv_iconst (v := 1) hx hb dL_does_866 rfl ?_
                  refine lv_goto (tgt := 871) hx hb dL_does_867 rfl ?_
                  refine lv_iadd hx hb dL_does_871 ?_
                  obtain ⟨b97, hrun⟩ := p_chk hrun
                  refine stZ_zd C hK hD I b97 dL_does_872 (fun H locs I => ?_)
                  refine lv_aload_n hx hb dL_does_873 rfl (lv_at hl 3 rfl) ?_
                  refine lv_iload hx hb dL_does_874 (lv_at hl 7 rfl) ?_
                  refine lv_iload hx hb dL_does_876 (lv_at hl 2 rfl) ?_
                  obtain ⟨r98, h_r98, hrun⟩ := p_bnd hrun
                  refine jFG_i (rest := []) C (c4_cut h_r98) gL_does_X4_cut hd4_cut hK hN hD (by rfl) hA I rcX rfl ⟨rfl, rfl⟩ ⟨Nat.le_of_ble_eq_true rfl, Nat.le_of_ble_eq_true rfl⟩ rfl hl.1 rfl (Nat.le_of_ble_eq_true rfl) ⟨Nat.le_of_ble_eq_true rfl, Nat.le_of_ble_eq_true rfl⟩ dL_does_878 (fun wad H locs hD I => ?_)
                  refine lv_iload hx hb dL_does_881 (lv_at hl 0 rfl) ?_
                  refine lv_icmp_ne (tgt := 919) hx hb dL_does_883 rfl (fun c99 => ?_) (fun c99 => ?_)
                  · have hrun := p_neg hrun c99
                    refine lv_iconst (v := 0) hx hb dL_does_919 rfl ?_
                    cases hrun
                    refine W.widen (k := 5) (n := 35) (Nat.le_of_ble_eq_true rfl) (Nat.le_of_ble_eq_true rfl) ?_
                    exact rG_z (u := wad) C hr hlk hQ I hD (nb01 (Or.inl rfl)) rfl dL_does_920
                  · have hrun := p_pos hrun c99
                    refine lv_iload hx hb dL_does_886 (lv_at hl 0 rfl) ?_
                    refine lv_if_lt (tgt := 915) hx hb dL_does_888 rfl (fun c100 => ?_) (fun c100 => ?_)
                    · have hrun := p_pos hrun c100
                      refine lv_iconst (v := 1) hx hb dL_does_915 rfl ?_
                      refine lv_goto (tgt := 920) hx hb dL_does_916 rfl ?_
                      cases hrun
                      refine W.widen (k := 5) (n := 35) (Nat.le_of_ble_eq_true rfl) (Nat.le_of_ble_eq_true rfl) ?_
                      exact rG_z (u := wad) C hr hlk hQ I hD (nb01 (Or.inr rfl)) rfl dL_does_920
                    · have hrun := p_neg hrun c100
                      refine lv_aload_n hx hb dL_does_891 rfl (lv_at hl 3 rfl) ?_
                      refine lv_iload hx hb dL_does_892 (lv_at hl 0 rfl) ?_
                      refine lv_iconst (v := 0) hx hb dL_does_894 rfl ?_
                      obtain ⟨r101, h_r101, hrun⟩ := p_bnd hrun
                      refine jVS_i (rest := []) C (c4_end h_r101) gL_does_X4_end hd4_end hK hN (P_right I.1) rcX rfl ⟨rfl, rfl⟩ ⟨Nat.le_of_ble_eq_true rfl, Nat.le_of_ble_eq_true rfl⟩ rfl hl.1 rfl (Nat.le_of_ble_eq_true rfl) ⟨Nat.le_of_ble_eq_true rfl, Nat.le_of_ble_eq_true rfl⟩ dL_does_895 ?_
                      refine lv_iload hx hb dL_does_898 (lv_at hl 7 rfl) ?_
                      refine lv_icmp_ne (tgt := 919) hx hb dL_does_900 rfl (fun c102 => ?_) (fun c102 => ?_)
                      · have hrun := p_neg hrun c102
                        refine lv_iconst (v := 0) hx hb dL_does_919 rfl ?_
                        cases hrun
                        refine W.widen (k := 5) (n := 35) (Nat.le_of_ble_eq_true rfl) (Nat.le_of_ble_eq_true rfl) ?_
                        exact rG_z (u := wad) C hr hlk hQ I hD (nb01 (Or.inl rfl)) rfl dL_does_920
                      · have hrun := p_pos hrun c102
                        refine lv_aload_n hx hb dL_does_903 rfl (lv_at hl 3 rfl) ?_
                        refine lv_iload hx hb dL_does_904 (lv_at hl 0 rfl) ?_
                        refine lv_iconst (v := 1) hx hb dL_does_906 rfl ?_
                        obtain ⟨r103, h_r103, hrun⟩ := p_bnd hrun
                        refine jVS_i (rest := []) C (c4_end h_r103) gL_does_X4_end hd4_end hK hN (P_right I.1) rcX rfl ⟨rfl, rfl⟩ ⟨Nat.le_of_ble_eq_true rfl, Nat.le_of_ble_eq_true rfl⟩ rfl hl.1 rfl (Nat.le_of_ble_eq_true rfl) ⟨Nat.le_of_ble_eq_true rfl, Nat.le_of_ble_eq_true rfl⟩ dL_does_907 ?_
                        refine lv_iload hx hb dL_does_910 (lv_at hl 2 rfl) ?_
                        refine lv_icmp_ne (tgt := 919) hx hb dL_does_912 rfl (fun c104 => ?_) (fun c104 => ?_)
                        · have hrun := p_neg hrun c104
                          refine lv_iconst (v := 0) hx hb dL_does_919 rfl ?_
                          cases hrun
                          refine W.widen (k := 5) (n := 35) (Nat.le_of_ble_eq_true rfl) (Nat.le_of_ble_eq_true rfl) ?_
                          exact rG_z (u := wad) C hr hlk hQ I hD (nb01 (Or.inl rfl)) rfl dL_does_920
                        · have hrun := p_pos hrun c104
                          refine lv_iconst (v := 1) hx hb dL_does_915 rfl ?_
                          refine lv_goto (tgt := 920) hx hb dL_does_916 rfl ?_
                          cases hrun
                          refine W.widen (k := 5) (n := 35) (Nat.le_of_ble_eq_true rfl) (Nat.le_of_ble_eq_true rfl) ?_
                          exact rG_z (u := wad) C hr hlk hQ I hD (nb01 (Or.inr rfl)) rfl dL_does_920
              · have hrun := p_pos hrun c83
                refine lv_aload_n hx hb dL_does_812 rfl (lv_at hl 1 rfl) ?_
                refine lv_iload hx hb dL_does_813 (lv_at hl 5 rfl) ?_
                refine lv_iload hx hb dL_does_815 (lv_at hl 0 rfl) ?_
                obtain ⟨r105, h_r105, hrun⟩ := p_bnd hrun
                refine jFG_i (rest := []) C (c4_cut h_r105) gL_does_X4_cut hd4_cut hK hN hD (by rfl) hA I rcX rfl ⟨rfl, rfl⟩ ⟨Nat.le_of_ble_eq_true rfl, Nat.le_of_ble_eq_true rfl⟩ rfl hl.1 rfl (Nat.le_of_ble_eq_true rfl) ⟨Nat.le_of_ble_eq_true rfl, Nat.le_of_ble_eq_true rfl⟩ dL_does_817 (fun wad H locs hD I => ?_)
                refine lv_ldc (v := (-2000000102)) hx hb C.2.2.2.1 (C.2.2.2.2 _ k_does_68) dL_does_820 ?_
                refine lv_icmp_ne (tgt := 829) hx hb dL_does_822 rfl (fun c106 => ?_) (fun c106 => ?_)
                · have hrun := p_neg hrun c106
                  refine lv_iconst (v := 0) hx hb dL_does_829 rfl ?_
                  cases hrun
                  refine W.widen (k := 5) (n := 35) (Nat.le_of_ble_eq_true rfl) (Nat.le_of_ble_eq_true rfl) ?_
                  exact rG_z (u := wad) C hr hlk hQ I hD (nb01 (Or.inl rfl)) rfl dL_does_830
                · have hrun := p_pos hrun c106
                  refine lv_iconst (v := 1) hx hb dL_does_825 rfl ?_
                  refine lv_goto (tgt := 830) hx hb dL_does_826 rfl ?_
                  cases hrun
                  refine W.widen (k := 5) (n := 35) (Nat.le_of_ble_eq_true rfl) (Nat.le_of_ble_eq_true rfl) ?_
                  exact rG_z (u := wad) C hr hlk hQ I hD (nb01 (Or.inr rfl)) rfl dL_does_830
          · have hrun := p_neg hrun c78
            refine lv_iconst (v := 0) hx hb dL_does_792 rfl ?_
            cases hrun
            refine W.widen (k := 5) (n := 35) (Nat.le_of_ble_eq_true rfl) (Nat.le_of_ble_eq_true rfl) ?_
            exact rG_z (u := wad) C hr hlk hQ I hD (nb01 (Or.inl rfl)) rfl dL_does_793
  have join_710 : ∀ (v_zw : Nat → Int32) (v_zd : Nat → Int32) (v_zt : Nat → Int32) (v_roadCount : Int32) (v_readings : Int32) (v_psize : Int32) (v_good : Int32) (v_pbits : Int32) (v_letters : Int32) (v_afterLetter : Int32) (v_codes : Nat → Int32) (v_wv : Nat → Nat → Int32) (x6 : Int32) (s0 : Int32) (s1 : Int32) (s2 : Int32) (H : Heap) (locs : List Loc) (ls : Array Slot), P_does_J710 v_zw v_zd v_zt v_roadCount v_readings v_psize v_good v_pbits v_letters v_afterLetter v_codes v_wn v_wv x4 x6 s0 s1 s2 = some res → IM D (va_A (WZ0 az ad fa ca wad cI cR cG v_wn) sz) s.heap H locs (WZ az ad fa ca wad cI cR cG v_zw v_zd v_zt v_roadCount v_readings v_psize v_good v_pbits v_letters v_afterLetter v_codes v_disc v_rsize v_cycleCount v_fo v_cy v_s v_closed v_traces v_crossings v_db_bits v_db_size v_db_allBits v_db_a v_db_b v_db_c v_db_d v_dn_bits v_dn_size v_dn_allBits v_dn_a v_dn_b v_dn_c v_dn_d v_wn v_wv) → lv_has ls 14 [(0, .ref (ad 0)), (1, .ref (az 0)), (2, .ref (az 1)), (4, .int x4), (6, .int x6)] → W p l e rm_does s m args below meth c H locs 0 0 Q (F0 m 710 ls [.int s0, .int s1, .int s2]) := by
    intro v_zw v_zd v_zt v_roadCount v_readings v_psize v_good v_pbits v_letters v_afterLetter v_codes v_wv x6 s0 s1 s2 H locs ls hrun I hl
    unfold P_does_J710 at hrun
    obtain ⟨r67, h_r67, hrun⟩ := p_bnd hrun
    refine jSS_i (rest := [.int s2]) C (c_at h_r67) gL_does_L_at hd_at rfl ⟨rfl, rfl⟩ ⟨Nat.le_of_ble_eq_true rfl, Nat.le_of_ble_eq_true rfl⟩ rfl hl.1 rfl (Nat.le_of_ble_eq_true rfl) ⟨Nat.le_of_ble_eq_true rfl, Nat.le_of_ble_eq_true rfl⟩ dL_does_710 ?_
    refine lv_iadd hx hb dL_does_713 ?_
    refine lv_istore (lv' := [(10, .int (s2 + r67)), (0, .ref (ad 0)), (1, .ref (az 0)), (2, .ref (az 1)), (4, .int x4), (6, .int x6)]) hx hb dL_does_714 hl (by decide) rfl (fun ls hl => ?_)
    refine lv_iconst (v := 1) hx hb dL_does_716 rfl ?_
    refine lv_iload hx hb dL_does_717 (lv_at hl 4 rfl) ?_
    refine lv_bipush (v := 7) hx hb dL_does_719 rfl ?_
    refine j_ishr hx hb dL_does_721 ?_
    refine lv_iload hx hb dL_does_722 (lv_at hl 4 rfl) ?_
    refine lv_bipush (v := 14) hx hb dL_does_724 rfl ?_
    refine j_ishr hx hb dL_does_726 ?_
    refine lv_iconst (v := 3) hx hb dL_does_727 rfl ?_
    obtain ⟨r68, h_r68, hrun⟩ := p_bnd hrun
    refine jSS_i (rest := [.int (jshr x4 7), .int 1]) C (c_at h_r68) gL_does_L_at hd_at rfl ⟨rfl, rfl⟩ ⟨Nat.le_of_ble_eq_true rfl, Nat.le_of_ble_eq_true rfl⟩ rfl hl.1 rfl (Nat.le_of_ble_eq_true rfl) ⟨Nat.le_of_ble_eq_true rfl, Nat.le_of_ble_eq_true rfl⟩ dL_does_728 ?_
    refine lv_if_ne (tgt := 739) hx hb dL_does_731 rfl (fun c69 => ?_) (fun c69 => ?_)
    · have hrun := p_neg hrun c69
      refine lv_bipush (v := 20) hx hb dL_does_739 rfl ?_
      exact join_741 v_zw v_zd v_zt v_roadCount v_readings v_psize v_good v_pbits v_letters v_afterLetter v_codes v_wv x6 (s2 + r67) 20 (jshr x4 7) 1 _ _ _ hrun I (lv_sub hl [1, 2, 3, 5, 0] rfl)
    · have hrun := p_pos hrun c69
      refine lv_bipush (v := 99) hx hb dL_does_734 rfl ?_
      refine lv_goto (tgt := 741) hx hb dL_does_736 rfl ?_
      exact join_741 v_zw v_zd v_zt v_roadCount v_readings v_psize v_good v_pbits v_letters v_afterLetter v_codes v_wv x6 (s2 + r67) 99 (jshr x4 7) 1 _ _ _ hrun I (lv_sub hl [1, 2, 3, 5, 0] rfl)
  have loop_548 : ∀ (v_zw : Nat → Int32) (v_zd : Nat → Int32) (v_zt : Nat → Int32) (v_roadCount : Int32) (v_readings : Int32) (v_psize : Int32) (v_good : Int32) (v_pbits : Int32) (v_letters : Int32) (v_afterLetter : Int32) (v_codes : Nat → Int32) (v_wv : Nat → Nat → Int32) (x6 : Int32) (x8 : Int32) (x10 : Int32) (n : Nat) (x11 : Int32) (x12 : Int32) (out : Int32), P_does_548 v_zw x8 x10 n x11 x12 = some out → (∀ (H : Heap) (locs : List Loc) (ls : Array Slot), IM D (va_A (WZ0 az ad fa ca wad cI cR cG v_wn) sz) s.heap H locs (WZ az ad fa ca wad cI cR cG v_zw v_zd v_zt v_roadCount v_readings v_psize v_good v_pbits v_letters v_afterLetter v_codes v_disc v_rsize v_cycleCount v_fo v_cy v_s v_closed v_traces v_crossings v_db_bits v_db_size v_db_allBits v_db_a v_db_b v_db_c v_db_d v_dn_bits v_dn_size v_dn_allBits v_dn_a v_dn_b v_dn_c v_dn_d v_wn v_wv) → lv_has ls 14 [(0, .ref (ad 0)), (1, .ref (az 0)), (2, .ref (az 1)), (6, .int x6), (8, .int x8), (10, .int x10), (11, .int out)] → W p l e rm_does s m args below meth c H locs 0 0 Q (F0 m 587 ls [])) → ∀ (H : Heap) (locs : List Loc) (ls : Array Slot), IM D (va_A (WZ0 az ad fa ca wad cI cR cG v_wn) sz) s.heap H locs (WZ az ad fa ca wad cI cR cG v_zw v_zd v_zt v_roadCount v_readings v_psize v_good v_pbits v_letters v_afterLetter v_codes v_disc v_rsize v_cycleCount v_fo v_cy v_s v_closed v_traces v_crossings v_db_bits v_db_size v_db_allBits v_db_a v_db_b v_db_c v_db_d v_dn_bits v_dn_size v_dn_allBits v_dn_a v_dn_b v_dn_c v_dn_d v_wn v_wv) → lv_has ls 14 [(0, .ref (ad 0)), (1, .ref (az 0)), (2, .ref (az 1)), (6, .int x6), (8, .int x8), (10, .int x10), (11, .int x11), (12, .int x12)] → W p l e rm_does s m args below meth c H locs 0 0 Q (F0 m 548 ls []) := by
    intro v_zw v_zd v_zt v_roadCount v_readings v_psize v_good v_pbits v_letters v_afterLetter v_codes v_wv x6 x8 x10 n
    induction n with
    | zero =>
      intro x11 x12 out hrun K H locs ls I hl
      cases hrun
    | succ n ih =>
      intro x11 x12 out hrun K H locs ls I hl
      rw [P_does_548] at hrun
      refine lv_iload hx hb dL_does_548 (lv_at hl 7 rfl) ?_
      refine lv_iload hx hb dL_does_550 (lv_at hl 5 rfl) ?_
      refine lv_icmp_ge (tgt := 587) hx hb dL_does_552 rfl (fun c109 => ?_) (fun c109 => ?_)
      · have hrun := p_pos hrun c109
        cases hrun
        exact K _ _ _ I (lv_sub hl [0, 1, 2, 3, 4, 5, 6] rfl)
      · have hrun := p_neg hrun c109
        refine lv_iload hx hb dL_does_555 (lv_at hl 5 rfl) ?_
        refine lv_aload_n hx hb dL_does_557 rfl (lv_at hl 1 rfl) ?_
        refine lv_iload hx hb dL_does_558 (lv_at hl 4 rfl) ?_
        obtain ⟨b110, hrun⟩ := p_chk hrun
        refine ldZ_zw C hK I.1 b110 dL_does_560 ?_
        obtain ⟨r111, h_r111, hrun⟩ := p_bnd hrun
        refine jSS_i (rest := [.int x10]) C (c_size h_r111) gL_does_L_size hd_size rfl ⟨rfl, rfl⟩ ⟨Nat.le_of_ble_eq_true rfl, Nat.le_of_ble_eq_true rfl⟩ rfl hl.1 rfl (Nat.le_of_ble_eq_true rfl) ⟨Nat.le_of_ble_eq_true rfl, Nat.le_of_ble_eq_true rfl⟩ dL_does_561 ?_
        refine lv_imul hx hb dL_does_564 ?_
        refine lv_bipush (v := 21) hx hb dL_does_565 rfl ?_
        refine lv_icmp_ge (tgt := 587) hx hb dL_does_567 rfl (fun c112 => ?_) (fun c112 => ?_)
        · have hrun := p_pos hrun c112
          cases hrun
          exact K _ _ _ I (lv_sub hl [0, 1, 2, 3, 4, 5, 6] rfl)
        · have hrun := p_neg hrun c112
          refine lv_iload hx hb dL_does_570 (lv_at hl 6 rfl) ?_
          refine lv_aload_n hx hb dL_does_572 rfl (lv_at hl 1 rfl) ?_
          refine lv_iload hx hb dL_does_573 (lv_at hl 4 rfl) ?_
          obtain ⟨b113, hrun⟩ := p_chk hrun
          refine ldZ_zw C hK I.1 b113 dL_does_575 ?_
          obtain ⟨r114, h_r114, hrun⟩ := p_bnd hrun
          refine jSS_i (rest := []) C (c_join h_r114) gL_does_L_join hd_join rfl ⟨rfl, rfl⟩ ⟨Nat.le_of_ble_eq_true rfl, Nat.le_of_ble_eq_true rfl⟩ rfl hl.1 rfl (Nat.le_of_ble_eq_true rfl) ⟨Nat.le_of_ble_eq_true rfl, Nat.le_of_ble_eq_true rfl⟩ dL_does_576 ?_
          refine lv_istore (lv' := [(11, .int r114), (0, .ref (ad 0)), (1, .ref (az 0)), (2, .ref (az 1)), (6, .int x6), (8, .int x8), (10, .int x10), (12, .int x12)]) hx hb dL_does_579 hl (by decide) rfl (fun ls hl => ?_)
          refine lv_iinc (v := x12 + 1) (lv' := [(12, .int (x12 + 1)), (11, .int r114), (0, .ref (ad 0)), (1, .ref (az 0)), (2, .ref (az 1)), (6, .int x6), (8, .int x8), (10, .int x10)]) hx hb dL_does_581 hl (k := 7) rfl rfl (by decide) rfl (fun ls hl => ?_)
          refine lv_goto (tgt := 548) hx hb dL_does_584 rfl ?_
          exact ih r114 (x12 + 1) out hrun K _ _ _ I (lv_sub hl [2, 3, 4, 5, 6, 7, 1, 0] rfl)
  have join_50 : ∀ (v_zw : Nat → Int32) (v_zd : Nat → Int32) (v_zt : Nat → Int32) (v_roadCount : Int32) (v_readings : Int32) (v_psize : Int32) (v_good : Int32) (v_pbits : Int32) (v_letters : Int32) (v_afterLetter : Int32) (v_codes : Nat → Int32) (v_wv : Nat → Nat → Int32) (x6 : Int32) (x7 : Int32) (x8 : Int32) (s0 : Int32) (H : Heap) (locs : List Loc) (ls : Array Slot), P_does_J50 v_zw v_zd v_zt v_roadCount v_readings v_psize v_good v_pbits v_letters v_afterLetter v_codes v_rsize v_cycleCount v_wn v_wv x3 x4 x6 x7 x8 s0 = some res → IM D (va_A (WZ0 az ad fa ca wad cI cR cG v_wn) sz) s.heap H locs (WZ az ad fa ca wad cI cR cG v_zw v_zd v_zt v_roadCount v_readings v_psize v_good v_pbits v_letters v_afterLetter v_codes v_disc v_rsize v_cycleCount v_fo v_cy v_s v_closed v_traces v_crossings v_db_bits v_db_size v_db_allBits v_db_a v_db_b v_db_c v_db_d v_dn_bits v_dn_size v_dn_allBits v_dn_a v_dn_b v_dn_c v_dn_d v_wn v_wv) → lv_has ls 14 [(0, .ref (ad 0)), (1, .ref (az 0)), (2, .ref (az 1)), (3, .int x3), (4, .int x4), (5, .ref (az 2)), (6, .int x6), (7, .int x7), (8, .int x8)] → W p l e rm_does s m args below meth c H locs 0 0 Q (F0 m 50 ls [.int s0]) := by
    intro v_zw v_zd v_zt v_roadCount v_readings v_psize v_good v_pbits v_letters v_afterLetter v_codes v_wv x6 x7 x8 s0 H locs ls hrun I hl
    unfold P_does_J50 at hrun
    refine lv_istore (lv' := [(9, .int s0), (0, .ref (ad 0)), (1, .ref (az 0)), (2, .ref (az 1)), (3, .int x3), (4, .int x4), (5, .ref (az 2)), (6, .int x6), (7, .int x7), (8, .int x8)]) hx hb dL_does_50 hl (by decide) rfl (fun ls hl => ?_)
    refine lv_iload hx hb dL_does_52 (lv_at hl 8 rfl) ?_
    refine lv_iconst (v := 2) hx hb dL_does_54 rfl ?_
    refine lv_icmp_lt (tgt := 63) hx hb dL_does_55 rfl (fun c7 => ?_) (fun c7 => ?_)
    · have hrun := p_pos hrun c7
      exact join_63 v_zw v_zd v_zt v_roadCount v_readings v_psize v_good v_pbits v_letters v_afterLetter v_codes v_wv x6 _ _ _ hrun I (lv_sub hl [1, 2, 3, 4, 5, 6, 7] rfl)
    · have hrun := p_neg hrun c7
      refine lv_iload hx hb dL_does_58 (lv_at hl 7 rfl) ?_
      refine lv_if_ne (tgt := 202) hx hb dL_does_60 rfl (fun c33 => ?_) (fun c33 => ?_)
      · have hrun := p_neg hrun c33
        refine lv_iload hx hb dL_does_202 (lv_at hl 8 rfl) ?_
        refine lv_iconst (v := 2) hx hb dL_does_204 rfl ?_
        refine lv_icmp_ne (tgt := 303) hx hb dL_does_205 rfl (fun c34 => ?_) (fun c34 => ?_)
        · have hrun := p_neg hrun c34
          refine lv_iload hx hb dL_does_303 (lv_at hl 8 rfl) ?_
          refine lv_iconst (v := 3) hx hb dL_does_305 rfl ?_
          refine lv_icmp_ne (tgt := 418) hx hb dL_does_306 rfl (fun c35 => ?_) (fun c35 => ?_)
          · have hrun := p_neg hrun c35
            refine lv_iload hx hb dL_does_418 (lv_at hl 8 rfl) ?_
            refine lv_iconst (v := 4) hx hb dL_does_420 rfl ?_
            refine lv_icmp_ne (tgt := 523) hx hb dL_does_421 rfl (fun c36 => ?_) (fun c36 => ?_)
            · have hrun := p_neg hrun c36
              refine lv_iload hx hb dL_does_523 (lv_at hl 8 rfl) ?_
              refine lv_iconst (v := 5) hx hb dL_does_525 rfl ?_
              refine lv_icmp_ne (tgt := 681) hx hb dL_does_526 rfl (fun c37 => ?_) (fun c37 => ?_)
              · have hrun := p_neg hrun c37
                refine lv_iload hx hb dL_does_681 (lv_at hl 8 rfl) ?_
                refine lv_bipush (v := 8) hx hb dL_does_683 rfl ?_
                refine lv_icmp_ge (tgt := 921) hx hb dL_does_685 rfl (fun c38 => ?_) (fun c38 => ?_)
                · have hrun := p_pos hrun c38
                  refine lv_iload hx hb dL_does_921 (lv_at hl 8 rfl) ?_
                  refine lv_bipush (v := 8) hx hb dL_does_923 rfl ?_
                  refine lv_icmp_ne (tgt := 951) hx hb dL_does_925 rfl (fun c39 => ?_) (fun c39 => ?_)
                  · have hrun := p_neg hrun c39
                    refine lv_aload_n hx hb dL_does_951 rfl (lv_at hl 1 rfl) ?_
                    refine lv_iload hx hb dL_does_952 (lv_at hl 9 rfl) ?_
                    refine lv_iload hx hb dL_does_954 (lv_at hl 0 rfl) ?_
                    obtain ⟨r40, h_r40, hrun⟩ := p_bnd hrun
                    refine jVS_i (rest := []) C (c4_alike h_r40) gL_does_X4_alike hd4_alike hK hN (P_right I.1) rcX rfl ⟨rfl, rfl⟩ ⟨Nat.le_of_ble_eq_true rfl, Nat.le_of_ble_eq_true rfl⟩ rfl hl.1 rfl (Nat.le_of_ble_eq_true rfl) ⟨Nat.le_of_ble_eq_true rfl, Nat.le_of_ble_eq_true rfl⟩ dL_does_956 ?_
                    refine lv_if_lt (tgt := 966) hx hb dL_does_959 rfl (fun c41 => ?_) (fun c41 => ?_)
                    · have hrun := p_pos hrun c41
                      refine lv_iconst (v := 0) hx hb dL_does_966 rfl ?_
                      refine lv_aload_n hx hb dL_does_967 rfl (lv_at hl 2 rfl) ?_
                      refine lv_iload hx hb dL_does_968 (lv_at hl 9 rfl) ?_
                      obtain ⟨b42, hrun⟩ := p_chk hrun
                      refine ldZ_zw C hK I.1 b42 dL_does_970 ?_
                      obtain ⟨r43, h_r43, hrun⟩ := p_bnd hrun
                      refine jSS_i (rest := [.int 0]) C (c_size h_r43) gL_does_L_size hd_size rfl ⟨rfl, rfl⟩ ⟨Nat.le_of_ble_eq_true rfl, Nat.le_of_ble_eq_true rfl⟩ rfl hl.1 rfl (Nat.le_of_ble_eq_true rfl) ⟨Nat.le_of_ble_eq_true rfl, Nat.le_of_ble_eq_true rfl⟩ dL_does_971 ?_
                      refine lv_aload_n hx hb dL_does_974 rfl (lv_at hl 2 rfl) ?_
                      refine lv_iload hx hb dL_does_975 (lv_at hl 0 rfl) ?_
                      obtain ⟨b44, hrun⟩ := p_chk hrun
                      refine ldZ_zw C hK I.1 b44 dL_does_977 ?_
                      obtain ⟨r45, h_r45, hrun⟩ := p_bnd hrun
                      refine jSS_i (rest := [.int r43, .int 0]) C (c_size h_r45) gL_does_L_size hd_size rfl ⟨rfl, rfl⟩ ⟨Nat.le_of_ble_eq_true rfl, Nat.le_of_ble_eq_true rfl⟩ rfl hl.1 rfl (Nat.le_of_ble_eq_true rfl) ⟨Nat.le_of_ble_eq_true rfl, Nat.le_of_ble_eq_true rfl⟩ dL_does_978 ?_
                      refine lv_icmp_ne (tgt := 1002) hx hb dL_does_981 rfl (fun c46 => ?_) (fun c46 => ?_)
                      · have hrun := p_neg hrun c46
                        refine lv_iconst (v := 0) hx hb dL_does_1002 rfl ?_
                        refine lv_icmp_ne (tgt := 1010) hx hb dL_does_1003 rfl (fun c => absurd rfl c) (fun _ => ?_)
                        refine lv_iconst (v := 1) hx hb dL_does_1006 rfl ?_
                        refine lv_goto (tgt := 1011) hx hb dL_does_1007 rfl ?_
                        cases hrun
                        refine W.widen (k := 5) (n := 35) (Nat.le_of_ble_eq_true rfl) (Nat.le_of_ble_eq_true rfl) ?_
                        exact rG_z (u := wad) C hr hlk hQ I hD (nb01 (Or.inr rfl)) rfl dL_does_1011
                      · have hrun := p_pos hrun c46
                        refine lv_aload_n hx hb dL_does_984 rfl (lv_at hl 2 rfl) ?_
                        refine lv_iload hx hb dL_does_985 (lv_at hl 9 rfl) ?_
                        obtain ⟨b47, hrun⟩ := p_chk hrun
                        refine ldZ_zw C hK I.1 b47 dL_does_987 ?_
                        refine lv_aload_n hx hb dL_does_988 rfl (lv_at hl 2 rfl) ?_
                        refine lv_iload hx hb dL_does_989 (lv_at hl 0 rfl) ?_
                        obtain ⟨b48, hrun⟩ := p_chk hrun
                        refine ldZ_zw C hK I.1 b48 dL_does_991 ?_
                        obtain ⟨r49, h_r49, hrun⟩ := p_bnd hrun
                        refine jSS_i (rest := [.int 0]) C (c_alike h_r49) gL_does_L_alike hd_alike rfl ⟨rfl, rfl⟩ ⟨Nat.le_of_ble_eq_true rfl, Nat.le_of_ble_eq_true rfl⟩ rfl hl.1 rfl (Nat.le_of_ble_eq_true rfl) ⟨Nat.le_of_ble_eq_true rfl, Nat.le_of_ble_eq_true rfl⟩ dL_does_992 ?_
                        refine lv_if_eq (tgt := 1002) hx hb dL_does_995 rfl (fun c50 => ?_) (fun c50 => ?_)
                        · have hrun := p_pos hrun c50
                          refine lv_iconst (v := 0) hx hb dL_does_1002 rfl ?_
                          refine lv_icmp_ne (tgt := 1010) hx hb dL_does_1003 rfl (fun c => absurd rfl c) (fun _ => ?_)
                          refine lv_iconst (v := 1) hx hb dL_does_1006 rfl ?_
                          refine lv_goto (tgt := 1011) hx hb dL_does_1007 rfl ?_
                          cases hrun
                          refine W.widen (k := 5) (n := 35) (Nat.le_of_ble_eq_true rfl) (Nat.le_of_ble_eq_true rfl) ?_
                          exact rG_z (u := wad) C hr hlk hQ I hD (nb01 (Or.inr rfl)) rfl dL_does_1011
                        · have hrun := p_neg hrun c50
                          refine lv_iconst (v := 1) hx hb dL_does_998 rfl ?_
                          refine lv_goto (tgt := 1003) hx hb dL_does_999 rfl ?_
                          refine lv_icmp_ne (tgt := 1010) hx hb dL_does_1003 rfl (fun _ => ?_) (fun c => absurd c (by decide))
                          refine lv_iconst (v := 0) hx hb dL_does_1010 rfl ?_
                          cases hrun
                          refine W.widen (k := 5) (n := 35) (Nat.le_of_ble_eq_true rfl) (Nat.le_of_ble_eq_true rfl) ?_
                          exact rG_z (u := wad) C hr hlk hQ I hD (nb01 (Or.inl rfl)) rfl dL_does_1011
                    · have hrun := p_neg hrun c41
                      refine lv_iconst (v := 1) hx hb dL_does_962 rfl ?_
                      refine lv_goto (tgt := 967) hx hb dL_does_963 rfl ?_
                      refine lv_aload_n hx hb dL_does_967 rfl (lv_at hl 2 rfl) ?_
                      refine lv_iload hx hb dL_does_968 (lv_at hl 9 rfl) ?_
                      obtain ⟨b51, hrun⟩ := p_chk hrun
                      refine ldZ_zw C hK I.1 b51 dL_does_970 ?_
                      obtain ⟨r52, h_r52, hrun⟩ := p_bnd hrun
                      refine jSS_i (rest := [.int 1]) C (c_size h_r52) gL_does_L_size hd_size rfl ⟨rfl, rfl⟩ ⟨Nat.le_of_ble_eq_true rfl, Nat.le_of_ble_eq_true rfl⟩ rfl hl.1 rfl (Nat.le_of_ble_eq_true rfl) ⟨Nat.le_of_ble_eq_true rfl, Nat.le_of_ble_eq_true rfl⟩ dL_does_971 ?_
                      refine lv_aload_n hx hb dL_does_974 rfl (lv_at hl 2 rfl) ?_
                      refine lv_iload hx hb dL_does_975 (lv_at hl 0 rfl) ?_
                      obtain ⟨b53, hrun⟩ := p_chk hrun
                      refine ldZ_zw C hK I.1 b53 dL_does_977 ?_
                      obtain ⟨r54, h_r54, hrun⟩ := p_bnd hrun
                      refine jSS_i (rest := [.int r52, .int 1]) C (c_size h_r54) gL_does_L_size hd_size rfl ⟨rfl, rfl⟩ ⟨Nat.le_of_ble_eq_true rfl, Nat.le_of_ble_eq_true rfl⟩ rfl hl.1 rfl (Nat.le_of_ble_eq_true rfl) ⟨Nat.le_of_ble_eq_true rfl, Nat.le_of_ble_eq_true rfl⟩ dL_does_978 ?_
                      refine lv_icmp_ne (tgt := 1002) hx hb dL_does_981 rfl (fun c55 => ?_) (fun c55 => ?_)
                      · have hrun := p_neg hrun c55
                        refine lv_iconst (v := 0) hx hb dL_does_1002 rfl ?_
                        refine lv_icmp_ne (tgt := 1010) hx hb dL_does_1003 rfl (fun _ => ?_) (fun c => absurd c (by decide))
                        refine lv_iconst (v := 0) hx hb dL_does_1010 rfl ?_
                        cases hrun
                        refine W.widen (k := 5) (n := 35) (Nat.le_of_ble_eq_true rfl) (Nat.le_of_ble_eq_true rfl) ?_
                        exact rG_z (u := wad) C hr hlk hQ I hD (nb01 (Or.inl rfl)) rfl dL_does_1011
                      · have hrun := p_pos hrun c55
                        refine lv_aload_n hx hb dL_does_984 rfl (lv_at hl 2 rfl) ?_
                        refine lv_iload hx hb dL_does_985 (lv_at hl 9 rfl) ?_
                        obtain ⟨b56, hrun⟩ := p_chk hrun
                        refine ldZ_zw C hK I.1 b56 dL_does_987 ?_
                        refine lv_aload_n hx hb dL_does_988 rfl (lv_at hl 2 rfl) ?_
                        refine lv_iload hx hb dL_does_989 (lv_at hl 0 rfl) ?_
                        obtain ⟨b57, hrun⟩ := p_chk hrun
                        refine ldZ_zw C hK I.1 b57 dL_does_991 ?_
                        obtain ⟨r58, h_r58, hrun⟩ := p_bnd hrun
                        refine jSS_i (rest := [.int 1]) C (c_alike h_r58) gL_does_L_alike hd_alike rfl ⟨rfl, rfl⟩ ⟨Nat.le_of_ble_eq_true rfl, Nat.le_of_ble_eq_true rfl⟩ rfl hl.1 rfl (Nat.le_of_ble_eq_true rfl) ⟨Nat.le_of_ble_eq_true rfl, Nat.le_of_ble_eq_true rfl⟩ dL_does_992 ?_
                        refine lv_if_eq (tgt := 1002) hx hb dL_does_995 rfl (fun c59 => ?_) (fun c59 => ?_)
                        · have hrun := p_pos hrun c59
                          refine lv_iconst (v := 0) hx hb dL_does_1002 rfl ?_
                          refine lv_icmp_ne (tgt := 1010) hx hb dL_does_1003 rfl (fun _ => ?_) (fun c => absurd c (by decide))
                          refine lv_iconst (v := 0) hx hb dL_does_1010 rfl ?_
                          cases hrun
                          refine W.widen (k := 5) (n := 35) (Nat.le_of_ble_eq_true rfl) (Nat.le_of_ble_eq_true rfl) ?_
                          exact rG_z (u := wad) C hr hlk hQ I hD (nb01 (Or.inl rfl)) rfl dL_does_1011
                        · have hrun := p_neg hrun c59
                          refine lv_iconst (v := 1) hx hb dL_does_998 rfl ?_
                          refine lv_goto (tgt := 1003) hx hb dL_does_999 rfl ?_
                          refine lv_icmp_ne (tgt := 1010) hx hb dL_does_1003 rfl (fun c => absurd rfl c) (fun _ => ?_)
                          refine lv_iconst (v := 1) hx hb dL_does_1006 rfl ?_
                          refine lv_goto (tgt := 1011) hx hb dL_does_1007 rfl ?_
                          cases hrun
                          refine W.widen (k := 5) (n := 35) (Nat.le_of_ble_eq_true rfl) (Nat.le_of_ble_eq_true rfl) ?_
                          exact rG_z (u := wad) C hr hlk hQ I hD (nb01 (Or.inr rfl)) rfl dL_does_1011
                  · have hrun := p_pos hrun c39
                    refine lv_aload_n hx hb dL_does_928 rfl (lv_at hl 3 rfl) ?_
                    refine lv_iconst (v := 0) hx hb dL_does_929 rfl ?_
                    refine lv_dup2_11 hx hb dL_does_930 rfl rfl ?_
                    obtain ⟨b60, hrun⟩ := p_chk hrun
                    refine ldZ_zd C hK I.1 b60 dL_does_931 ?_
                    refine lv_iconst (v := 1) hx hb dL_does_932 rfl ?_
                    refine lv_isub hx hb dL_does_933 ?_
                    obtain ⟨b61, hrun⟩ := p_chk hrun
                    refine stZ_zd C hK hD I b61 dL_does_934 (fun H locs I => ?_)
                    refine lv_aload_n hx hb dL_does_935 rfl (lv_at hl 1 rfl) ?_
                    obtain ⟨r62, h_r62, hrun⟩ := p_bnd hrun
                    refine jFE_i (wb := wA az cI v_zw (upd v_zd (Int32.toNatClampNeg 0) ((v_zd (Int32.toNatClampNeg 0)) - 1)) v_zt) (rest := []) C (c4_drop h_r62) gL_does_X4_drop hd4_drop hK hN hD (by rfl) hA I rcX rfl ⟨rfl, rfl⟩ ⟨Nat.le_of_ble_eq_true rfl, Nat.le_of_ble_eq_true rfl⟩ rfl hl.1 rfl (Nat.le_of_ble_eq_true rfl) ⟨Nat.le_of_ble_eq_true rfl, Nat.le_of_ble_eq_true rfl⟩ dL_does_936 (fun H locs I => ?_)
                    refine lv_aload_n hx hb dL_does_939 rfl (lv_at hl 3 rfl) ?_
                    refine lv_iconst (v := 0) hx hb dL_does_940 rfl ?_
                    obtain ⟨b63, hrun⟩ := p_chk hrun
                    refine ldZ_zd C hK I.1 b63 dL_does_941 ?_
                    refine lv_icmp_ne (tgt := 949) hx hb dL_does_942 rfl (fun c64 => ?_) (fun c64 => ?_)
                    · have hrun := p_neg hrun c64
                      refine lv_iconst (v := 0) hx hb dL_does_949 rfl ?_
                      cases hrun
                      refine W.widen (k := 5) (n := 35) (Nat.le_of_ble_eq_true rfl) (Nat.le_of_ble_eq_true rfl) ?_
                      exact rG_z (u := wad) C hr hlk hQ I hD (nb01 (Or.inl rfl)) rfl dL_does_950
                    · have hrun := p_pos hrun c64
                      refine lv_iconst (v := 1) hx hb dL_does_945 rfl ?_
                      refine lv_goto (tgt := 950) hx hb dL_does_946 rfl ?_
                      cases hrun
                      refine W.widen (k := 5) (n := 35) (Nat.le_of_ble_eq_true rfl) (Nat.le_of_ble_eq_true rfl) ?_
                      exact rG_z (u := wad) C hr hlk hQ I hD (nb01 (Or.inr rfl)) rfl dL_does_950
                · have hrun := p_neg hrun c38
                  refine lv_iconst (v := 1) hx hb dL_does_688 rfl ?_
                  refine lv_iload hx hb dL_does_689 (lv_at hl 5 rfl) ?_
                  refine lv_iload hx hb dL_does_691 (lv_at hl 5 rfl) ?_
                  refine lv_bipush (v := 14) hx hb dL_does_693 rfl ?_
                  refine j_ishr hx hb dL_does_695 ?_
                  refine lv_iconst (v := 3) hx hb dL_does_696 rfl ?_
                  obtain ⟨r65, h_r65, hrun⟩ := p_bnd hrun
                  refine jSS_i (rest := [.int x4, .int 1]) C (c_at h_r65) gL_does_L_at hd_at rfl ⟨rfl, rfl⟩ ⟨Nat.le_of_ble_eq_true rfl, Nat.le_of_ble_eq_true rfl⟩ rfl hl.1 rfl (Nat.le_of_ble_eq_true rfl) ⟨Nat.le_of_ble_eq_true rfl, Nat.le_of_ble_eq_true rfl⟩ dL_does_697 ?_
                  refine lv_if_ne (tgt := 708) hx hb dL_does_700 rfl (fun c66 => ?_) (fun c66 => ?_)
                  · have hrun := p_neg hrun c66
                    refine lv_bipush (v := 20) hx hb dL_does_708 rfl ?_
                    exact join_710 v_zw v_zd v_zt v_roadCount v_readings v_psize v_good v_pbits v_letters v_afterLetter v_codes v_wv x6 20 x4 1 _ _ _ hrun I (lv_sub hl [1, 2, 3, 5, 7] rfl)
                  · have hrun := p_pos hrun c66
                    refine lv_bipush (v := 99) hx hb dL_does_703 rfl ?_
                    refine lv_goto (tgt := 710) hx hb dL_does_705 rfl ?_
                    exact join_710 v_zw v_zd v_zt v_roadCount v_readings v_psize v_good v_pbits v_letters v_afterLetter v_codes v_wv x6 99 x4 1 _ _ _ hrun I (lv_sub hl [1, 2, 3, 5, 7] rfl)
              · have hrun := p_pos hrun c37
                refine lv_iconst (v := 2) hx hb dL_does_529 rfl ?_
                refine lv_iload hx hb dL_does_530 (lv_at hl 5 rfl) ?_
                refine lv_iconst (v := 4) hx hb dL_does_532 rfl ?_
                obtain ⟨r107, h_r107, hrun⟩ := p_bnd hrun
                refine jSS_i (rest := [.int 2]) C (c_at h_r107) gL_does_L_at hd_at rfl ⟨rfl, rfl⟩ ⟨Nat.le_of_ble_eq_true rfl, Nat.le_of_ble_eq_true rfl⟩ rfl hl.1 rfl (Nat.le_of_ble_eq_true rfl) ⟨Nat.le_of_ble_eq_true rfl, Nat.le_of_ble_eq_true rfl⟩ dL_does_533 ?_
                refine lv_iadd hx hb dL_does_536 ?_
                refine lv_istore (lv' := [(10, .int (2 + r107)), (9, .int s0), (0, .ref (ad 0)), (1, .ref (az 0)), (2, .ref (az 1)), (3, .int x3), (4, .int x4), (5, .ref (az 2)), (6, .int x6), (7, .int x7), (8, .int x8)]) hx hb dL_does_537 hl (by decide) rfl (fun ls hl => ?_)
                refine lv_aload_n hx hb dL_does_539 rfl (lv_at hl 3 rfl) ?_
                refine lv_iload hx hb dL_does_540 (lv_at hl 10 rfl) ?_
                obtain ⟨b108, hrun⟩ := p_chk hrun
                refine ldZ_zw C hK I.1 b108 dL_does_542 ?_
                refine lv_istore (lv' := [(11, .int (v_zw (Int32.toNatClampNeg x8))), (10, .int (2 + r107)), (9, .int s0), (0, .ref (ad 0)), (1, .ref (az 0)), (2, .ref (az 1)), (3, .int x3), (4, .int x4), (5, .ref (az 2)), (6, .int x6), (7, .int x7), (8, .int x8)]) hx hb dL_does_543 hl (by decide) rfl (fun ls hl => ?_)
                refine lv_iconst (v := 1) hx hb dL_does_545 rfl ?_
                refine lv_istore (lv' := [(12, .int 1), (11, .int (v_zw (Int32.toNatClampNeg x8))), (10, .int (2 + r107)), (9, .int s0), (0, .ref (ad 0)), (1, .ref (az 0)), (2, .ref (az 1)), (3, .int x3), (4, .int x4), (5, .ref (az 2)), (6, .int x6), (7, .int x7), (8, .int x8)]) hx hb dL_does_546 hl (by decide) rfl (fun ls hl => ?_)
                obtain ⟨o115, h_o115, hrun⟩ := p_bnd hrun
                refine loop_548 v_zw v_zd v_zt v_roadCount v_readings v_psize v_good v_pbits v_letters v_afterLetter v_codes v_wv x6 x8 (2 + r107) FU (v_zw (Int32.toNatClampNeg x8)) 1 o115 h_o115 (fun H locs ls I hl => ?_) _ _ _ I (lv_sub hl [4, 5, 6, 10, 12, 2, 1, 0] rfl)
                refine lv_aload_n hx hb dL_does_587 rfl (lv_at hl 1 rfl) ?_
                refine lv_iload hx hb dL_does_588 (lv_at hl 3 rfl) ?_
                refine lv_iload hx hb dL_does_590 (lv_at hl 6 rfl) ?_
                refine lv_iload hx hb dL_does_592 (lv_at hl 5 rfl) ?_
                refine lv_aload_n hx hb dL_does_594 rfl (lv_at hl 1 rfl) ?_
                refine lv_iload hx hb dL_does_595 (lv_at hl 4 rfl) ?_
                obtain ⟨b116, hrun⟩ := p_chk hrun
                refine ldZ_zw C hK I.1 b116 dL_does_597 ?_
                obtain ⟨r117, h_r117, hrun⟩ := p_bnd hrun
                refine jSS_i (rest := [.int (2 + r107), .int o115, .int x6, .ref (az 0)]) C (c_size h_r117) gL_does_L_size hd_size rfl ⟨rfl, rfl⟩ ⟨Nat.le_of_ble_eq_true rfl, Nat.le_of_ble_eq_true rfl⟩ rfl hl.1 rfl (Nat.le_of_ble_eq_true rfl) ⟨Nat.le_of_ble_eq_true rfl, Nat.le_of_ble_eq_true rfl⟩ dL_does_598 ?_
                refine lv_imul hx hb dL_does_601 ?_
                obtain ⟨r118, h_r118, hrun⟩ := p_bnd hrun
                refine jTE_i (rest := []) C (c_comes h_r118) gL_does_L_comes hd_comes hK hN hD hA I rfl ⟨rfl, rfl⟩ ⟨Nat.le_of_ble_eq_true rfl, Nat.le_of_ble_eq_true rfl⟩ rfl hl.1 rfl (Nat.le_of_ble_eq_true rfl) ⟨Nat.le_of_ble_eq_true rfl, Nat.le_of_ble_eq_true rfl⟩ dL_does_602 (fun H locs I => ?_)
                refine lv_istore (lv' := [(12, .int r118.1), (0, .ref (ad 0)), (1, .ref (az 0)), (2, .ref (az 1)), (6, .int x6), (8, .int x8), (10, .int (2 + r107)), (11, .int o115)]) hx hb dL_does_605 hl (by decide) rfl (fun ls hl => ?_)
                refine lv_aload_n hx hb dL_does_607 rfl (lv_at hl 3 rfl) ?_
                refine lv_iconst (v := 0) hx hb dL_does_608 rfl ?_
                refine lv_dup2_11 hx hb dL_does_609 rfl rfl ?_
                obtain ⟨b119, hrun⟩ := p_chk hrun
                refine ldZ_zd C hK I.1 b119 dL_does_610 ?_
                refine lv_iload hx hb dL_does_611 (lv_at hl 0 rfl) ?_
                refine lv_iload hx hb dL_does_613 (lv_at hl 4 rfl) ?_
                refine lv_icmp_ne (tgt := 622) hx hb dL_does_615 rfl (fun c120 => ?_) (fun c120 => ?_)
                · have hrun := p_neg hrun c120
                  refine lv_iconst (v := 0) hx hb dL_does_622 rfl ?_
                  refine lv_iadd hx hb dL_does_623 ?_
                  obtain ⟨b121, hrun⟩ := p_chk hrun
                  refine stZ_zd C hK hD I b121 dL_does_624 (fun H locs I => ?_)
                  refine lv_aload_n hx hb dL_does_625 rfl (lv_at hl 1 rfl) ?_
                  refine lv_iload hx hb dL_does_626 (lv_at hl 5 rfl) ?_
                  refine lv_iconst (v := 1) hx hb dL_does_628 rfl ?_
                  obtain ⟨r122, h_r122, hrun⟩ := p_bnd hrun
                  refine jFG_i (rest := []) C (c4_times h_r122) gL_does_X4_times hd4_times hK hN hD (by rfl) hA I rcX rfl ⟨rfl, rfl⟩ ⟨Nat.le_of_ble_eq_true rfl, Nat.le_of_ble_eq_true rfl⟩ rfl hl.1 rfl (Nat.le_of_ble_eq_true rfl) ⟨Nat.le_of_ble_eq_true rfl, Nat.le_of_ble_eq_true rfl⟩ dL_does_629 (fun wad H locs hD I => ?_)
                  refine lv_ldc (v := (-2000000102)) hx hb C.2.2.2.1 (C.2.2.2.2 _ k_does_68) dL_does_632 ?_
                  refine lv_icmp_ne (tgt := 679) hx hb dL_does_634 rfl (fun c123 => ?_) (fun c123 => ?_)
                  · have hrun := p_neg hrun c123
                    refine lv_iconst (v := 0) hx hb dL_does_679 rfl ?_
                    cases hrun
                    refine W.widen (k := 5) (n := 35) (Nat.le_of_ble_eq_true rfl) (Nat.le_of_ble_eq_true rfl) ?_
                    exact rG_z (u := wad) C hr hlk hQ I hD (nb01 (Or.inl rfl)) rfl dL_does_680
                  · have hrun := p_pos hrun c123
                    refine lv_aload_n hx hb dL_does_637 rfl (lv_at hl 1 rfl) ?_
                    refine lv_iload hx hb dL_does_638 (lv_at hl 5 rfl) ?_
                    refine lv_bipush (v := 6) hx hb dL_does_640 rfl ?_
                    obtain ⟨r124, h_r124, hrun⟩ := p_bnd hrun
                    refine jFG_i (rest := []) C (c4_times h_r124) gL_does_X4_times hd4_times hK hN hD (by rfl) hA I rcX rfl ⟨rfl, rfl⟩ ⟨Nat.le_of_ble_eq_true rfl, Nat.le_of_ble_eq_true rfl⟩ rfl hl.1 rfl (Nat.le_of_ble_eq_true rfl) ⟨Nat.le_of_ble_eq_true rfl, Nat.le_of_ble_eq_true rfl⟩ dL_does_642 (fun wad H locs hD I => ?_)
                    refine lv_ldc (v := (-2000000102)) hx hb C.2.2.2.1 (C.2.2.2.2 _ k_does_68) dL_does_645 ?_
                    refine lv_icmp_ne (tgt := 679) hx hb dL_does_647 rfl (fun c125 => ?_) (fun c125 => ?_)
                    · have hrun := p_neg hrun c125
                      refine lv_iconst (v := 0) hx hb dL_does_679 rfl ?_
                      cases hrun
                      refine W.widen (k := 5) (n := 35) (Nat.le_of_ble_eq_true rfl) (Nat.le_of_ble_eq_true rfl) ?_
                      exact rG_z (u := wad) C hr hlk hQ I hD (nb01 (Or.inl rfl)) rfl dL_does_680
                    · have hrun := p_pos hrun c125
                      refine lv_aload_n hx hb dL_does_650 rfl (lv_at hl 1 rfl) ?_
                      refine lv_iload hx hb dL_does_651 (lv_at hl 4 rfl) ?_
                      refine lv_iconst (v := 2) hx hb dL_does_653 rfl ?_
                      obtain ⟨r126, h_r126, hrun⟩ := p_bnd hrun
                      refine jFG_i (rest := []) C (c4_times h_r126) gL_does_X4_times hd4_times hK hN hD (by rfl) hA I rcX rfl ⟨rfl, rfl⟩ ⟨Nat.le_of_ble_eq_true rfl, Nat.le_of_ble_eq_true rfl⟩ rfl hl.1 rfl (Nat.le_of_ble_eq_true rfl) ⟨Nat.le_of_ble_eq_true rfl, Nat.le_of_ble_eq_true rfl⟩ dL_does_654 (fun wad H locs hD I => ?_)
                      refine lv_ldc (v := (-2000000101)) hx hb C.2.2.2.1 (C.2.2.2.2 _ k_does_84) dL_does_657 ?_
                      refine lv_icmp_ne (tgt := 679) hx hb dL_does_659 rfl (fun c127 => ?_) (fun c127 => ?_)
                      · have hrun := p_neg hrun c127
                        refine lv_iconst (v := 0) hx hb dL_does_679 rfl ?_
                        cases hrun
                        refine W.widen (k := 5) (n := 35) (Nat.le_of_ble_eq_true rfl) (Nat.le_of_ble_eq_true rfl) ?_
                        exact rG_z (u := wad) C hr hlk hQ I hD (nb01 (Or.inl rfl)) rfl dL_does_680
                      · have hrun := p_pos hrun c127
                        refine lv_aload_n hx hb dL_does_662 rfl (lv_at hl 1 rfl) ?_
                        refine lv_iload hx hb dL_does_663 (lv_at hl 5 rfl) ?_
                        refine lv_iload hx hb dL_does_665 (lv_at hl 6 rfl) ?_
                        obtain ⟨r128, h_r128, hrun⟩ := p_bnd hrun
                        refine jFG_i (rest := []) C (c4_times h_r128) gL_does_X4_times hd4_times hK hN hD (by rfl) hA I rcX rfl ⟨rfl, rfl⟩ ⟨Nat.le_of_ble_eq_true rfl, Nat.le_of_ble_eq_true rfl⟩ rfl hl.1 rfl (Nat.le_of_ble_eq_true rfl) ⟨Nat.le_of_ble_eq_true rfl, Nat.le_of_ble_eq_true rfl⟩ dL_does_667 (fun wad H locs hD I => ?_)
                        refine lv_iload hx hb dL_does_670 (lv_at hl 0 rfl) ?_
                        refine lv_icmp_ne (tgt := 679) hx hb dL_does_672 rfl (fun c129 => ?_) (fun c129 => ?_)
                        · have hrun := p_neg hrun c129
                          refine lv_iconst (v := 0) hx hb dL_does_679 rfl ?_
                          cases hrun
                          refine W.widen (k := 5) (n := 35) (Nat.le_of_ble_eq_true rfl) (Nat.le_of_ble_eq_true rfl) ?_
                          exact rG_z (u := wad) C hr hlk hQ I hD (nb01 (Or.inl rfl)) rfl dL_does_680
                        · have hrun := p_pos hrun c129
                          refine lv_iconst (v := 1) hx hb dL_does_675 rfl ?_
                          refine lv_goto (tgt := 680) hx hb dL_does_676 rfl ?_
                          cases hrun
                          refine W.widen (k := 5) (n := 35) (Nat.le_of_ble_eq_true rfl) (Nat.le_of_ble_eq_true rfl) ?_
                          exact rG_z (u := wad) C hr hlk hQ I hD (nb01 (Or.inr rfl)) rfl dL_does_680
                · have hrun := p_pos hrun c120
                  refine lv_iconst (v := 1) hx hb dL_does_618 rfl ?_
                  refine lv_goto (tgt := 623) hx hb dL_does_619 rfl ?_
                  refine lv_iadd hx hb dL_does_623 ?_
                  obtain ⟨b130, hrun⟩ := p_chk hrun
                  refine stZ_zd C hK hD I b130 dL_does_624 (fun H locs I => ?_)
                  refine lv_aload_n hx hb dL_does_625 rfl (lv_at hl 1 rfl) ?_
                  refine lv_iload hx hb dL_does_626 (lv_at hl 5 rfl) ?_
                  refine lv_iconst (v := 1) hx hb dL_does_628 rfl ?_
                  obtain ⟨r131, h_r131, hrun⟩ := p_bnd hrun
                  refine jFG_i (rest := []) C (c4_times h_r131) gL_does_X4_times hd4_times hK hN hD (by rfl) hA I rcX rfl ⟨rfl, rfl⟩ ⟨Nat.le_of_ble_eq_true rfl, Nat.le_of_ble_eq_true rfl⟩ rfl hl.1 rfl (Nat.le_of_ble_eq_true rfl) ⟨Nat.le_of_ble_eq_true rfl, Nat.le_of_ble_eq_true rfl⟩ dL_does_629 (fun wad H locs hD I => ?_)
                  refine lv_ldc (v := (-2000000102)) hx hb C.2.2.2.1 (C.2.2.2.2 _ k_does_68) dL_does_632 ?_
                  refine lv_icmp_ne (tgt := 679) hx hb dL_does_634 rfl (fun c132 => ?_) (fun c132 => ?_)
                  · have hrun := p_neg hrun c132
                    refine lv_iconst (v := 0) hx hb dL_does_679 rfl ?_
                    cases hrun
                    refine W.widen (k := 5) (n := 35) (Nat.le_of_ble_eq_true rfl) (Nat.le_of_ble_eq_true rfl) ?_
                    exact rG_z (u := wad) C hr hlk hQ I hD (nb01 (Or.inl rfl)) rfl dL_does_680
                  · have hrun := p_pos hrun c132
                    refine lv_aload_n hx hb dL_does_637 rfl (lv_at hl 1 rfl) ?_
                    refine lv_iload hx hb dL_does_638 (lv_at hl 5 rfl) ?_
                    refine lv_bipush (v := 6) hx hb dL_does_640 rfl ?_
                    obtain ⟨r133, h_r133, hrun⟩ := p_bnd hrun
                    refine jFG_i (rest := []) C (c4_times h_r133) gL_does_X4_times hd4_times hK hN hD (by rfl) hA I rcX rfl ⟨rfl, rfl⟩ ⟨Nat.le_of_ble_eq_true rfl, Nat.le_of_ble_eq_true rfl⟩ rfl hl.1 rfl (Nat.le_of_ble_eq_true rfl) ⟨Nat.le_of_ble_eq_true rfl, Nat.le_of_ble_eq_true rfl⟩ dL_does_642 (fun wad H locs hD I => ?_)
                    refine lv_ldc (v := (-2000000102)) hx hb C.2.2.2.1 (C.2.2.2.2 _ k_does_68) dL_does_645 ?_
                    refine lv_icmp_ne (tgt := 679) hx hb dL_does_647 rfl (fun c134 => ?_) (fun c134 => ?_)
                    · have hrun := p_neg hrun c134
                      refine lv_iconst (v := 0) hx hb dL_does_679 rfl ?_
                      cases hrun
                      refine W.widen (k := 5) (n := 35) (Nat.le_of_ble_eq_true rfl) (Nat.le_of_ble_eq_true rfl) ?_
                      exact rG_z (u := wad) C hr hlk hQ I hD (nb01 (Or.inl rfl)) rfl dL_does_680
                    · have hrun := p_pos hrun c134
                      refine lv_aload_n hx hb dL_does_650 rfl (lv_at hl 1 rfl) ?_
                      refine lv_iload hx hb dL_does_651 (lv_at hl 4 rfl) ?_
                      refine lv_iconst (v := 2) hx hb dL_does_653 rfl ?_
                      obtain ⟨r135, h_r135, hrun⟩ := p_bnd hrun
                      refine jFG_i (rest := []) C (c4_times h_r135) gL_does_X4_times hd4_times hK hN hD (by rfl) hA I rcX rfl ⟨rfl, rfl⟩ ⟨Nat.le_of_ble_eq_true rfl, Nat.le_of_ble_eq_true rfl⟩ rfl hl.1 rfl (Nat.le_of_ble_eq_true rfl) ⟨Nat.le_of_ble_eq_true rfl, Nat.le_of_ble_eq_true rfl⟩ dL_does_654 (fun wad H locs hD I => ?_)
                      refine lv_ldc (v := (-2000000101)) hx hb C.2.2.2.1 (C.2.2.2.2 _ k_does_84) dL_does_657 ?_
                      refine lv_icmp_ne (tgt := 679) hx hb dL_does_659 rfl (fun c136 => ?_) (fun c136 => ?_)
                      · have hrun := p_neg hrun c136
                        refine lv_iconst (v := 0) hx hb dL_does_679 rfl ?_
                        cases hrun
                        refine W.widen (k := 5) (n := 35) (Nat.le_of_ble_eq_true rfl) (Nat.le_of_ble_eq_true rfl) ?_
                        exact rG_z (u := wad) C hr hlk hQ I hD (nb01 (Or.inl rfl)) rfl dL_does_680
                      · have hrun := p_pos hrun c136
                        refine lv_aload_n hx hb dL_does_662 rfl (lv_at hl 1 rfl) ?_
                        refine lv_iload hx hb dL_does_663 (lv_at hl 5 rfl) ?_
                        refine lv_iload hx hb dL_does_665 (lv_at hl 6 rfl) ?_
                        obtain ⟨r137, h_r137, hrun⟩ := p_bnd hrun
                        refine jFG_i (rest := []) C (c4_times h_r137) gL_does_X4_times hd4_times hK hN hD (by rfl) hA I rcX rfl ⟨rfl, rfl⟩ ⟨Nat.le_of_ble_eq_true rfl, Nat.le_of_ble_eq_true rfl⟩ rfl hl.1 rfl (Nat.le_of_ble_eq_true rfl) ⟨Nat.le_of_ble_eq_true rfl, Nat.le_of_ble_eq_true rfl⟩ dL_does_667 (fun wad H locs hD I => ?_)
                        refine lv_iload hx hb dL_does_670 (lv_at hl 0 rfl) ?_
                        refine lv_icmp_ne (tgt := 679) hx hb dL_does_672 rfl (fun c138 => ?_) (fun c138 => ?_)
                        · have hrun := p_neg hrun c138
                          refine lv_iconst (v := 0) hx hb dL_does_679 rfl ?_
                          cases hrun
                          refine W.widen (k := 5) (n := 35) (Nat.le_of_ble_eq_true rfl) (Nat.le_of_ble_eq_true rfl) ?_
                          exact rG_z (u := wad) C hr hlk hQ I hD (nb01 (Or.inl rfl)) rfl dL_does_680
                        · have hrun := p_pos hrun c138
                          refine lv_iconst (v := 1) hx hb dL_does_675 rfl ?_
                          refine lv_goto (tgt := 680) hx hb dL_does_676 rfl ?_
                          cases hrun
                          refine W.widen (k := 5) (n := 35) (Nat.le_of_ble_eq_true rfl) (Nat.le_of_ble_eq_true rfl) ?_
                          exact rG_z (u := wad) C hr hlk hQ I hD (nb01 (Or.inr rfl)) rfl dL_does_680
            · have hrun := p_pos hrun c36
              refine lv_aload_n hx hb dL_does_424 rfl (lv_at hl 2 rfl) ?_
              refine lv_iload hx hb dL_does_425 (lv_at hl 9 rfl) ?_
              obtain ⟨b139, hrun⟩ := p_chk hrun
              refine ldZ_zw C hK I.1 b139 dL_does_427 ?_
              obtain ⟨r140, h_r140, hrun⟩ := p_bnd hrun
              refine jSS_i (rest := []) C (c_size h_r140) gL_does_L_size hd_size rfl ⟨rfl, rfl⟩ ⟨Nat.le_of_ble_eq_true rfl, Nat.le_of_ble_eq_true rfl⟩ rfl hl.1 rfl (Nat.le_of_ble_eq_true rfl) ⟨Nat.le_of_ble_eq_true rfl, Nat.le_of_ble_eq_true rfl⟩ dL_does_428 ?_
              refine lv_aload_n hx hb dL_does_431 rfl (lv_at hl 2 rfl) ?_
              refine lv_iload hx hb dL_does_432 (lv_at hl 0 rfl) ?_
              obtain ⟨b141, hrun⟩ := p_chk hrun
              refine ldZ_zw C hK I.1 b141 dL_does_434 ?_
              obtain ⟨r142, h_r142, hrun⟩ := p_bnd hrun
              refine jSS_i (rest := [.int r140]) C (c_size h_r142) gL_does_L_size hd_size rfl ⟨rfl, rfl⟩ ⟨Nat.le_of_ble_eq_true rfl, Nat.le_of_ble_eq_true rfl⟩ rfl hl.1 rfl (Nat.le_of_ble_eq_true rfl) ⟨Nat.le_of_ble_eq_true rfl, Nat.le_of_ble_eq_true rfl⟩ dL_does_435 ?_
              refine lv_iadd hx hb dL_does_438 ?_
              refine lv_istore (lv' := [(10, .int (r140 + r142)), (9, .int s0), (0, .ref (ad 0)), (1, .ref (az 0)), (2, .ref (az 1)), (3, .int x3), (4, .int x4), (5, .ref (az 2)), (6, .int x6), (7, .int x7), (8, .int x8)]) hx hb dL_does_439 hl (by decide) rfl (fun ls hl => ?_)
              refine lv_aload_n hx hb dL_does_441 rfl (lv_at hl 3 rfl) ?_
              refine lv_iload hx hb dL_does_442 (lv_at hl 8 rfl) ?_
              refine lv_iload hx hb dL_does_444 (lv_at hl 0 rfl) ?_
              refine lv_bipush (v := 20) hx hb dL_does_446 rfl ?_
              refine lv_icmp_le (tgt := 455) hx hb dL_does_448 rfl (fun c143 => ?_) (fun c143 => ?_)
              · have hrun := p_pos hrun c143
                refine lv_aload_n hx hb dL_does_455 rfl (lv_at hl 3 rfl) ?_
                refine lv_iload hx hb dL_does_456 (lv_at hl 10 rfl) ?_
                obtain ⟨b144, hrun⟩ := p_chk hrun
                refine ldZ_zw C hK I.1 b144 dL_does_458 ?_
                refine lv_aload_n hx hb dL_does_459 rfl (lv_at hl 3 rfl) ?_
                refine lv_iload hx hb dL_does_460 (lv_at hl 1 rfl) ?_
                obtain ⟨b145, hrun⟩ := p_chk hrun
                refine ldZ_zw C hK I.1 b145 dL_does_462 ?_
                obtain ⟨r146, h_r146, hrun⟩ := p_bnd hrun
                refine jSS_i (rest := [.int x6, .ref (az 0)]) C (c_join h_r146) gL_does_L_join hd_join rfl ⟨rfl, rfl⟩ ⟨Nat.le_of_ble_eq_true rfl, Nat.le_of_ble_eq_true rfl⟩ rfl hl.1 rfl (Nat.le_of_ble_eq_true rfl) ⟨Nat.le_of_ble_eq_true rfl, Nat.le_of_ble_eq_true rfl⟩ dL_does_463 ?_
                refine lv_iload hx hb dL_does_466 (lv_at hl 0 rfl) ?_
                obtain ⟨r147, h_r147, hrun⟩ := p_bnd hrun
                refine jTE_i (rest := []) C (c_comes h_r147) gL_does_L_comes hd_comes hK hN hD hA I rfl ⟨rfl, rfl⟩ ⟨Nat.le_of_ble_eq_true rfl, Nat.le_of_ble_eq_true rfl⟩ rfl hl.1 rfl (Nat.le_of_ble_eq_true rfl) ⟨Nat.le_of_ble_eq_true rfl, Nat.le_of_ble_eq_true rfl⟩ dL_does_468 (fun H locs I => ?_)
                refine lv_istore (lv' := [(11, .int r147.1), (10, .int (r140 + r142)), (9, .int s0), (0, .ref (ad 0)), (1, .ref (az 0)), (2, .ref (az 1)), (3, .int x3), (4, .int x4), (5, .ref (az 2)), (6, .int x6), (7, .int x7), (8, .int x8)]) hx hb dL_does_471 hl (by decide) rfl (fun ls hl => ?_)
                refine lv_aload_n hx hb dL_does_473 rfl (lv_at hl 5 rfl) ?_
                refine lv_iconst (v := 0) hx hb dL_does_474 rfl ?_
                refine lv_dup2_11 hx hb dL_does_475 rfl rfl ?_
                obtain ⟨b148, hrun⟩ := p_chk hrun
                refine ldZ_zd C hK I.1 b148 dL_does_476 ?_
                refine lv_iload hx hb dL_does_477 (lv_at hl 0 rfl) ?_
                refine lv_iload hx hb dL_does_479 (lv_at hl 9 rfl) ?_
                refine lv_icmp_ne (tgt := 488) hx hb dL_does_481 rfl (fun c149 => ?_) (fun c149 => ?_)
                · have hrun := p_neg hrun c149
                  refine lv_iconst (v := 0) hx hb dL_does_488 rfl ?_
                  refine lv_iadd hx hb dL_does_489 ?_
                  obtain ⟨b150, hrun⟩ := p_chk hrun
                  refine stZ_zd C hK hD I b150 dL_does_490 (fun H locs I => ?_)
                  refine lv_aload_n hx hb dL_does_491 rfl (lv_at hl 3 rfl) ?_
                  refine lv_iload hx hb dL_does_492 (lv_at hl 11 rfl) ?_
                  refine lv_iload hx hb dL_does_494 (lv_at hl 9 rfl) ?_
                  obtain ⟨r151, h_r151, hrun⟩ := p_bnd hrun
                  refine jFG_i (rest := []) C (c4_join h_r151) gL_does_X4_join hd4_join hK hN hD (by rfl) hA I rcX rfl ⟨rfl, rfl⟩ ⟨Nat.le_of_ble_eq_true rfl, Nat.le_of_ble_eq_true rfl⟩ rfl hl.1 rfl (Nat.le_of_ble_eq_true rfl) ⟨Nat.le_of_ble_eq_true rfl, Nat.le_of_ble_eq_true rfl⟩ dL_does_496 (fun wad H locs hD I => ?_)
                  refine lv_ldc (v := (-2000000101)) hx hb C.2.2.2.1 (C.2.2.2.2 _ k_does_84) dL_does_499 ?_
                  refine lv_icmp_ne (tgt := 521) hx hb dL_does_501 rfl (fun c152 => ?_) (fun c152 => ?_)
                  · have hrun := p_neg hrun c152
                    refine lv_iconst (v := 0) hx hb dL_does_521 rfl ?_
                    cases hrun
                    refine W.widen (k := 5) (n := 35) (Nat.le_of_ble_eq_true rfl) (Nat.le_of_ble_eq_true rfl) ?_
                    exact rG_z (u := wad) C hr hlk hQ I hD (nb01 (Or.inl rfl)) rfl dL_does_522
                  · have hrun := p_pos hrun c152
                    refine lv_aload_n hx hb dL_does_504 rfl (lv_at hl 3 rfl) ?_
                    refine lv_iload hx hb dL_does_505 (lv_at hl 11 rfl) ?_
                    refine lv_iload hx hb dL_does_507 (lv_at hl 2 rfl) ?_
                    obtain ⟨r153, h_r153, hrun⟩ := p_bnd hrun
                    refine jFG_i (rest := []) C (c4_join h_r153) gL_does_X4_join hd4_join hK hN hD (by rfl) hA I rcX rfl ⟨rfl, rfl⟩ ⟨Nat.le_of_ble_eq_true rfl, Nat.le_of_ble_eq_true rfl⟩ rfl hl.1 rfl (Nat.le_of_ble_eq_true rfl) ⟨Nat.le_of_ble_eq_true rfl, Nat.le_of_ble_eq_true rfl⟩ dL_does_509 (fun wad H locs hD I => ?_)
                    refine lv_iload hx hb dL_does_512 (lv_at hl 0 rfl) ?_
                    refine lv_icmp_ne (tgt := 521) hx hb dL_does_514 rfl (fun c154 => ?_) (fun c154 => ?_)
                    · have hrun := p_neg hrun c154
                      refine lv_iconst (v := 0) hx hb dL_does_521 rfl ?_
                      cases hrun
                      refine W.widen (k := 5) (n := 35) (Nat.le_of_ble_eq_true rfl) (Nat.le_of_ble_eq_true rfl) ?_
                      exact rG_z (u := wad) C hr hlk hQ I hD (nb01 (Or.inl rfl)) rfl dL_does_522
                    · have hrun := p_pos hrun c154
                      refine lv_iconst (v := 1) hx hb dL_does_517 rfl ?_
                      refine lv_goto (tgt := 522) hx hb dL_does_518 rfl ?_
                      cases hrun
                      refine W.widen (k := 5) (n := 35) (Nat.le_of_ble_eq_true rfl) (Nat.le_of_ble_eq_true rfl) ?_
                      exact rG_z (u := wad) C hr hlk hQ I hD (nb01 (Or.inr rfl)) rfl dL_does_522
                · have hrun := p_pos hrun c149
                  refine lv_iconst (v := 1) hx hb dL_does_484 rfl ?_
                  refine lv_goto (tgt := 489) hx hb dL_does_485 rfl ?_
                  refine lv_iadd hx hb dL_does_489 ?_
                  obtain ⟨b155, hrun⟩ := p_chk hrun
                  refine stZ_zd C hK hD I b155 dL_does_490 (fun H locs I => ?_)
                  refine lv_aload_n hx hb dL_does_491 rfl (lv_at hl 3 rfl) ?_
                  refine lv_iload hx hb dL_does_492 (lv_at hl 11 rfl) ?_
                  refine lv_iload hx hb dL_does_494 (lv_at hl 9 rfl) ?_
                  obtain ⟨r156, h_r156, hrun⟩ := p_bnd hrun
                  refine jFG_i (rest := []) C (c4_join h_r156) gL_does_X4_join hd4_join hK hN hD (by rfl) hA I rcX rfl ⟨rfl, rfl⟩ ⟨Nat.le_of_ble_eq_true rfl, Nat.le_of_ble_eq_true rfl⟩ rfl hl.1 rfl (Nat.le_of_ble_eq_true rfl) ⟨Nat.le_of_ble_eq_true rfl, Nat.le_of_ble_eq_true rfl⟩ dL_does_496 (fun wad H locs hD I => ?_)
                  refine lv_ldc (v := (-2000000101)) hx hb C.2.2.2.1 (C.2.2.2.2 _ k_does_84) dL_does_499 ?_
                  refine lv_icmp_ne (tgt := 521) hx hb dL_does_501 rfl (fun c157 => ?_) (fun c157 => ?_)
                  · have hrun := p_neg hrun c157
                    refine lv_iconst (v := 0) hx hb dL_does_521 rfl ?_
                    cases hrun
                    refine W.widen (k := 5) (n := 35) (Nat.le_of_ble_eq_true rfl) (Nat.le_of_ble_eq_true rfl) ?_
                    exact rG_z (u := wad) C hr hlk hQ I hD (nb01 (Or.inl rfl)) rfl dL_does_522
                  · have hrun := p_pos hrun c157
                    refine lv_aload_n hx hb dL_does_504 rfl (lv_at hl 3 rfl) ?_
                    refine lv_iload hx hb dL_does_505 (lv_at hl 11 rfl) ?_
                    refine lv_iload hx hb dL_does_507 (lv_at hl 2 rfl) ?_
                    obtain ⟨r158, h_r158, hrun⟩ := p_bnd hrun
                    refine jFG_i (rest := []) C (c4_join h_r158) gL_does_X4_join hd4_join hK hN hD (by rfl) hA I rcX rfl ⟨rfl, rfl⟩ ⟨Nat.le_of_ble_eq_true rfl, Nat.le_of_ble_eq_true rfl⟩ rfl hl.1 rfl (Nat.le_of_ble_eq_true rfl) ⟨Nat.le_of_ble_eq_true rfl, Nat.le_of_ble_eq_true rfl⟩ dL_does_509 (fun wad H locs hD I => ?_)
                    refine lv_iload hx hb dL_does_512 (lv_at hl 0 rfl) ?_
                    refine lv_icmp_ne (tgt := 521) hx hb dL_does_514 rfl (fun c159 => ?_) (fun c159 => ?_)
                    · have hrun := p_neg hrun c159
                      refine lv_iconst (v := 0) hx hb dL_does_521 rfl ?_
                      cases hrun
                      refine W.widen (k := 5) (n := 35) (Nat.le_of_ble_eq_true rfl) (Nat.le_of_ble_eq_true rfl) ?_
                      exact rG_z (u := wad) C hr hlk hQ I hD (nb01 (Or.inl rfl)) rfl dL_does_522
                    · have hrun := p_pos hrun c159
                      refine lv_iconst (v := 1) hx hb dL_does_517 rfl ?_
                      refine lv_goto (tgt := 522) hx hb dL_does_518 rfl ?_
                      cases hrun
                      refine W.widen (k := 5) (n := 35) (Nat.le_of_ble_eq_true rfl) (Nat.le_of_ble_eq_true rfl) ?_
                      exact rG_z (u := wad) C hr hlk hQ I hD (nb01 (Or.inr rfl)) rfl dL_does_522
              · have hrun := p_neg hrun c143
                refine lv_iconst (v := 0) hx hb dL_does_451 rfl ?_
                refine lv_goto (tgt := 466) hx hb dL_does_452 rfl ?_
                refine lv_iload hx hb dL_does_466 (lv_at hl 0 rfl) ?_
                obtain ⟨r160, h_r160, hrun⟩ := p_bnd hrun
                refine jTE_i (rest := []) C (c_comes h_r160) gL_does_L_comes hd_comes hK hN hD hA I rfl ⟨rfl, rfl⟩ ⟨Nat.le_of_ble_eq_true rfl, Nat.le_of_ble_eq_true rfl⟩ rfl hl.1 rfl (Nat.le_of_ble_eq_true rfl) ⟨Nat.le_of_ble_eq_true rfl, Nat.le_of_ble_eq_true rfl⟩ dL_does_468 (fun H locs I => ?_)
                refine lv_istore (lv' := [(11, .int r160.1), (10, .int (r140 + r142)), (9, .int s0), (0, .ref (ad 0)), (1, .ref (az 0)), (2, .ref (az 1)), (3, .int x3), (4, .int x4), (5, .ref (az 2)), (6, .int x6), (7, .int x7), (8, .int x8)]) hx hb dL_does_471 hl (by decide) rfl (fun ls hl => ?_)
                refine lv_aload_n hx hb dL_does_473 rfl (lv_at hl 5 rfl) ?_
                refine lv_iconst (v := 0) hx hb dL_does_474 rfl ?_
                refine lv_dup2_11 hx hb dL_does_475 rfl rfl ?_
                obtain ⟨b161, hrun⟩ := p_chk hrun
                refine ldZ_zd C hK I.1 b161 dL_does_476 ?_
                refine lv_iload hx hb dL_does_477 (lv_at hl 0 rfl) ?_
                refine lv_iload hx hb dL_does_479 (lv_at hl 9 rfl) ?_
                refine lv_icmp_ne (tgt := 488) hx hb dL_does_481 rfl (fun c162 => ?_) (fun c162 => ?_)
                · have hrun := p_neg hrun c162
                  refine lv_iconst (v := 0) hx hb dL_does_488 rfl ?_
                  refine lv_iadd hx hb dL_does_489 ?_
                  obtain ⟨b163, hrun⟩ := p_chk hrun
                  refine stZ_zd C hK hD I b163 dL_does_490 (fun H locs I => ?_)
                  refine lv_aload_n hx hb dL_does_491 rfl (lv_at hl 3 rfl) ?_
                  refine lv_iload hx hb dL_does_492 (lv_at hl 11 rfl) ?_
                  refine lv_iload hx hb dL_does_494 (lv_at hl 9 rfl) ?_
                  obtain ⟨r164, h_r164, hrun⟩ := p_bnd hrun
                  refine jFG_i (rest := []) C (c4_join h_r164) gL_does_X4_join hd4_join hK hN hD (by rfl) hA I rcX rfl ⟨rfl, rfl⟩ ⟨Nat.le_of_ble_eq_true rfl, Nat.le_of_ble_eq_true rfl⟩ rfl hl.1 rfl (Nat.le_of_ble_eq_true rfl) ⟨Nat.le_of_ble_eq_true rfl, Nat.le_of_ble_eq_true rfl⟩ dL_does_496 (fun wad H locs hD I => ?_)
                  refine lv_ldc (v := (-2000000101)) hx hb C.2.2.2.1 (C.2.2.2.2 _ k_does_84) dL_does_499 ?_
                  refine lv_icmp_ne (tgt := 521) hx hb dL_does_501 rfl (fun c165 => ?_) (fun c165 => ?_)
                  · have hrun := p_neg hrun c165
                    refine lv_iconst (v := 0) hx hb dL_does_521 rfl ?_
                    cases hrun
                    refine W.widen (k := 5) (n := 35) (Nat.le_of_ble_eq_true rfl) (Nat.le_of_ble_eq_true rfl) ?_
                    exact rG_z (u := wad) C hr hlk hQ I hD (nb01 (Or.inl rfl)) rfl dL_does_522
                  · have hrun := p_pos hrun c165
                    refine lv_aload_n hx hb dL_does_504 rfl (lv_at hl 3 rfl) ?_
                    refine lv_iload hx hb dL_does_505 (lv_at hl 11 rfl) ?_
                    refine lv_iload hx hb dL_does_507 (lv_at hl 2 rfl) ?_
                    obtain ⟨r166, h_r166, hrun⟩ := p_bnd hrun
                    refine jFG_i (rest := []) C (c4_join h_r166) gL_does_X4_join hd4_join hK hN hD (by rfl) hA I rcX rfl ⟨rfl, rfl⟩ ⟨Nat.le_of_ble_eq_true rfl, Nat.le_of_ble_eq_true rfl⟩ rfl hl.1 rfl (Nat.le_of_ble_eq_true rfl) ⟨Nat.le_of_ble_eq_true rfl, Nat.le_of_ble_eq_true rfl⟩ dL_does_509 (fun wad H locs hD I => ?_)
                    refine lv_iload hx hb dL_does_512 (lv_at hl 0 rfl) ?_
                    refine lv_icmp_ne (tgt := 521) hx hb dL_does_514 rfl (fun c167 => ?_) (fun c167 => ?_)
                    · have hrun := p_neg hrun c167
                      refine lv_iconst (v := 0) hx hb dL_does_521 rfl ?_
                      cases hrun
                      refine W.widen (k := 5) (n := 35) (Nat.le_of_ble_eq_true rfl) (Nat.le_of_ble_eq_true rfl) ?_
                      exact rG_z (u := wad) C hr hlk hQ I hD (nb01 (Or.inl rfl)) rfl dL_does_522
                    · have hrun := p_pos hrun c167
                      refine lv_iconst (v := 1) hx hb dL_does_517 rfl ?_
                      refine lv_goto (tgt := 522) hx hb dL_does_518 rfl ?_
                      cases hrun
                      refine W.widen (k := 5) (n := 35) (Nat.le_of_ble_eq_true rfl) (Nat.le_of_ble_eq_true rfl) ?_
                      exact rG_z (u := wad) C hr hlk hQ I hD (nb01 (Or.inr rfl)) rfl dL_does_522
                · have hrun := p_pos hrun c162
                  refine lv_iconst (v := 1) hx hb dL_does_484 rfl ?_
                  refine lv_goto (tgt := 489) hx hb dL_does_485 rfl ?_
                  refine lv_iadd hx hb dL_does_489 ?_
                  obtain ⟨b168, hrun⟩ := p_chk hrun
                  refine stZ_zd C hK hD I b168 dL_does_490 (fun H locs I => ?_)
                  refine lv_aload_n hx hb dL_does_491 rfl (lv_at hl 3 rfl) ?_
                  refine lv_iload hx hb dL_does_492 (lv_at hl 11 rfl) ?_
                  refine lv_iload hx hb dL_does_494 (lv_at hl 9 rfl) ?_
                  obtain ⟨r169, h_r169, hrun⟩ := p_bnd hrun
                  refine jFG_i (rest := []) C (c4_join h_r169) gL_does_X4_join hd4_join hK hN hD (by rfl) hA I rcX rfl ⟨rfl, rfl⟩ ⟨Nat.le_of_ble_eq_true rfl, Nat.le_of_ble_eq_true rfl⟩ rfl hl.1 rfl (Nat.le_of_ble_eq_true rfl) ⟨Nat.le_of_ble_eq_true rfl, Nat.le_of_ble_eq_true rfl⟩ dL_does_496 (fun wad H locs hD I => ?_)
                  refine lv_ldc (v := (-2000000101)) hx hb C.2.2.2.1 (C.2.2.2.2 _ k_does_84) dL_does_499 ?_
                  refine lv_icmp_ne (tgt := 521) hx hb dL_does_501 rfl (fun c170 => ?_) (fun c170 => ?_)
                  · have hrun := p_neg hrun c170
                    refine lv_iconst (v := 0) hx hb dL_does_521 rfl ?_
                    cases hrun
                    refine W.widen (k := 5) (n := 35) (Nat.le_of_ble_eq_true rfl) (Nat.le_of_ble_eq_true rfl) ?_
                    exact rG_z (u := wad) C hr hlk hQ I hD (nb01 (Or.inl rfl)) rfl dL_does_522
                  · have hrun := p_pos hrun c170
                    refine lv_aload_n hx hb dL_does_504 rfl (lv_at hl 3 rfl) ?_
                    refine lv_iload hx hb dL_does_505 (lv_at hl 11 rfl) ?_
                    refine lv_iload hx hb dL_does_507 (lv_at hl 2 rfl) ?_
                    obtain ⟨r171, h_r171, hrun⟩ := p_bnd hrun
                    refine jFG_i (rest := []) C (c4_join h_r171) gL_does_X4_join hd4_join hK hN hD (by rfl) hA I rcX rfl ⟨rfl, rfl⟩ ⟨Nat.le_of_ble_eq_true rfl, Nat.le_of_ble_eq_true rfl⟩ rfl hl.1 rfl (Nat.le_of_ble_eq_true rfl) ⟨Nat.le_of_ble_eq_true rfl, Nat.le_of_ble_eq_true rfl⟩ dL_does_509 (fun wad H locs hD I => ?_)
                    refine lv_iload hx hb dL_does_512 (lv_at hl 0 rfl) ?_
                    refine lv_icmp_ne (tgt := 521) hx hb dL_does_514 rfl (fun c172 => ?_) (fun c172 => ?_)
                    · have hrun := p_neg hrun c172
                      refine lv_iconst (v := 0) hx hb dL_does_521 rfl ?_
                      cases hrun
                      refine W.widen (k := 5) (n := 35) (Nat.le_of_ble_eq_true rfl) (Nat.le_of_ble_eq_true rfl) ?_
                      exact rG_z (u := wad) C hr hlk hQ I hD (nb01 (Or.inl rfl)) rfl dL_does_522
                    · have hrun := p_pos hrun c172
                      refine lv_iconst (v := 1) hx hb dL_does_517 rfl ?_
                      refine lv_goto (tgt := 522) hx hb dL_does_518 rfl ?_
                      cases hrun
                      refine W.widen (k := 5) (n := 35) (Nat.le_of_ble_eq_true rfl) (Nat.le_of_ble_eq_true rfl) ?_
                      exact rG_z (u := wad) C hr hlk hQ I hD (nb01 (Or.inr rfl)) rfl dL_does_522
          · have hrun := p_pos hrun c35
            refine lv_iload hx hb dL_does_309 (lv_at hl 5 rfl) ?_
            refine lv_iconst (v := 3) hx hb dL_does_311 rfl ?_
            obtain ⟨r173, h_r173, hrun⟩ := p_bnd hrun
            refine jSS_i (rest := []) C (c_at h_r173) gL_does_L_at hd_at rfl ⟨rfl, rfl⟩ ⟨Nat.le_of_ble_eq_true rfl, Nat.le_of_ble_eq_true rfl⟩ rfl hl.1 rfl (Nat.le_of_ble_eq_true rfl) ⟨Nat.le_of_ble_eq_true rfl, Nat.le_of_ble_eq_true rfl⟩ dL_does_312 ?_
            refine lv_istore (lv' := [(10, .int r173), (9, .int s0), (0, .ref (ad 0)), (1, .ref (az 0)), (2, .ref (az 1)), (3, .int x3), (4, .int x4), (5, .ref (az 2)), (6, .int x6), (7, .int x7), (8, .int x8)]) hx hb dL_does_315 hl (by decide) rfl (fun ls hl => ?_)
            refine lv_aload_n hx hb dL_does_317 rfl (lv_at hl 3 rfl) ?_
            refine lv_iload hx hb dL_does_318 (lv_at hl 10 rfl) ?_
            refine lv_iload hx hb dL_does_320 (lv_at hl 0 rfl) ?_
            refine lv_if_ne (tgt := 335) hx hb dL_does_322 rfl (fun c174 => ?_) (fun c174 => ?_)
            · have hrun := p_neg hrun c174
              refine lv_iload hx hb dL_does_335 (lv_at hl 0 rfl) ?_
              refine lv_iconst (v := 1) hx hb dL_does_337 rfl ?_
              refine lv_icmp_ne (tgt := 351) hx hb dL_does_338 rfl (fun c175 => ?_) (fun c175 => ?_)
              · have hrun := p_neg hrun c175
                refine lv_aload_n hx hb dL_does_351 rfl (lv_at hl 3 rfl) ?_
                refine lv_iload hx hb dL_does_352 (lv_at hl 10 rfl) ?_
                obtain ⟨b176, hrun⟩ := p_chk hrun
                refine ldZ_zw C hK I.1 b176 dL_does_354 ?_
                obtain ⟨r177, h_r177, hrun⟩ := p_bnd hrun
                refine jSS_i (rest := [.int x8, .ref (az 0)]) C (c_least h_r177) gL_does_L_least hd_least rfl ⟨rfl, rfl⟩ ⟨Nat.le_of_ble_eq_true rfl, Nat.le_of_ble_eq_true rfl⟩ rfl hl.1 rfl (Nat.le_of_ble_eq_true rfl) ⟨Nat.le_of_ble_eq_true rfl, Nat.le_of_ble_eq_true rfl⟩ dL_does_355 ?_
                obtain ⟨b178, hrun⟩ := p_chk hrun
                refine stZ_zw C hK hD I b178 dL_does_358 (fun H locs I => ?_)
                refine lv_aload_n hx hb dL_does_359 rfl (lv_at hl 3 rfl) ?_
                refine lv_iload hx hb dL_does_360 (lv_at hl 10 rfl) ?_
                obtain ⟨b179, hrun⟩ := p_chk hrun
                refine ldZ_zw C hK I.1 b179 dL_does_362 ?_
                refine lv_aload hx hb dL_does_363 (lv_at hl 7 rfl) ?_
                obtain ⟨r180, h_r180, hrun⟩ := p_bnd hrun
                refine jTE_v (rest := []) C (c_table h_r180) gL_does_L_table hd_table hK hN hD hA I rfl ⟨rfl, rfl⟩ ⟨Nat.le_of_ble_eq_true rfl, Nat.le_of_ble_eq_true rfl⟩ rfl hl.1 rfl (Nat.le_of_ble_eq_true rfl) ⟨Nat.le_of_ble_eq_true rfl, Nat.le_of_ble_eq_true rfl⟩ dL_does_365 (fun H locs I => ?_)
                refine lv_aload_n hx hb dL_does_368 rfl (lv_at hl 2 rfl) ?_
                refine lv_iload hx hb dL_does_369 (lv_at hl 10 rfl) ?_
                refine lv_iconst (v := 3) hx hb dL_does_371 rfl ?_
                obtain ⟨r181, h_r181, hrun⟩ := p_bnd hrun
                refine jFE_i (wb := wA az cI (upd v_zw (Int32.toNatClampNeg x8) r177) v_zd r180) (rest := []) C (c4_change h_r181) gL_does_X4_change hd4_change hK hN hD (by rfl) hA I rcX rfl ⟨rfl, rfl⟩ ⟨Nat.le_of_ble_eq_true rfl, Nat.le_of_ble_eq_true rfl⟩ rfl hl.1 rfl (Nat.le_of_ble_eq_true rfl) ⟨Nat.le_of_ble_eq_true rfl, Nat.le_of_ble_eq_true rfl⟩ dL_does_372 (fun H locs I => ?_)
                refine lv_ldc (v := (-2000000102)) hx hb C.2.2.2.1 (C.2.2.2.2 _ k_does_68) dL_does_375 ?_
                refine lv_icmp_ne (tgt := 416) hx hb dL_does_377 rfl (fun c182 => ?_) (fun c182 => ?_)
                · have hrun := p_neg hrun c182
                  refine lv_iconst (v := 0) hx hb dL_does_416 rfl ?_
                  cases hrun
                  refine W.widen (k := 5) (n := 35) (Nat.le_of_ble_eq_true rfl) (Nat.le_of_ble_eq_true rfl) ?_
                  exact rG_z (u := wad) C hr hlk hQ I hD (nb01 (Or.inl rfl)) rfl dL_does_417
                · have hrun := p_pos hrun c182
                  refine lv_aload_n hx hb dL_does_380 rfl (lv_at hl 2 rfl) ?_
                  refine lv_iload hx hb dL_does_381 (lv_at hl 8 rfl) ?_
                  refine lv_iconst (v := 0) hx hb dL_does_383 rfl ?_
                  obtain ⟨r183, h_r183, hrun⟩ := p_bnd hrun
                  refine jFE_i (wb := wA az cI (upd v_zw (Int32.toNatClampNeg x8) r177) v_zd r180) (rest := []) C (c4_change h_r183) gL_does_X4_change hd4_change hK hN hD (by rfl) hA I rcX rfl ⟨rfl, rfl⟩ ⟨Nat.le_of_ble_eq_true rfl, Nat.le_of_ble_eq_true rfl⟩ rfl hl.1 rfl (Nat.le_of_ble_eq_true rfl) ⟨Nat.le_of_ble_eq_true rfl, Nat.le_of_ble_eq_true rfl⟩ dL_does_384 (fun H locs I => ?_)
                  refine lv_ldc (v := (-2000000101)) hx hb C.2.2.2.1 (C.2.2.2.2 _ k_does_84) dL_does_387 ?_
                  refine lv_icmp_ne (tgt := 416) hx hb dL_does_389 rfl (fun c184 => ?_) (fun c184 => ?_)
                  · have hrun := p_neg hrun c184
                    refine lv_iconst (v := 0) hx hb dL_does_416 rfl ?_
                    cases hrun
                    refine W.widen (k := 5) (n := 35) (Nat.le_of_ble_eq_true rfl) (Nat.le_of_ble_eq_true rfl) ?_
                    exact rG_z (u := wad) C hr hlk hQ I hD (nb01 (Or.inl rfl)) rfl dL_does_417
                  · have hrun := p_pos hrun c184
                    refine lv_aload_n hx hb dL_does_392 rfl (lv_at hl 2 rfl) ?_
                    refine lv_iload hx hb dL_does_393 (lv_at hl 10 rfl) ?_
                    refine lv_iload hx hb dL_does_395 (lv_at hl 0 rfl) ?_
                    obtain ⟨r185, h_r185, hrun⟩ := p_bnd hrun
                    refine jFE_i (wb := wA az cI (upd v_zw (Int32.toNatClampNeg x8) r177) v_zd r180) (rest := []) C (c4_change h_r185) gL_does_X4_change hd4_change hK hN hD (by rfl) hA I rcX rfl ⟨rfl, rfl⟩ ⟨Nat.le_of_ble_eq_true rfl, Nat.le_of_ble_eq_true rfl⟩ rfl hl.1 rfl (Nat.le_of_ble_eq_true rfl) ⟨Nat.le_of_ble_eq_true rfl, Nat.le_of_ble_eq_true rfl⟩ dL_does_397 (fun H locs I => ?_)
                    refine lv_aload hx hb dL_does_400 (lv_at hl 7 rfl) ?_
                    refine lv_iconst (v := 0) hx hb dL_does_402 rfl ?_
                    obtain ⟨b186, hrun⟩ := p_chk hrun
                    refine ldZ_zt C hK I.1 b186 dL_does_403 ?_
                    refine lv_aload hx hb dL_does_404 (lv_at hl 7 rfl) ?_
                    refine lv_iconst (v := 3) hx hb dL_does_406 rfl ?_
                    obtain ⟨b187, hrun⟩ := p_chk hrun
                    refine ldZ_zt C hK I.1 b187 dL_does_407 ?_
                    refine lv_iadd hx hb dL_does_408 ?_
                    refine lv_icmp_ne (tgt := 416) hx hb dL_does_409 rfl (fun c188 => ?_) (fun c188 => ?_)
                    · have hrun := p_neg hrun c188
                      refine lv_iconst (v := 0) hx hb dL_does_416 rfl ?_
                      cases hrun
                      refine W.widen (k := 5) (n := 35) (Nat.le_of_ble_eq_true rfl) (Nat.le_of_ble_eq_true rfl) ?_
                      exact rG_z (u := wad) C hr hlk hQ I hD (nb01 (Or.inl rfl)) rfl dL_does_417
                    · have hrun := p_pos hrun c188
                      refine lv_iconst (v := 1) hx hb dL_does_412 rfl ?_
                      refine lv_goto (tgt := 417) hx hb dL_does_413 rfl ?_
                      cases hrun
                      refine W.widen (k := 5) (n := 35) (Nat.le_of_ble_eq_true rfl) (Nat.le_of_ble_eq_true rfl) ?_
                      exact rG_z (u := wad) C hr hlk hQ I hD (nb01 (Or.inr rfl)) rfl dL_does_417
              · have hrun := p_pos hrun c175
                refine lv_aload_n hx hb dL_does_341 rfl (lv_at hl 3 rfl) ?_
                refine lv_iload hx hb dL_does_342 (lv_at hl 10 rfl) ?_
                obtain ⟨b189, hrun⟩ := p_chk hrun
                refine ldZ_zw C hK I.1 b189 dL_does_344 ?_
                obtain ⟨r190, h_r190, hrun⟩ := p_bnd hrun
                refine jSS_i (rest := [.int x8, .ref (az 0)]) C (c_mirror h_r190) gL_does_L_mirror hd_mirror rfl ⟨rfl, rfl⟩ ⟨Nat.le_of_ble_eq_true rfl, Nat.le_of_ble_eq_true rfl⟩ rfl hl.1 rfl (Nat.le_of_ble_eq_true rfl) ⟨Nat.le_of_ble_eq_true rfl, Nat.le_of_ble_eq_true rfl⟩ dL_does_345 ?_
                refine lv_goto (tgt := 358) hx hb dL_does_348 rfl ?_
                obtain ⟨b191, hrun⟩ := p_chk hrun
                refine stZ_zw C hK hD I b191 dL_does_358 (fun H locs I => ?_)
                refine lv_aload_n hx hb dL_does_359 rfl (lv_at hl 3 rfl) ?_
                refine lv_iload hx hb dL_does_360 (lv_at hl 10 rfl) ?_
                obtain ⟨b192, hrun⟩ := p_chk hrun
                refine ldZ_zw C hK I.1 b192 dL_does_362 ?_
                refine lv_aload hx hb dL_does_363 (lv_at hl 7 rfl) ?_
                obtain ⟨r193, h_r193, hrun⟩ := p_bnd hrun
                refine jTE_v (rest := []) C (c_table h_r193) gL_does_L_table hd_table hK hN hD hA I rfl ⟨rfl, rfl⟩ ⟨Nat.le_of_ble_eq_true rfl, Nat.le_of_ble_eq_true rfl⟩ rfl hl.1 rfl (Nat.le_of_ble_eq_true rfl) ⟨Nat.le_of_ble_eq_true rfl, Nat.le_of_ble_eq_true rfl⟩ dL_does_365 (fun H locs I => ?_)
                refine lv_aload_n hx hb dL_does_368 rfl (lv_at hl 2 rfl) ?_
                refine lv_iload hx hb dL_does_369 (lv_at hl 10 rfl) ?_
                refine lv_iconst (v := 3) hx hb dL_does_371 rfl ?_
                obtain ⟨r194, h_r194, hrun⟩ := p_bnd hrun
                refine jFE_i (wb := wA az cI (upd v_zw (Int32.toNatClampNeg x8) r190) v_zd r193) (rest := []) C (c4_change h_r194) gL_does_X4_change hd4_change hK hN hD (by rfl) hA I rcX rfl ⟨rfl, rfl⟩ ⟨Nat.le_of_ble_eq_true rfl, Nat.le_of_ble_eq_true rfl⟩ rfl hl.1 rfl (Nat.le_of_ble_eq_true rfl) ⟨Nat.le_of_ble_eq_true rfl, Nat.le_of_ble_eq_true rfl⟩ dL_does_372 (fun H locs I => ?_)
                refine lv_ldc (v := (-2000000102)) hx hb C.2.2.2.1 (C.2.2.2.2 _ k_does_68) dL_does_375 ?_
                refine lv_icmp_ne (tgt := 416) hx hb dL_does_377 rfl (fun c195 => ?_) (fun c195 => ?_)
                · have hrun := p_neg hrun c195
                  refine lv_iconst (v := 0) hx hb dL_does_416 rfl ?_
                  cases hrun
                  refine W.widen (k := 5) (n := 35) (Nat.le_of_ble_eq_true rfl) (Nat.le_of_ble_eq_true rfl) ?_
                  exact rG_z (u := wad) C hr hlk hQ I hD (nb01 (Or.inl rfl)) rfl dL_does_417
                · have hrun := p_pos hrun c195
                  refine lv_aload_n hx hb dL_does_380 rfl (lv_at hl 2 rfl) ?_
                  refine lv_iload hx hb dL_does_381 (lv_at hl 8 rfl) ?_
                  refine lv_iconst (v := 0) hx hb dL_does_383 rfl ?_
                  obtain ⟨r196, h_r196, hrun⟩ := p_bnd hrun
                  refine jFE_i (wb := wA az cI (upd v_zw (Int32.toNatClampNeg x8) r190) v_zd r193) (rest := []) C (c4_change h_r196) gL_does_X4_change hd4_change hK hN hD (by rfl) hA I rcX rfl ⟨rfl, rfl⟩ ⟨Nat.le_of_ble_eq_true rfl, Nat.le_of_ble_eq_true rfl⟩ rfl hl.1 rfl (Nat.le_of_ble_eq_true rfl) ⟨Nat.le_of_ble_eq_true rfl, Nat.le_of_ble_eq_true rfl⟩ dL_does_384 (fun H locs I => ?_)
                  refine lv_ldc (v := (-2000000101)) hx hb C.2.2.2.1 (C.2.2.2.2 _ k_does_84) dL_does_387 ?_
                  refine lv_icmp_ne (tgt := 416) hx hb dL_does_389 rfl (fun c197 => ?_) (fun c197 => ?_)
                  · have hrun := p_neg hrun c197
                    refine lv_iconst (v := 0) hx hb dL_does_416 rfl ?_
                    cases hrun
                    refine W.widen (k := 5) (n := 35) (Nat.le_of_ble_eq_true rfl) (Nat.le_of_ble_eq_true rfl) ?_
                    exact rG_z (u := wad) C hr hlk hQ I hD (nb01 (Or.inl rfl)) rfl dL_does_417
                  · have hrun := p_pos hrun c197
                    refine lv_aload_n hx hb dL_does_392 rfl (lv_at hl 2 rfl) ?_
                    refine lv_iload hx hb dL_does_393 (lv_at hl 10 rfl) ?_
                    refine lv_iload hx hb dL_does_395 (lv_at hl 0 rfl) ?_
                    obtain ⟨r198, h_r198, hrun⟩ := p_bnd hrun
                    refine jFE_i (wb := wA az cI (upd v_zw (Int32.toNatClampNeg x8) r190) v_zd r193) (rest := []) C (c4_change h_r198) gL_does_X4_change hd4_change hK hN hD (by rfl) hA I rcX rfl ⟨rfl, rfl⟩ ⟨Nat.le_of_ble_eq_true rfl, Nat.le_of_ble_eq_true rfl⟩ rfl hl.1 rfl (Nat.le_of_ble_eq_true rfl) ⟨Nat.le_of_ble_eq_true rfl, Nat.le_of_ble_eq_true rfl⟩ dL_does_397 (fun H locs I => ?_)
                    refine lv_aload hx hb dL_does_400 (lv_at hl 7 rfl) ?_
                    refine lv_iconst (v := 0) hx hb dL_does_402 rfl ?_
                    obtain ⟨b199, hrun⟩ := p_chk hrun
                    refine ldZ_zt C hK I.1 b199 dL_does_403 ?_
                    refine lv_aload hx hb dL_does_404 (lv_at hl 7 rfl) ?_
                    refine lv_iconst (v := 3) hx hb dL_does_406 rfl ?_
                    obtain ⟨b200, hrun⟩ := p_chk hrun
                    refine ldZ_zt C hK I.1 b200 dL_does_407 ?_
                    refine lv_iadd hx hb dL_does_408 ?_
                    refine lv_icmp_ne (tgt := 416) hx hb dL_does_409 rfl (fun c201 => ?_) (fun c201 => ?_)
                    · have hrun := p_neg hrun c201
                      refine lv_iconst (v := 0) hx hb dL_does_416 rfl ?_
                      cases hrun
                      refine W.widen (k := 5) (n := 35) (Nat.le_of_ble_eq_true rfl) (Nat.le_of_ble_eq_true rfl) ?_
                      exact rG_z (u := wad) C hr hlk hQ I hD (nb01 (Or.inl rfl)) rfl dL_does_417
                    · have hrun := p_pos hrun c201
                      refine lv_iconst (v := 1) hx hb dL_does_412 rfl ?_
                      refine lv_goto (tgt := 417) hx hb dL_does_413 rfl ?_
                      cases hrun
                      refine W.widen (k := 5) (n := 35) (Nat.le_of_ble_eq_true rfl) (Nat.le_of_ble_eq_true rfl) ?_
                      exact rG_z (u := wad) C hr hlk hQ I hD (nb01 (Or.inr rfl)) rfl dL_does_417
            · have hrun := p_pos hrun c174
              refine lv_aload_n hx hb dL_does_325 rfl (lv_at hl 3 rfl) ?_
              refine lv_iload hx hb dL_does_326 (lv_at hl 10 rfl) ?_
              obtain ⟨b202, hrun⟩ := p_chk hrun
              refine ldZ_zw C hK I.1 b202 dL_does_328 ?_
              obtain ⟨r203, h_r203, hrun⟩ := p_bnd hrun
              refine jSS_i (rest := [.int x8, .ref (az 0)]) C (c_back h_r203) gL_does_L_back hd_back rfl ⟨rfl, rfl⟩ ⟨Nat.le_of_ble_eq_true rfl, Nat.le_of_ble_eq_true rfl⟩ rfl hl.1 rfl (Nat.le_of_ble_eq_true rfl) ⟨Nat.le_of_ble_eq_true rfl, Nat.le_of_ble_eq_true rfl⟩ dL_does_329 ?_
              refine lv_goto (tgt := 358) hx hb dL_does_332 rfl ?_
              obtain ⟨b204, hrun⟩ := p_chk hrun
              refine stZ_zw C hK hD I b204 dL_does_358 (fun H locs I => ?_)
              refine lv_aload_n hx hb dL_does_359 rfl (lv_at hl 3 rfl) ?_
              refine lv_iload hx hb dL_does_360 (lv_at hl 10 rfl) ?_
              obtain ⟨b205, hrun⟩ := p_chk hrun
              refine ldZ_zw C hK I.1 b205 dL_does_362 ?_
              refine lv_aload hx hb dL_does_363 (lv_at hl 7 rfl) ?_
              obtain ⟨r206, h_r206, hrun⟩ := p_bnd hrun
              refine jTE_v (rest := []) C (c_table h_r206) gL_does_L_table hd_table hK hN hD hA I rfl ⟨rfl, rfl⟩ ⟨Nat.le_of_ble_eq_true rfl, Nat.le_of_ble_eq_true rfl⟩ rfl hl.1 rfl (Nat.le_of_ble_eq_true rfl) ⟨Nat.le_of_ble_eq_true rfl, Nat.le_of_ble_eq_true rfl⟩ dL_does_365 (fun H locs I => ?_)
              refine lv_aload_n hx hb dL_does_368 rfl (lv_at hl 2 rfl) ?_
              refine lv_iload hx hb dL_does_369 (lv_at hl 10 rfl) ?_
              refine lv_iconst (v := 3) hx hb dL_does_371 rfl ?_
              obtain ⟨r207, h_r207, hrun⟩ := p_bnd hrun
              refine jFE_i (wb := wA az cI (upd v_zw (Int32.toNatClampNeg x8) r203) v_zd r206) (rest := []) C (c4_change h_r207) gL_does_X4_change hd4_change hK hN hD (by rfl) hA I rcX rfl ⟨rfl, rfl⟩ ⟨Nat.le_of_ble_eq_true rfl, Nat.le_of_ble_eq_true rfl⟩ rfl hl.1 rfl (Nat.le_of_ble_eq_true rfl) ⟨Nat.le_of_ble_eq_true rfl, Nat.le_of_ble_eq_true rfl⟩ dL_does_372 (fun H locs I => ?_)
              refine lv_ldc (v := (-2000000102)) hx hb C.2.2.2.1 (C.2.2.2.2 _ k_does_68) dL_does_375 ?_
              refine lv_icmp_ne (tgt := 416) hx hb dL_does_377 rfl (fun c208 => ?_) (fun c208 => ?_)
              · have hrun := p_neg hrun c208
                refine lv_iconst (v := 0) hx hb dL_does_416 rfl ?_
                cases hrun
                refine W.widen (k := 5) (n := 35) (Nat.le_of_ble_eq_true rfl) (Nat.le_of_ble_eq_true rfl) ?_
                exact rG_z (u := wad) C hr hlk hQ I hD (nb01 (Or.inl rfl)) rfl dL_does_417
              · have hrun := p_pos hrun c208
                refine lv_aload_n hx hb dL_does_380 rfl (lv_at hl 2 rfl) ?_
                refine lv_iload hx hb dL_does_381 (lv_at hl 8 rfl) ?_
                refine lv_iconst (v := 0) hx hb dL_does_383 rfl ?_
                obtain ⟨r209, h_r209, hrun⟩ := p_bnd hrun
                refine jFE_i (wb := wA az cI (upd v_zw (Int32.toNatClampNeg x8) r203) v_zd r206) (rest := []) C (c4_change h_r209) gL_does_X4_change hd4_change hK hN hD (by rfl) hA I rcX rfl ⟨rfl, rfl⟩ ⟨Nat.le_of_ble_eq_true rfl, Nat.le_of_ble_eq_true rfl⟩ rfl hl.1 rfl (Nat.le_of_ble_eq_true rfl) ⟨Nat.le_of_ble_eq_true rfl, Nat.le_of_ble_eq_true rfl⟩ dL_does_384 (fun H locs I => ?_)
                refine lv_ldc (v := (-2000000101)) hx hb C.2.2.2.1 (C.2.2.2.2 _ k_does_84) dL_does_387 ?_
                refine lv_icmp_ne (tgt := 416) hx hb dL_does_389 rfl (fun c210 => ?_) (fun c210 => ?_)
                · have hrun := p_neg hrun c210
                  refine lv_iconst (v := 0) hx hb dL_does_416 rfl ?_
                  cases hrun
                  refine W.widen (k := 5) (n := 35) (Nat.le_of_ble_eq_true rfl) (Nat.le_of_ble_eq_true rfl) ?_
                  exact rG_z (u := wad) C hr hlk hQ I hD (nb01 (Or.inl rfl)) rfl dL_does_417
                · have hrun := p_pos hrun c210
                  refine lv_aload_n hx hb dL_does_392 rfl (lv_at hl 2 rfl) ?_
                  refine lv_iload hx hb dL_does_393 (lv_at hl 10 rfl) ?_
                  refine lv_iload hx hb dL_does_395 (lv_at hl 0 rfl) ?_
                  obtain ⟨r211, h_r211, hrun⟩ := p_bnd hrun
                  refine jFE_i (wb := wA az cI (upd v_zw (Int32.toNatClampNeg x8) r203) v_zd r206) (rest := []) C (c4_change h_r211) gL_does_X4_change hd4_change hK hN hD (by rfl) hA I rcX rfl ⟨rfl, rfl⟩ ⟨Nat.le_of_ble_eq_true rfl, Nat.le_of_ble_eq_true rfl⟩ rfl hl.1 rfl (Nat.le_of_ble_eq_true rfl) ⟨Nat.le_of_ble_eq_true rfl, Nat.le_of_ble_eq_true rfl⟩ dL_does_397 (fun H locs I => ?_)
                  refine lv_aload hx hb dL_does_400 (lv_at hl 7 rfl) ?_
                  refine lv_iconst (v := 0) hx hb dL_does_402 rfl ?_
                  obtain ⟨b212, hrun⟩ := p_chk hrun
                  refine ldZ_zt C hK I.1 b212 dL_does_403 ?_
                  refine lv_aload hx hb dL_does_404 (lv_at hl 7 rfl) ?_
                  refine lv_iconst (v := 3) hx hb dL_does_406 rfl ?_
                  obtain ⟨b213, hrun⟩ := p_chk hrun
                  refine ldZ_zt C hK I.1 b213 dL_does_407 ?_
                  refine lv_iadd hx hb dL_does_408 ?_
                  refine lv_icmp_ne (tgt := 416) hx hb dL_does_409 rfl (fun c214 => ?_) (fun c214 => ?_)
                  · have hrun := p_neg hrun c214
                    refine lv_iconst (v := 0) hx hb dL_does_416 rfl ?_
                    cases hrun
                    refine W.widen (k := 5) (n := 35) (Nat.le_of_ble_eq_true rfl) (Nat.le_of_ble_eq_true rfl) ?_
                    exact rG_z (u := wad) C hr hlk hQ I hD (nb01 (Or.inl rfl)) rfl dL_does_417
                  · have hrun := p_pos hrun c214
                    refine lv_iconst (v := 1) hx hb dL_does_412 rfl ?_
                    refine lv_goto (tgt := 417) hx hb dL_does_413 rfl ?_
                    cases hrun
                    refine W.widen (k := 5) (n := 35) (Nat.le_of_ble_eq_true rfl) (Nat.le_of_ble_eq_true rfl) ?_
                    exact rG_z (u := wad) C hr hlk hQ I hD (nb01 (Or.inr rfl)) rfl dL_does_417
        · have hrun := p_pos hrun c34
          refine lv_iload hx hb dL_does_208 (lv_at hl 5 rfl) ?_
          refine lv_aload_n hx hb dL_does_210 rfl (lv_at hl 2 rfl) ?_
          refine lv_iload hx hb dL_does_211 (lv_at hl 9 rfl) ?_
          obtain ⟨b215, hrun⟩ := p_chk hrun
          refine ldZ_zw C hK I.1 b215 dL_does_213 ?_
          obtain ⟨r216, h_r216, hrun⟩ := p_bnd hrun
          refine jSS_i (rest := [.int x4]) C (c_size h_r216) gL_does_L_size hd_size rfl ⟨rfl, rfl⟩ ⟨Nat.le_of_ble_eq_true rfl, Nat.le_of_ble_eq_true rfl⟩ rfl hl.1 rfl (Nat.le_of_ble_eq_true rfl) ⟨Nat.le_of_ble_eq_true rfl, Nat.le_of_ble_eq_true rfl⟩ dL_does_214 ?_
          obtain ⟨r217, h_r217, hrun⟩ := p_bnd hrun
          refine jSS_i (rest := []) C (c_at h_r217) gL_does_L_at hd_at rfl ⟨rfl, rfl⟩ ⟨Nat.le_of_ble_eq_true rfl, Nat.le_of_ble_eq_true rfl⟩ rfl hl.1 rfl (Nat.le_of_ble_eq_true rfl) ⟨Nat.le_of_ble_eq_true rfl, Nat.le_of_ble_eq_true rfl⟩ dL_does_217 ?_
          refine lv_istore (lv' := [(10, .int r217), (9, .int s0), (0, .ref (ad 0)), (1, .ref (az 0)), (2, .ref (az 1)), (3, .int x3), (4, .int x4), (5, .ref (az 2)), (6, .int x6), (7, .int x7), (8, .int x8)]) hx hb dL_does_220 hl (by decide) rfl (fun ls hl => ?_)
          refine lv_aload_n hx hb dL_does_222 rfl (lv_at hl 2 rfl) ?_
          refine lv_iload hx hb dL_does_223 (lv_at hl 10 rfl) ?_
          refine lv_aload_n hx hb dL_does_225 rfl (lv_at hl 3 rfl) ?_
          refine lv_iload hx hb dL_does_226 (lv_at hl 10 rfl) ?_
          obtain ⟨b218, hrun⟩ := p_chk hrun
          refine ldZ_zw C hK I.1 b218 dL_does_228 ?_
          obtain ⟨r219, h_r219, hrun⟩ := p_bnd hrun
          refine jSS_i (rest := [.int x8, .ref (ad 0)]) C (c_size h_r219) gL_does_L_size hd_size rfl ⟨rfl, rfl⟩ ⟨Nat.le_of_ble_eq_true rfl, Nat.le_of_ble_eq_true rfl⟩ rfl hl.1 rfl (Nat.le_of_ble_eq_true rfl) ⟨Nat.le_of_ble_eq_true rfl, Nat.le_of_ble_eq_true rfl⟩ dL_does_229 ?_
          obtain ⟨r220, h_r220, hrun⟩ := p_bnd hrun
          refine jFE_i (wb := wA az cI v_zw v_zd v_zt) (rest := []) C (c4_turn h_r220) gL_does_X4_turn hd4_turn hK hN hD (by rfl) hA I rcX rfl ⟨rfl, rfl⟩ ⟨Nat.le_of_ble_eq_true rfl, Nat.le_of_ble_eq_true rfl⟩ rfl hl.1 rfl (Nat.le_of_ble_eq_true rfl) ⟨Nat.le_of_ble_eq_true rfl, Nat.le_of_ble_eq_true rfl⟩ dL_does_232 (fun H locs I => ?_)
          refine lv_ldc (v := (-2000000102)) hx hb C.2.2.2.1 (C.2.2.2.2 _ k_does_68) dL_does_235 ?_
          refine lv_icmp_ne (tgt := 264) hx hb dL_does_237 rfl (fun c221 => ?_) (fun c221 => ?_)
          · have hrun := p_neg hrun c221
            refine lv_iconst (v := 0) hx hb dL_does_264 rfl ?_
            cases hrun
            refine W.widen (k := 5) (n := 35) (Nat.le_of_ble_eq_true rfl) (Nat.le_of_ble_eq_true rfl) ?_
            exact rG_z (u := wad) C hr hlk hQ I hD (nb01 (Or.inl rfl)) rfl dL_does_265
          · have hrun := p_pos hrun c221
            refine lv_aload_n hx hb dL_does_240 rfl (lv_at hl 2 rfl) ?_
            refine lv_iload hx hb dL_does_241 (lv_at hl 10 rfl) ?_
            refine lv_iconst (v := (-1)) hx hb dL_does_243 rfl ?_
            obtain ⟨r222, h_r222, hrun⟩ := p_bnd hrun
            refine jFE_i (wb := wA az cI v_zw v_zd v_zt) (rest := []) C (c4_turn h_r222) gL_does_X4_turn hd4_turn hK hN hD (by rfl) hA I rcX rfl ⟨rfl, rfl⟩ ⟨Nat.le_of_ble_eq_true rfl, Nat.le_of_ble_eq_true rfl⟩ rfl hl.1 rfl (Nat.le_of_ble_eq_true rfl) ⟨Nat.le_of_ble_eq_true rfl, Nat.le_of_ble_eq_true rfl⟩ dL_does_244 (fun H locs I => ?_)
            refine lv_ldc (v := (-2000000102)) hx hb C.2.2.2.1 (C.2.2.2.2 _ k_does_68) dL_does_247 ?_
            refine lv_icmp_ne (tgt := 264) hx hb dL_does_249 rfl (fun c223 => ?_) (fun c223 => ?_)
            · have hrun := p_neg hrun c223
              refine lv_iconst (v := 0) hx hb dL_does_264 rfl ?_
              cases hrun
              refine W.widen (k := 5) (n := 35) (Nat.le_of_ble_eq_true rfl) (Nat.le_of_ble_eq_true rfl) ?_
              exact rG_z (u := wad) C hr hlk hQ I hD (nb01 (Or.inl rfl)) rfl dL_does_265
            · have hrun := p_pos hrun c223
              refine lv_aload_n hx hb dL_does_252 rfl (lv_at hl 2 rfl) ?_
              refine lv_iload hx hb dL_does_253 (lv_at hl 8 rfl) ?_
              refine lv_iconst (v := 0) hx hb dL_does_255 rfl ?_
              obtain ⟨r224, h_r224, hrun⟩ := p_bnd hrun
              refine jFE_i (wb := wA az cI v_zw v_zd v_zt) (rest := []) C (c4_turn h_r224) gL_does_X4_turn hd4_turn hK hN hD (by rfl) hA I rcX rfl ⟨rfl, rfl⟩ ⟨Nat.le_of_ble_eq_true rfl, Nat.le_of_ble_eq_true rfl⟩ rfl hl.1 rfl (Nat.le_of_ble_eq_true rfl) ⟨Nat.le_of_ble_eq_true rfl, Nat.le_of_ble_eq_true rfl⟩ dL_does_256 (fun H locs I => ?_)
              refine lv_ldc (v := (-2000000101)) hx hb C.2.2.2.1 (C.2.2.2.2 _ k_does_84) dL_does_259 ?_
              refine lv_icmp_eq (tgt := 266) hx hb dL_does_261 rfl (fun c225 => ?_) (fun c225 => ?_)
              · have hrun := p_pos hrun c225
                refine lv_aload_n hx hb dL_does_266 rfl (lv_at hl 3 rfl) ?_
                refine lv_iload hx hb dL_does_267 (lv_at hl 10 rfl) ?_
                refine lv_aload_n hx hb dL_does_269 rfl (lv_at hl 3 rfl) ?_
                refine lv_iload hx hb dL_does_270 (lv_at hl 10 rfl) ?_
                obtain ⟨b226, hrun⟩ := p_chk hrun
                refine ldZ_zw C hK I.1 b226 dL_does_272 ?_
                refine lv_iload hx hb dL_does_273 (lv_at hl 0 rfl) ?_
                obtain ⟨r227, h_r227, hrun⟩ := p_bnd hrun
                refine jSS_i (rest := [.int x8, .ref (az 0)]) C (c_turned h_r227) gL_does_L_turned hd_turned rfl ⟨rfl, rfl⟩ ⟨Nat.le_of_ble_eq_true rfl, Nat.le_of_ble_eq_true rfl⟩ rfl hl.1 rfl (Nat.le_of_ble_eq_true rfl) ⟨Nat.le_of_ble_eq_true rfl, Nat.le_of_ble_eq_true rfl⟩ dL_does_275 ?_
                obtain ⟨b228, hrun⟩ := p_chk hrun
                refine stZ_zw C hK hD I b228 dL_does_278 (fun H locs I => ?_)
                refine lv_aload_n hx hb dL_does_279 rfl (lv_at hl 2 rfl) ?_
                refine lv_iload hx hb dL_does_280 (lv_at hl 10 rfl) ?_
                refine lv_iload hx hb dL_does_282 (lv_at hl 0 rfl) ?_
                obtain ⟨r229, h_r229, hrun⟩ := p_bnd hrun
                refine jFE_i (wb := wA az cI (upd v_zw (Int32.toNatClampNeg x8) r227) v_zd v_zt) (rest := []) C (c4_turn h_r229) gL_does_X4_turn hd4_turn hK hN hD (by rfl) hA I rcX rfl ⟨rfl, rfl⟩ ⟨Nat.le_of_ble_eq_true rfl, Nat.le_of_ble_eq_true rfl⟩ rfl hl.1 rfl (Nat.le_of_ble_eq_true rfl) ⟨Nat.le_of_ble_eq_true rfl, Nat.le_of_ble_eq_true rfl⟩ dL_does_284 (fun H locs I => ?_)
                refine lv_aload_n hx hb dL_does_287 rfl (lv_at hl 3 rfl) ?_
                refine lv_iload hx hb dL_does_288 (lv_at hl 10 rfl) ?_
                obtain ⟨b230, hrun⟩ := p_chk hrun
                refine ldZ_zw C hK I.1 b230 dL_does_290 ?_
                obtain ⟨r231, h_r231, hrun⟩ := p_bnd hrun
                refine jSS_i (rest := [.int r229.1]) C (c_period h_r231) gL_does_L_period hd_period rfl ⟨rfl, rfl⟩ ⟨Nat.le_of_ble_eq_true rfl, Nat.le_of_ble_eq_true rfl⟩ rfl hl.1 rfl (Nat.le_of_ble_eq_true rfl) ⟨Nat.le_of_ble_eq_true rfl, Nat.le_of_ble_eq_true rfl⟩ dL_does_291 ?_
                refine lv_icmp_ne (tgt := 301) hx hb dL_does_294 rfl (fun c232 => ?_) (fun c232 => ?_)
                · have hrun := p_neg hrun c232
                  refine lv_iconst (v := 0) hx hb dL_does_301 rfl ?_
                  cases hrun
                  refine W.widen (k := 5) (n := 35) (Nat.le_of_ble_eq_true rfl) (Nat.le_of_ble_eq_true rfl) ?_
                  exact rG_z (u := wad) C hr hlk hQ I hD (nb01 (Or.inl rfl)) rfl dL_does_302
                · have hrun := p_pos hrun c232
                  refine lv_iconst (v := 1) hx hb dL_does_297 rfl ?_
                  refine lv_goto (tgt := 302) hx hb dL_does_298 rfl ?_
                  cases hrun
                  refine W.widen (k := 5) (n := 35) (Nat.le_of_ble_eq_true rfl) (Nat.le_of_ble_eq_true rfl) ?_
                  exact rG_z (u := wad) C hr hlk hQ I hD (nb01 (Or.inr rfl)) rfl dL_does_302
              · have hrun := p_neg hrun c225
                refine lv_iconst (v := 0) hx hb dL_does_264 rfl ?_
                cases hrun
                refine W.widen (k := 5) (n := 35) (Nat.le_of_ble_eq_true rfl) (Nat.le_of_ble_eq_true rfl) ?_
                exact rG_z (u := wad) C hr hlk hQ I hD (nb01 (Or.inl rfl)) rfl dL_does_265
      · have hrun := p_pos hrun c33
        exact join_63 v_zw v_zd v_zt v_roadCount v_readings v_psize v_good v_pbits v_letters v_afterLetter v_codes v_wv x6 _ _ _ hrun I (lv_sub hl [1, 2, 3, 4, 5, 6, 7] rfl)
  have join_30 : ∀ (v_zw : Nat → Int32) (v_zd : Nat → Int32) (v_zt : Nat → Int32) (v_roadCount : Int32) (v_readings : Int32) (v_psize : Int32) (v_good : Int32) (v_pbits : Int32) (v_letters : Int32) (v_afterLetter : Int32) (v_codes : Nat → Int32) (v_wv : Nat → Nat → Int32) (x6 : Int32) (x7 : Int32) (s0 : Int32) (H : Heap) (locs : List Loc) (ls : Array Slot), P_does_J30 v_zw v_zd v_zt v_roadCount v_readings v_psize v_good v_pbits v_letters v_afterLetter v_codes v_rsize v_cycleCount v_wn v_wv x3 x4 x6 x7 s0 = some res → IM D (va_A (WZ0 az ad fa ca wad cI cR cG v_wn) sz) s.heap H locs (WZ az ad fa ca wad cI cR cG v_zw v_zd v_zt v_roadCount v_readings v_psize v_good v_pbits v_letters v_afterLetter v_codes v_disc v_rsize v_cycleCount v_fo v_cy v_s v_closed v_traces v_crossings v_db_bits v_db_size v_db_allBits v_db_a v_db_b v_db_c v_db_d v_dn_bits v_dn_size v_dn_allBits v_dn_a v_dn_b v_dn_c v_dn_d v_wn v_wv) → lv_has ls 14 [(0, .ref (ad 0)), (1, .ref (az 0)), (2, .ref (az 1)), (3, .int x3), (4, .int x4), (5, .ref (az 2)), (6, .int x6), (7, .int x7)] → W p l e rm_does s m args below meth c H locs 0 0 Q (F0 m 30 ls [.int s0]) := by
    intro v_zw v_zd v_zt v_roadCount v_readings v_psize v_good v_pbits v_letters v_afterLetter v_codes v_wv x6 x7 s0 H locs ls hrun I hl
    unfold P_does_J30 at hrun
    refine lv_istore (lv' := [(8, .int s0), (0, .ref (ad 0)), (1, .ref (az 0)), (2, .ref (az 1)), (3, .int x3), (4, .int x4), (5, .ref (az 2)), (6, .int x6), (7, .int x7)]) hx hb dL_does_30 hl (by decide) rfl (fun ls hl => ?_)
    refine lv_iload hx hb dL_does_32 (lv_at hl 7 rfl) ?_
    refine lv_if_ne (tgt := 41) hx hb dL_does_34 rfl (fun c5 => ?_) (fun c5 => ?_)
    · have hrun := p_neg hrun c5
      refine lv_iload_n hx hb dL_does_41 rfl (lv_at hl 4 rfl) ?_
      refine lv_bipush (v := 7) hx hb dL_does_42 rfl ?_
      refine j_ishr hx hb dL_does_44 ?_
      refine lv_iload hx hb dL_does_45 (lv_at hl 7 rfl) ?_
      obtain ⟨r6, h_r6, hrun⟩ := p_bnd hrun
      refine jSS_i (rest := []) C (c_at h_r6) gL_does_L_at hd_at rfl ⟨rfl, rfl⟩ ⟨Nat.le_of_ble_eq_true rfl, Nat.le_of_ble_eq_true rfl⟩ rfl hl.1 rfl (Nat.le_of_ble_eq_true rfl) ⟨Nat.le_of_ble_eq_true rfl, Nat.le_of_ble_eq_true rfl⟩ dL_does_47 ?_
      exact join_50 v_zw v_zd v_zt v_roadCount v_readings v_psize v_good v_pbits v_letters v_afterLetter v_codes v_wv x6 x7 s0 r6 _ _ _ hrun I (lv_sub hl [1, 2, 3, 4, 5, 6, 7, 8, 0] rfl)
    · have hrun := p_pos hrun c5
      refine lv_iconst (v := 0) hx hb dL_does_37 rfl ?_
      refine lv_goto (tgt := 50) hx hb dL_does_38 rfl ?_
      exact join_50 v_zw v_zd v_zt v_roadCount v_readings v_psize v_good v_pbits v_letters v_afterLetter v_codes v_wv x6 x7 s0 0 _ _ _ hrun I (lv_sub hl [1, 2, 3, 4, 5, 6, 7, 8, 0] rfl)
  unfold P_does at hrun
  refine lv_aload_n hx hb dL_does_0 rfl (lv_at hl 2 rfl) ?_
  refine lv_iconst (v := 0) hx hb dL_does_1 rfl ?_
  obtain ⟨b1, hrun⟩ := p_chk hrun
  refine ldZ_zd C hK I.1 b1 dL_does_2 ?_
  refine lv_istore (lv' := [(6, .int (v_zd (Int32.toNatClampNeg 0))), (0, .ref (ad 0)), (1, .ref (az 0)), (2, .ref (az 1)), (3, .int x3), (4, .int x4), (5, .ref (az 2))]) hx hb dL_does_3 hl (by decide) rfl (fun ls hl => ?_)
  refine lv_iload_n hx hb dL_does_5 rfl (lv_at hl 4 rfl) ?_
  refine lv_bipush (v := 10) hx hb dL_does_6 rfl ?_
  obtain ⟨r2, h_r2, hrun⟩ := p_bnd hrun
  refine jSS_i (rest := []) C (c_at h_r2) gL_does_L_at hd_at rfl ⟨rfl, rfl⟩ ⟨Nat.le_of_ble_eq_true rfl, Nat.le_of_ble_eq_true rfl⟩ rfl hl.1 rfl (Nat.le_of_ble_eq_true rfl) ⟨Nat.le_of_ble_eq_true rfl, Nat.le_of_ble_eq_true rfl⟩ dL_does_8 ?_
  refine lv_istore (lv' := [(7, .int r2), (6, .int (v_zd (Int32.toNatClampNeg 0))), (0, .ref (ad 0)), (1, .ref (az 0)), (2, .ref (az 1)), (3, .int x3), (4, .int x4), (5, .ref (az 2))]) hx hb dL_does_11 hl (by decide) rfl (fun ls hl => ?_)
  refine lv_iload hx hb dL_does_13 (lv_at hl 1 rfl) ?_
  refine lv_if_ne (tgt := 22) hx hb dL_does_15 rfl (fun c3 => ?_) (fun c3 => ?_)
  · have hrun := p_neg hrun c3
    refine lv_iload_n hx hb dL_does_22 rfl (lv_at hl 5 rfl) ?_
    refine lv_iconst (v := 4) hx hb dL_does_23 rfl ?_
    refine j_ishr hx hb dL_does_24 ?_
    refine lv_iload hx hb dL_does_25 (lv_at hl 1 rfl) ?_
    obtain ⟨r4, h_r4, hrun⟩ := p_bnd hrun
    refine jSS_i (rest := []) C (c_at h_r4) gL_does_L_at hd_at rfl ⟨rfl, rfl⟩ ⟨Nat.le_of_ble_eq_true rfl, Nat.le_of_ble_eq_true rfl⟩ rfl hl.1 rfl (Nat.le_of_ble_eq_true rfl) ⟨Nat.le_of_ble_eq_true rfl, Nat.le_of_ble_eq_true rfl⟩ dL_does_27 ?_
    exact join_30 v_zw v_zd v_zt v_roadCount v_readings v_psize v_good v_pbits v_letters v_afterLetter v_codes v_wv (v_zd (Int32.toNatClampNeg 0)) r2 r4 _ _ _ hrun I (lv_sub hl [2, 3, 4, 5, 6, 7, 1, 0] rfl)
  · have hrun := p_pos hrun c3
    refine lv_iconst (v := 0) hx hb dL_does_18 rfl ?_
    refine lv_goto (tgt := 30) hx hb dL_does_19 rfl ?_
    exact join_30 v_zw v_zd v_zt v_roadCount v_readings v_psize v_good v_pbits v_letters v_afterLetter v_codes v_wv (v_zd (Int32.toNatClampNeg 0)) r2 0 _ _ _ hrun I (lv_sub hl [2, 3, 4, 5, 6, 7, 1, 0] rfl)

end Z97
