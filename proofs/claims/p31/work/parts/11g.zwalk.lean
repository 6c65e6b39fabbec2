section Z95
variable {l : Launch} {D : va_G} {sz : Nat}
variable {az ad fa ca wad : Nat → Nat} {cI cR cG : ClassId}
variable {v_roadCount v_readings v_psize v_good v_pbits v_letters v_afterLetter v_disc v_rsize v_cycleCount v_closed v_traces v_crossings v_db_bits v_db_size v_db_allBits v_db_a v_db_b v_db_c v_db_d v_dn_bits v_dn_size v_dn_allBits v_dn_a v_dn_b v_dn_c v_dn_d : Int32}
variable {v_s : Int64}
variable {v_zw v_zd v_zt v_codes : Nat → Int32}
variable {v_fo v_cy v_wv : Nat → Nat → Int32}
variable {v_wn : Nat}
abbrev rm_crosses : Room := { frames := 5, cells := 0, slots := 0, locals := 109 }
theorem k_crosses_83 : Cond.constant RL 83 (-2000000103) ∈ wsL_crosses := by decide +kernel
theorem hd_crosses : okD yL_crosses 3 := by decide +kernel
set_option maxHeartbeats 8000000 in
set_option maxRecDepth 100000 in
theorem c_crosses {x2 : Int32} {res : Int32} (hrun : P_crosses v_zw v_roadCount v_wn v_wv x2 = some res) : Met l yL_crosses wsL_crosses rm_crosses (va_Pc [.ref (ad 0), .ref (az 0), .int x2] (PS D (tyX cI cR cG) (WZ az ad fa ca wad cI cR cG v_zw v_zd v_zt v_roadCount v_readings v_psize v_good v_pbits v_letters v_afterLetter v_codes v_disc v_rsize v_cycleCount v_fo v_cy v_s v_closed v_traces v_crossings v_db_bits v_db_size v_db_allBits v_db_a v_db_b v_db_c v_db_d v_dn_bits v_dn_size v_dn_allBits v_dn_a v_dn_b v_dn_c v_dn_d v_wn v_wv))) (vp_Si (fun x => x = res)) 0 0 (fun _ => False) := by
  refine S_in (cc := cL_crosses) (maxL := 7) (ret := (some .boolean)) (by decide) rfl (Nat.le_of_ble_eq_true rfl) ?_
  intro p e s m args below meth c ls Q hQ C hr hlk hK hN hP hl
  have C : CallFix p m c cL_crosses 7 s args wsL_crosses RL := C
  have hx := C.1
  have hb := C.2.1
  have hl : lv_has ls 7 [(0, .ref (ad 0)), (1, .ref (az 0)), (2, .int x2)] := hl
  have loop_10 : ∀ (x3 : Int32) (n : Nat) (x4 : Int32) (out : (Int32) ⊕ (Unit)), P_crosses_10 v_zw v_roadCount v_wn v_wv x2 x3 n x4 = some out → sK out (fun r9 => r9 = res) (fun o9 => ∀ (ls : Array Slot), lv_has ls 7 [(0, .ref (ad 0)), (1, .ref (az 0)), (2, .int x2), (3, .int x3)] → W p l e rm_crosses s m args below meth c s.heap [] 0 0 Q (F0 m 228 ls [])) → ∀ (ls : Array Slot), lv_has ls 7 [(0, .ref (ad 0)), (1, .ref (az 0)), (2, .int x2), (3, .int x3), (4, .int x4)] → W p l e rm_crosses s m args below meth c s.heap [] 0 0 Q (F0 m 10 ls []) := by
    intro x3 n
    induction n with
    | zero =>
      intro x4 out hrun K ls hl
      cases hrun
    | succ n ih =>
      intro x4 out hrun K ls hl
      rw [P_crosses_10] at hrun
      refine lv_iload hx hb dL_crosses_10 (lv_at hl 4 rfl) ?_
      refine lv_iload_n hx hb dL_crosses_12 rfl (lv_at hl 2 rfl) ?_
      refine lv_icmp_ge (tgt := 228) hx hb dL_crosses_13 rfl (fun c2 => ?_) (fun c2 => ?_)
      · have hrun := p_pos hrun c2
        cases hrun
        exact K _ (lv_sub hl [0, 1, 2, 3] rfl)
      · have hrun := p_neg hrun c2
        refine lv_aload_n hx hb dL_crosses_16 rfl (lv_at hl 1 rfl) ?_
        refine lv_iload_n hx hb dL_crosses_17 rfl (lv_at hl 3 rfl) ?_
        obtain ⟨b3, hrun⟩ := p_chk hrun
        refine ldZ_zw C hK hP b3 dL_crosses_18 ?_
        obtain ⟨r4, h_r4, hrun⟩ := p_bnd hrun
        refine jSS_i (rest := []) C (c_isClosed h_r4) gL_crosses_L_isClosed hd_isClosed rfl ⟨rfl, rfl⟩ ⟨Nat.le_of_ble_eq_true rfl, Nat.le_of_ble_eq_true rfl⟩ rfl hl.1 rfl (Nat.le_of_ble_eq_true rfl) ⟨Nat.le_of_ble_eq_true rfl, Nat.le_of_ble_eq_true rfl⟩ dL_crosses_19 ?_
        refine lv_if_eq (tgt := 39) hx hb dL_crosses_22 rfl (fun c5 => ?_) (fun c5 => ?_)
        · have hrun := p_pos hrun c5
          refine lv_iconst (v := 0) hx hb dL_crosses_39 rfl ?_
          refine lv_istore (lv' := [(5, .int 0), (0, .ref (ad 0)), (1, .ref (az 0)), (2, .int x2), (3, .int x3), (4, .int x4)]) hx hb dL_crosses_40 hl (by decide) rfl (fun ls hl => ?_)
          refine lv_iload hx hb dL_crosses_42 (lv_at hl 0 rfl) ?_
          refine lv_if_eq (tgt := 60) hx hb dL_crosses_44 rfl (fun _ => ?_) (fun c => absurd (by decide) c)
          refine lv_ldc (v := (-2000000103)) hx hb C.2.2.2.1 (C.2.2.2.2 _ k_crosses_83) dL_crosses_60 ?_
          refine lv_istore (lv' := [(6, .int (-2000000103)), (5, .int 0), (0, .ref (ad 0)), (1, .ref (az 0)), (2, .int x2), (3, .int x3), (4, .int x4)]) hx hb dL_crosses_62 hl (by decide) rfl (fun ls hl => ?_)
          refine lv_aload_n hx hb dL_crosses_64 rfl (lv_at hl 2 rfl) ?_
          refine lv_iload_n hx hb dL_crosses_65 rfl (lv_at hl 5 rfl) ?_
          refine lv_iload hx hb dL_crosses_66 (lv_at hl 6 rfl) ?_
          obtain ⟨r6, h_r6, hrun⟩ := p_bnd hrun
          refine jVS_i (rest := []) C (c4_cross h_r6) gL_crosses_X4_cross hd4_cross hK hN (P_right hP) rcX rfl ⟨rfl, rfl⟩ ⟨Nat.le_of_ble_eq_true rfl, Nat.le_of_ble_eq_true rfl⟩ rfl hl.1 rfl (Nat.le_of_ble_eq_true rfl) ⟨Nat.le_of_ble_eq_true rfl, Nat.le_of_ble_eq_true rfl⟩ dL_crosses_68 ?_
          refine lv_iload hx hb dL_crosses_71 (lv_at hl 0 rfl) ?_
          refine lv_icmp_eq (tgt := 78) hx hb dL_crosses_73 rfl (fun c7 => ?_) (fun c7 => ?_)
          · have hrun := p_pos hrun c7
            refine lv_iload hx hb dL_crosses_78 (lv_at hl 1 rfl) ?_
            refine lv_if_ne (tgt := 86) hx hb dL_crosses_80 rfl (fun c => absurd rfl c) (fun _ => ?_)
            refine lv_goto (tgt := 222) hx hb dL_crosses_83 rfl ?_
            refine lv_iinc (v := x4 + 1) (lv' := [(4, .int (x4 + 1)), (6, .int (-2000000103)), (5, .int 0), (0, .ref (ad 0)), (1, .ref (az 0)), (2, .int x2), (3, .int x3)]) hx hb dL_crosses_222 hl (k := 6) rfl rfl (by decide) rfl (fun ls hl => ?_)
            refine lv_goto (tgt := 10) hx hb dL_crosses_225 rfl ?_
            exact ih (x4 + 1) out hrun K _ (lv_sub hl [3, 4, 5, 6, 0] rfl)
          · have hrun := p_neg hrun c7
            refine lv_iconst (v := 0) hx hb dL_crosses_76 rfl ?_
            cases hrun
            cases (show _ = res from K)
            exact rS_i C hr hlk hQ (nb01 (Or.inl rfl)) rfl dL_crosses_77
        · have hrun := p_neg hrun c5
          refine lv_aload_n hx hb dL_crosses_25 rfl (lv_at hl 1 rfl) ?_
          refine lv_iload hx hb dL_crosses_26 (lv_at hl 4 rfl) ?_
          obtain ⟨b8, hrun⟩ := p_chk hrun
          refine ldZ_zw C hK hP b8 dL_crosses_28 ?_
          obtain ⟨r9, h_r9, hrun⟩ := p_bnd hrun
          refine jSS_i (rest := []) C (c_isClosed h_r9) gL_crosses_L_isClosed hd_isClosed rfl ⟨rfl, rfl⟩ ⟨Nat.le_of_ble_eq_true rfl, Nat.le_of_ble_eq_true rfl⟩ rfl hl.1 rfl (Nat.le_of_ble_eq_true rfl) ⟨Nat.le_of_ble_eq_true rfl, Nat.le_of_ble_eq_true rfl⟩ dL_crosses_29 ?_
          refine lv_if_eq (tgt := 39) hx hb dL_crosses_32 rfl (fun c10 => ?_) (fun c10 => ?_)
          · have hrun := p_pos hrun c10
            refine lv_iconst (v := 0) hx hb dL_crosses_39 rfl ?_
            refine lv_istore (lv' := [(5, .int 0), (0, .ref (ad 0)), (1, .ref (az 0)), (2, .int x2), (3, .int x3), (4, .int x4)]) hx hb dL_crosses_40 hl (by decide) rfl (fun ls hl => ?_)
            refine lv_iload hx hb dL_crosses_42 (lv_at hl 0 rfl) ?_
            refine lv_if_eq (tgt := 60) hx hb dL_crosses_44 rfl (fun _ => ?_) (fun c => absurd (by decide) c)
            refine lv_ldc (v := (-2000000103)) hx hb C.2.2.2.1 (C.2.2.2.2 _ k_crosses_83) dL_crosses_60 ?_
            refine lv_istore (lv' := [(6, .int (-2000000103)), (5, .int 0), (0, .ref (ad 0)), (1, .ref (az 0)), (2, .int x2), (3, .int x3), (4, .int x4)]) hx hb dL_crosses_62 hl (by decide) rfl (fun ls hl => ?_)
            refine lv_aload_n hx hb dL_crosses_64 rfl (lv_at hl 2 rfl) ?_
            refine lv_iload_n hx hb dL_crosses_65 rfl (lv_at hl 5 rfl) ?_
            refine lv_iload hx hb dL_crosses_66 (lv_at hl 6 rfl) ?_
            obtain ⟨r11, h_r11, hrun⟩ := p_bnd hrun
            refine jVS_i (rest := []) C (c4_cross h_r11) gL_crosses_X4_cross hd4_cross hK hN (P_right hP) rcX rfl ⟨rfl, rfl⟩ ⟨Nat.le_of_ble_eq_true rfl, Nat.le_of_ble_eq_true rfl⟩ rfl hl.1 rfl (Nat.le_of_ble_eq_true rfl) ⟨Nat.le_of_ble_eq_true rfl, Nat.le_of_ble_eq_true rfl⟩ dL_crosses_68 ?_
            refine lv_iload hx hb dL_crosses_71 (lv_at hl 0 rfl) ?_
            refine lv_icmp_eq (tgt := 78) hx hb dL_crosses_73 rfl (fun c12 => ?_) (fun c12 => ?_)
            · have hrun := p_pos hrun c12
              refine lv_iload hx hb dL_crosses_78 (lv_at hl 1 rfl) ?_
              refine lv_if_ne (tgt := 86) hx hb dL_crosses_80 rfl (fun c => absurd rfl c) (fun _ => ?_)
              refine lv_goto (tgt := 222) hx hb dL_crosses_83 rfl ?_
              refine lv_iinc (v := x4 + 1) (lv' := [(4, .int (x4 + 1)), (6, .int (-2000000103)), (5, .int 0), (0, .ref (ad 0)), (1, .ref (az 0)), (2, .int x2), (3, .int x3)]) hx hb dL_crosses_222 hl (k := 6) rfl rfl (by decide) rfl (fun ls hl => ?_)
              refine lv_goto (tgt := 10) hx hb dL_crosses_225 rfl ?_
              exact ih (x4 + 1) out hrun K _ (lv_sub hl [3, 4, 5, 6, 0] rfl)
            · have hrun := p_neg hrun c12
              refine lv_iconst (v := 0) hx hb dL_crosses_76 rfl ?_
              cases hrun
              cases (show _ = res from K)
              exact rS_i C hr hlk hQ (nb01 (Or.inl rfl)) rfl dL_crosses_77
          · have hrun := p_neg hrun c10
            refine lv_iconst (v := 1) hx hb dL_crosses_35 rfl ?_
            refine lv_goto (tgt := 40) hx hb dL_crosses_36 rfl ?_
            refine lv_istore (lv' := [(5, .int 1), (0, .ref (ad 0)), (1, .ref (az 0)), (2, .int x2), (3, .int x3), (4, .int x4)]) hx hb dL_crosses_40 hl (by decide) rfl (fun ls hl => ?_)
            refine lv_iload hx hb dL_crosses_42 (lv_at hl 0 rfl) ?_
            refine lv_if_eq (tgt := 60) hx hb dL_crosses_44 rfl (fun c => absurd c (by decide)) (fun _ => ?_)
            refine lv_aload_n hx hb dL_crosses_47 rfl (lv_at hl 2 rfl) ?_
            refine lv_iload_n hx hb dL_crosses_48 rfl (lv_at hl 4 rfl) ?_
            obtain ⟨b13, hrun⟩ := p_chk hrun
            refine ldZ_zw C hK hP b13 dL_crosses_49 ?_
            refine lv_aload_n hx hb dL_crosses_50 rfl (lv_at hl 2 rfl) ?_
            refine lv_iload hx hb dL_crosses_51 (lv_at hl 5 rfl) ?_
            obtain ⟨b14, hrun⟩ := p_chk hrun
            refine ldZ_zw C hK hP b14 dL_crosses_53 ?_
            obtain ⟨r15, h_r15, hrun⟩ := p_bnd hrun
            refine jSS_i (rest := []) C (c_crossings h_r15) gL_crosses_L_crossings hd_crossings rfl ⟨rfl, rfl⟩ ⟨Nat.le_of_ble_eq_true rfl, Nat.le_of_ble_eq_true rfl⟩ rfl hl.1 rfl (Nat.le_of_ble_eq_true rfl) ⟨Nat.le_of_ble_eq_true rfl, Nat.le_of_ble_eq_true rfl⟩ dL_crosses_54 ?_
            refine lv_goto (tgt := 62) hx hb dL_crosses_57 rfl ?_
            refine lv_istore (lv' := [(6, .int r15), (5, .int 1), (0, .ref (ad 0)), (1, .ref (az 0)), (2, .int x2), (3, .int x3), (4, .int x4)]) hx hb dL_crosses_62 hl (by decide) rfl (fun ls hl => ?_)
            refine lv_aload_n hx hb dL_crosses_64 rfl (lv_at hl 2 rfl) ?_
            refine lv_iload_n hx hb dL_crosses_65 rfl (lv_at hl 5 rfl) ?_
            refine lv_iload hx hb dL_crosses_66 (lv_at hl 6 rfl) ?_
            obtain ⟨r16, h_r16, hrun⟩ := p_bnd hrun
            refine jVS_i (rest := []) C (c4_cross h_r16) gL_crosses_X4_cross hd4_cross hK hN (P_right hP) rcX rfl ⟨rfl, rfl⟩ ⟨Nat.le_of_ble_eq_true rfl, Nat.le_of_ble_eq_true rfl⟩ rfl hl.1 rfl (Nat.le_of_ble_eq_true rfl) ⟨Nat.le_of_ble_eq_true rfl, Nat.le_of_ble_eq_true rfl⟩ dL_crosses_68 ?_
            refine lv_iload hx hb dL_crosses_71 (lv_at hl 0 rfl) ?_
            refine lv_icmp_eq (tgt := 78) hx hb dL_crosses_73 rfl (fun c17 => ?_) (fun c17 => ?_)
            · have hrun := p_pos hrun c17
              refine lv_iload hx hb dL_crosses_78 (lv_at hl 1 rfl) ?_
              refine lv_if_ne (tgt := 86) hx hb dL_crosses_80 rfl (fun _ => ?_) (fun c => absurd c (by decide))
              refine lv_aload_n hx hb dL_crosses_86 rfl (lv_at hl 3 rfl) ?_
              refine lv_iload hx hb dL_crosses_87 (lv_at hl 6 rfl) ?_
              obtain ⟨b18, hrun⟩ := p_chk hrun
              refine ldZ_zw C hK hP b18 dL_crosses_89 ?_
              refine lv_aload_n hx hb dL_crosses_90 rfl (lv_at hl 3 rfl) ?_
              refine lv_iload_n hx hb dL_crosses_91 rfl (lv_at hl 5 rfl) ?_
              obtain ⟨b19, hrun⟩ := p_chk hrun
              refine ldZ_zw C hK hP b19 dL_crosses_92 ?_
              obtain ⟨r20, h_r20, hrun⟩ := p_bnd hrun
              refine jSS_i (rest := []) C (c_crossings h_r20) gL_crosses_L_crossings hd_crossings rfl ⟨rfl, rfl⟩ ⟨Nat.le_of_ble_eq_true rfl, Nat.le_of_ble_eq_true rfl⟩ rfl hl.1 rfl (Nat.le_of_ble_eq_true rfl) ⟨Nat.le_of_ble_eq_true rfl, Nat.le_of_ble_eq_true rfl⟩ dL_crosses_93 ?_
              refine lv_iload hx hb dL_crosses_96 (lv_at hl 0 rfl) ?_
              refine lv_icmp_ne (tgt := 162) hx hb dL_crosses_98 rfl (fun c21 => ?_) (fun c21 => ?_)
              · have hrun := p_neg hrun c21
                refine lv_iconst (v := 0) hx hb dL_crosses_162 rfl ?_
                cases hrun
                cases (show _ = res from K)
                exact rS_i C hr hlk hQ (nb01 (Or.inl rfl)) rfl dL_crosses_163
              · have hrun := p_pos hrun c21
                refine lv_aload_n hx hb dL_crosses_101 rfl (lv_at hl 3 rfl) ?_
                refine lv_iload_n hx hb dL_crosses_102 rfl (lv_at hl 5 rfl) ?_
                obtain ⟨b22, hrun⟩ := p_chk hrun
                refine ldZ_zw C hK hP b22 dL_crosses_103 ?_
                refine lv_iconst (v := 1) hx hb dL_crosses_104 rfl ?_
                obtain ⟨r23, h_r23, hrun⟩ := p_bnd hrun
                refine jSS_i (rest := []) C (c_turned h_r23) gL_crosses_L_turned hd_turned rfl ⟨rfl, rfl⟩ ⟨Nat.le_of_ble_eq_true rfl, Nat.le_of_ble_eq_true rfl⟩ rfl hl.1 rfl (Nat.le_of_ble_eq_true rfl) ⟨Nat.le_of_ble_eq_true rfl, Nat.le_of_ble_eq_true rfl⟩ dL_crosses_105 ?_
                refine lv_aload_n hx hb dL_crosses_108 rfl (lv_at hl 3 rfl) ?_
                refine lv_iload hx hb dL_crosses_109 (lv_at hl 6 rfl) ?_
                obtain ⟨b24, hrun⟩ := p_chk hrun
                refine ldZ_zw C hK hP b24 dL_crosses_111 ?_
                obtain ⟨r25, h_r25, hrun⟩ := p_bnd hrun
                refine jSS_i (rest := []) C (c_crossings h_r25) gL_crosses_L_crossings hd_crossings rfl ⟨rfl, rfl⟩ ⟨Nat.le_of_ble_eq_true rfl, Nat.le_of_ble_eq_true rfl⟩ rfl hl.1 rfl (Nat.le_of_ble_eq_true rfl) ⟨Nat.le_of_ble_eq_true rfl, Nat.le_of_ble_eq_true rfl⟩ dL_crosses_112 ?_
                refine lv_iload hx hb dL_crosses_115 (lv_at hl 0 rfl) ?_
                refine lv_icmp_ne (tgt := 162) hx hb dL_crosses_117 rfl (fun c26 => ?_) (fun c26 => ?_)
                · have hrun := p_neg hrun c26
                  refine lv_iconst (v := 0) hx hb dL_crosses_162 rfl ?_
                  cases hrun
                  cases (show _ = res from K)
                  exact rS_i C hr hlk hQ (nb01 (Or.inl rfl)) rfl dL_crosses_163
                · have hrun := p_pos hrun c26
                  refine lv_aload_n hx hb dL_crosses_120 rfl (lv_at hl 3 rfl) ?_
                  refine lv_iload_n hx hb dL_crosses_121 rfl (lv_at hl 5 rfl) ?_
                  obtain ⟨b27, hrun⟩ := p_chk hrun
                  refine ldZ_zw C hK hP b27 dL_crosses_122 ?_
                  obtain ⟨r28, h_r28, hrun⟩ := p_bnd hrun
                  refine jSS_i (rest := []) C (c_mirror h_r28) gL_crosses_L_mirror hd_mirror rfl ⟨rfl, rfl⟩ ⟨Nat.le_of_ble_eq_true rfl, Nat.le_of_ble_eq_true rfl⟩ rfl hl.1 rfl (Nat.le_of_ble_eq_true rfl) ⟨Nat.le_of_ble_eq_true rfl, Nat.le_of_ble_eq_true rfl⟩ dL_crosses_123 ?_
                  refine lv_aload_n hx hb dL_crosses_126 rfl (lv_at hl 3 rfl) ?_
                  refine lv_iload hx hb dL_crosses_127 (lv_at hl 6 rfl) ?_
                  obtain ⟨b29, hrun⟩ := p_chk hrun
                  refine ldZ_zw C hK hP b29 dL_crosses_129 ?_
                  obtain ⟨r30, h_r30, hrun⟩ := p_bnd hrun
                  refine jSS_i (rest := [.int r28]) C (c_mirror h_r30) gL_crosses_L_mirror hd_mirror rfl ⟨rfl, rfl⟩ ⟨Nat.le_of_ble_eq_true rfl, Nat.le_of_ble_eq_true rfl⟩ rfl hl.1 rfl (Nat.le_of_ble_eq_true rfl) ⟨Nat.le_of_ble_eq_true rfl, Nat.le_of_ble_eq_true rfl⟩ dL_crosses_130 ?_
                  obtain ⟨r31, h_r31, hrun⟩ := p_bnd hrun
                  refine jSS_i (rest := []) C (c_crossings h_r31) gL_crosses_L_crossings hd_crossings rfl ⟨rfl, rfl⟩ ⟨Nat.le_of_ble_eq_true rfl, Nat.le_of_ble_eq_true rfl⟩ rfl hl.1 rfl (Nat.le_of_ble_eq_true rfl) ⟨Nat.le_of_ble_eq_true rfl, Nat.le_of_ble_eq_true rfl⟩ dL_crosses_133 ?_
                  refine lv_iload hx hb dL_crosses_136 (lv_at hl 0 rfl) ?_
                  refine lv_icmp_ne (tgt := 162) hx hb dL_crosses_138 rfl (fun c32 => ?_) (fun c32 => ?_)
                  · have hrun := p_neg hrun c32
                    refine lv_iconst (v := 0) hx hb dL_crosses_162 rfl ?_
                    cases hrun
                    cases (show _ = res from K)
                    exact rS_i C hr hlk hQ (nb01 (Or.inl rfl)) rfl dL_crosses_163
                  · have hrun := p_pos hrun c32
                    refine lv_aload_n hx hb dL_crosses_141 rfl (lv_at hl 3 rfl) ?_
                    refine lv_iload_n hx hb dL_crosses_142 rfl (lv_at hl 5 rfl) ?_
                    obtain ⟨b33, hrun⟩ := p_chk hrun
                    refine ldZ_zw C hK hP b33 dL_crosses_143 ?_
                    obtain ⟨r34, h_r34, hrun⟩ := p_bnd hrun
                    refine jSS_i (rest := []) C (c_back h_r34) gL_crosses_L_back hd_back rfl ⟨rfl, rfl⟩ ⟨Nat.le_of_ble_eq_true rfl, Nat.le_of_ble_eq_true rfl⟩ rfl hl.1 rfl (Nat.le_of_ble_eq_true rfl) ⟨Nat.le_of_ble_eq_true rfl, Nat.le_of_ble_eq_true rfl⟩ dL_crosses_144 ?_
                    refine lv_aload_n hx hb dL_crosses_147 rfl (lv_at hl 3 rfl) ?_
                    refine lv_iload hx hb dL_crosses_148 (lv_at hl 6 rfl) ?_
                    obtain ⟨b35, hrun⟩ := p_chk hrun
                    refine ldZ_zw C hK hP b35 dL_crosses_150 ?_
                    obtain ⟨r36, h_r36, hrun⟩ := p_bnd hrun
                    refine jSS_i (rest := [.int r34]) C (c_back h_r36) gL_crosses_L_back hd_back rfl ⟨rfl, rfl⟩ ⟨Nat.le_of_ble_eq_true rfl, Nat.le_of_ble_eq_true rfl⟩ rfl hl.1 rfl (Nat.le_of_ble_eq_true rfl) ⟨Nat.le_of_ble_eq_true rfl, Nat.le_of_ble_eq_true rfl⟩ dL_crosses_151 ?_
                    obtain ⟨r37, h_r37, hrun⟩ := p_bnd hrun
                    refine jSS_i (rest := []) C (c_crossings h_r37) gL_crosses_L_crossings hd_crossings rfl ⟨rfl, rfl⟩ ⟨Nat.le_of_ble_eq_true rfl, Nat.le_of_ble_eq_true rfl⟩ rfl hl.1 rfl (Nat.le_of_ble_eq_true rfl) ⟨Nat.le_of_ble_eq_true rfl, Nat.le_of_ble_eq_true rfl⟩ dL_crosses_154 ?_
                    refine lv_iload hx hb dL_crosses_157 (lv_at hl 0 rfl) ?_
                    refine lv_icmp_eq (tgt := 164) hx hb dL_crosses_159 rfl (fun c38 => ?_) (fun c38 => ?_)
                    · have hrun := p_pos hrun c38
                      refine lv_aload_n hx hb dL_crosses_164 rfl (lv_at hl 3 rfl) ?_
                      refine lv_iload_n hx hb dL_crosses_165 rfl (lv_at hl 5 rfl) ?_
                      obtain ⟨b39, hrun⟩ := p_chk hrun
                      refine ldZ_zw C hK hP b39 dL_crosses_166 ?_
                      obtain ⟨r40, h_r40, hrun⟩ := p_bnd hrun
                      refine jSS_i (rest := []) C (c_size h_r40) gL_crosses_L_size hd_size rfl ⟨rfl, rfl⟩ ⟨Nat.le_of_ble_eq_true rfl, Nat.le_of_ble_eq_true rfl⟩ rfl hl.1 rfl (Nat.le_of_ble_eq_true rfl) ⟨Nat.le_of_ble_eq_true rfl, Nat.le_of_ble_eq_true rfl⟩ dL_crosses_167 ?_
                      refine lv_bipush (v := 11) hx hb dL_crosses_170 rfl ?_
                      refine lv_icmp_ge (tgt := 200) hx hb dL_crosses_172 rfl (fun c41 => ?_) (fun c41 => ?_)
                      · have hrun := p_pos hrun c41
                        refine lv_aload_n hx hb dL_crosses_200 rfl (lv_at hl 3 rfl) ?_
                        refine lv_iload_n hx hb dL_crosses_201 rfl (lv_at hl 5 rfl) ?_
                        obtain ⟨b42, hrun⟩ := p_chk hrun
                        refine ldZ_zw C hK hP b42 dL_crosses_202 ?_
                        refine lv_aload_n hx hb dL_crosses_203 rfl (lv_at hl 3 rfl) ?_
                        refine lv_iload hx hb dL_crosses_204 (lv_at hl 6 rfl) ?_
                        obtain ⟨b43, hrun⟩ := p_chk hrun
                        refine ldZ_zw C hK hP b43 dL_crosses_206 ?_
                        obtain ⟨r44, h_r44, hrun⟩ := p_bnd hrun
                        refine jSS_i (rest := []) C (c_alike h_r44) gL_crosses_L_alike hd_alike rfl ⟨rfl, rfl⟩ ⟨Nat.le_of_ble_eq_true rfl, Nat.le_of_ble_eq_true rfl⟩ rfl hl.1 rfl (Nat.le_of_ble_eq_true rfl) ⟨Nat.le_of_ble_eq_true rfl, Nat.le_of_ble_eq_true rfl⟩ dL_crosses_207 ?_
                        refine lv_if_eq (tgt := 222) hx hb dL_crosses_210 rfl (fun c45 => ?_) (fun c45 => ?_)
                        · have hrun := p_pos hrun c45
                          refine lv_iinc (v := x4 + 1) (lv' := [(4, .int (x4 + 1)), (6, .int r15), (5, .int 1), (0, .ref (ad 0)), (1, .ref (az 0)), (2, .int x2), (3, .int x3)]) hx hb dL_crosses_222 hl (k := 6) rfl rfl (by decide) rfl (fun ls hl => ?_)
                          refine lv_goto (tgt := 10) hx hb dL_crosses_225 rfl ?_
                          exact ih (x4 + 1) out hrun K _ (lv_sub hl [3, 4, 5, 6, 0] rfl)
                        · have hrun := p_neg hrun c45
                          refine lv_iload hx hb dL_crosses_213 (lv_at hl 0 rfl) ?_
                          refine lv_iconst (v := 2) hx hb dL_crosses_215 rfl ?_
                          refine j_irem hx hb dL_crosses_216 (by decide) ?_
                          refine lv_if_eq (tgt := 222) hx hb dL_crosses_217 rfl (fun c46 => ?_) (fun c46 => ?_)
                          · have hrun := p_pos hrun c46
                            refine lv_iinc (v := x4 + 1) (lv' := [(4, .int (x4 + 1)), (6, .int r15), (5, .int 1), (0, .ref (ad 0)), (1, .ref (az 0)), (2, .int x2), (3, .int x3)]) hx hb dL_crosses_222 hl (k := 6) rfl rfl (by decide) rfl (fun ls hl => ?_)
                            refine lv_goto (tgt := 10) hx hb dL_crosses_225 rfl ?_
                            exact ih (x4 + 1) out hrun K _ (lv_sub hl [3, 4, 5, 6, 0] rfl)
                          · have hrun := p_neg hrun c46
                            refine lv_iconst (v := 0) hx hb dL_crosses_220 rfl ?_
                            cases hrun
                            cases (show _ = res from K)
                            exact rS_i C hr hlk hQ (nb01 (Or.inl rfl)) rfl dL_crosses_221
                      · have hrun := p_neg hrun c41
                        refine lv_aload_n hx hb dL_crosses_175 rfl (lv_at hl 3 rfl) ?_
                        refine lv_iload_n hx hb dL_crosses_176 rfl (lv_at hl 5 rfl) ?_
                        obtain ⟨b47, hrun⟩ := p_chk hrun
                        refine ldZ_zw C hK hP b47 dL_crosses_177 ?_
                        refine lv_aload_n hx hb dL_crosses_178 rfl (lv_at hl 3 rfl) ?_
                        refine lv_iload_n hx hb dL_crosses_179 rfl (lv_at hl 5 rfl) ?_
                        obtain ⟨b48, hrun⟩ := p_chk hrun
                        refine ldZ_zw C hK hP b48 dL_crosses_180 ?_
                        obtain ⟨r49, h_r49, hrun⟩ := p_bnd hrun
                        refine jSS_i (rest := []) C (c_join h_r49) gL_crosses_L_join hd_join rfl ⟨rfl, rfl⟩ ⟨Nat.le_of_ble_eq_true rfl, Nat.le_of_ble_eq_true rfl⟩ rfl hl.1 rfl (Nat.le_of_ble_eq_true rfl) ⟨Nat.le_of_ble_eq_true rfl, Nat.le_of_ble_eq_true rfl⟩ dL_crosses_181 ?_
                        refine lv_aload_n hx hb dL_crosses_184 rfl (lv_at hl 3 rfl) ?_
                        refine lv_iload hx hb dL_crosses_185 (lv_at hl 6 rfl) ?_
                        obtain ⟨b50, hrun⟩ := p_chk hrun
                        refine ldZ_zw C hK hP b50 dL_crosses_187 ?_
                        obtain ⟨r51, h_r51, hrun⟩ := p_bnd hrun
                        refine jSS_i (rest := []) C (c_crossings h_r51) gL_crosses_L_crossings hd_crossings rfl ⟨rfl, rfl⟩ ⟨Nat.le_of_ble_eq_true rfl, Nat.le_of_ble_eq_true rfl⟩ rfl hl.1 rfl (Nat.le_of_ble_eq_true rfl) ⟨Nat.le_of_ble_eq_true rfl, Nat.le_of_ble_eq_true rfl⟩ dL_crosses_188 ?_
                        refine lv_iconst (v := 2) hx hb dL_crosses_191 rfl ?_
                        refine lv_iload hx hb dL_crosses_192 (lv_at hl 0 rfl) ?_
                        refine lv_imul hx hb dL_crosses_194 ?_
                        refine lv_icmp_eq (tgt := 200) hx hb dL_crosses_195 rfl (fun c52 => ?_) (fun c52 => ?_)
                        · have hrun := p_pos hrun c52
                          refine lv_aload_n hx hb dL_crosses_200 rfl (lv_at hl 3 rfl) ?_
                          refine lv_iload_n hx hb dL_crosses_201 rfl (lv_at hl 5 rfl) ?_
                          obtain ⟨b53, hrun⟩ := p_chk hrun
                          refine ldZ_zw C hK hP b53 dL_crosses_202 ?_
                          refine lv_aload_n hx hb dL_crosses_203 rfl (lv_at hl 3 rfl) ?_
                          refine lv_iload hx hb dL_crosses_204 (lv_at hl 6 rfl) ?_
                          obtain ⟨b54, hrun⟩ := p_chk hrun
                          refine ldZ_zw C hK hP b54 dL_crosses_206 ?_
                          obtain ⟨r55, h_r55, hrun⟩ := p_bnd hrun
                          refine jSS_i (rest := []) C (c_alike h_r55) gL_crosses_L_alike hd_alike rfl ⟨rfl, rfl⟩ ⟨Nat.le_of_ble_eq_true rfl, Nat.le_of_ble_eq_true rfl⟩ rfl hl.1 rfl (Nat.le_of_ble_eq_true rfl) ⟨Nat.le_of_ble_eq_true rfl, Nat.le_of_ble_eq_true rfl⟩ dL_crosses_207 ?_
                          refine lv_if_eq (tgt := 222) hx hb dL_crosses_210 rfl (fun c56 => ?_) (fun c56 => ?_)
                          · have hrun := p_pos hrun c56
                            refine lv_iinc (v := x4 + 1) (lv' := [(4, .int (x4 + 1)), (6, .int r15), (5, .int 1), (0, .ref (ad 0)), (1, .ref (az 0)), (2, .int x2), (3, .int x3)]) hx hb dL_crosses_222 hl (k := 6) rfl rfl (by decide) rfl (fun ls hl => ?_)
                            refine lv_goto (tgt := 10) hx hb dL_crosses_225 rfl ?_
                            exact ih (x4 + 1) out hrun K _ (lv_sub hl [3, 4, 5, 6, 0] rfl)
                          · have hrun := p_neg hrun c56
                            refine lv_iload hx hb dL_crosses_213 (lv_at hl 0 rfl) ?_
                            refine lv_iconst (v := 2) hx hb dL_crosses_215 rfl ?_
                            refine j_irem hx hb dL_crosses_216 (by decide) ?_
                            refine lv_if_eq (tgt := 222) hx hb dL_crosses_217 rfl (fun c57 => ?_) (fun c57 => ?_)
                            · have hrun := p_pos hrun c57
                              refine lv_iinc (v := x4 + 1) (lv' := [(4, .int (x4 + 1)), (6, .int r15), (5, .int 1), (0, .ref (ad 0)), (1, .ref (az 0)), (2, .int x2), (3, .int x3)]) hx hb dL_crosses_222 hl (k := 6) rfl rfl (by decide) rfl (fun ls hl => ?_)
                              refine lv_goto (tgt := 10) hx hb dL_crosses_225 rfl ?_
                              exact ih (x4 + 1) out hrun K _ (lv_sub hl [3, 4, 5, 6, 0] rfl)
                            · have hrun := p_neg hrun c57
                              refine lv_iconst (v := 0) hx hb dL_crosses_220 rfl ?_
                              cases hrun
                              cases (show _ = res from K)
                              exact rS_i C hr hlk hQ (nb01 (Or.inl rfl)) rfl dL_crosses_221
                        · have hrun := p_neg hrun c52
                          refine lv_iconst (v := 0) hx hb dL_crosses_198 rfl ?_
                          cases hrun
                          cases (show _ = res from K)
                          exact rS_i C hr hlk hQ (nb01 (Or.inl rfl)) rfl dL_crosses_199
                    · have hrun := p_neg hrun c38
                      refine lv_iconst (v := 0) hx hb dL_crosses_162 rfl ?_
                      cases hrun
                      cases (show _ = res from K)
                      exact rS_i C hr hlk hQ (nb01 (Or.inl rfl)) rfl dL_crosses_163
            · have hrun := p_neg hrun c17
              refine lv_iconst (v := 0) hx hb dL_crosses_76 rfl ?_
              cases hrun
              cases (show _ = res from K)
              exact rS_i C hr hlk hQ (nb01 (Or.inl rfl)) rfl dL_crosses_77
  have loop_2 : ∀ (n : Nat) (x3 : Int32) (out : (Int32) ⊕ (Unit)), P_crosses_2 v_zw v_roadCount v_wn v_wv x2 n x3 = some out → sK out (fun r9 => r9 = res) (fun o9 => ∀ (ls : Array Slot), lv_has ls 7 [] → W p l e rm_crosses s m args below meth c s.heap [] 0 0 Q (F0 m 234 ls [])) → ∀ (ls : Array Slot), lv_has ls 7 [(0, .ref (ad 0)), (1, .ref (az 0)), (2, .int x2), (3, .int x3)] → W p l e rm_crosses s m args below meth c s.heap [] 0 0 Q (F0 m 2 ls []) := by
    intro n
    induction n with
    | zero =>
      intro x3 out hrun K ls hl
      cases hrun
    | succ n ih =>
      intro x3 out hrun K ls hl
      rw [P_crosses_2] at hrun
      refine lv_iload_n hx hb dL_crosses_2 rfl (lv_at hl 3 rfl) ?_
      refine lv_iload_n hx hb dL_crosses_3 rfl (lv_at hl 2 rfl) ?_
      refine lv_icmp_ge (tgt := 234) hx hb dL_crosses_4 rfl (fun c1 => ?_) (fun c1 => ?_)
      · have hrun := p_pos hrun c1
        cases hrun
        exact K _ (lv_sub hl [] rfl)
      · have hrun := p_neg hrun c1
        refine lv_iconst (v := 0) hx hb dL_crosses_7 rfl ?_
        refine lv_istore (lv' := [(4, .int 0), (0, .ref (ad 0)), (1, .ref (az 0)), (2, .int x2), (3, .int x3)]) hx hb dL_crosses_8 hl (by decide) rfl (fun ls hl => ?_)
        obtain ⟨o58, h_o58, hrun⟩ := p_sb1 hrun
        refine loop_10 x3 FU 0 o58 h_o58 ?_ _ (lv_sub hl [1, 2, 3, 4, 0] rfl)
        rcases o58 with r9 | o58
        · have hrun : out = Sum.inl r9 := hrun
          subst hrun
          exact K
        · intro ls hl
          have hrun : _ = some out := hrun
          refine lv_iinc (v := x3 + 1) (lv' := [(3, .int (x3 + 1)), (0, .ref (ad 0)), (1, .ref (az 0)), (2, .int x2)]) hx hb dL_crosses_228 hl (k := 3) rfl rfl (by decide) rfl (fun ls hl => ?_)
          refine lv_goto (tgt := 2) hx hb dL_crosses_231 rfl ?_
          exact ih (x3 + 1) out hrun K _ (lv_sub hl [1, 2, 3, 0] rfl)
  unfold P_crosses at hrun
  refine lv_iconst (v := 0) hx hb dL_crosses_0 rfl ?_
  refine lv_istore_n (lv' := [(3, .int 0), (0, .ref (ad 0)), (1, .ref (az 0)), (2, .int x2)]) hx hb dL_crosses_1 rfl hl (by decide) rfl (fun ls hl => ?_)
  obtain ⟨o59, h_o59, hrun⟩ := p_sb0 hrun
  refine loop_2 FU 0 o59 h_o59 ?_ _ (lv_sub hl [1, 2, 3, 0] rfl)
  rcases o59 with r9 | o59
  · exact hrun
  · intro ls hl
    have hrun : _ = some res := hrun
    refine lv_iconst (v := 1) hx hb dL_crosses_234 rfl ?_
    cases hrun
    exact rS_i C hr hlk hQ (nb01 (Or.inr rfl)) rfl dL_crosses_235

abbrev rm_comes : Room := { frames := 0, cells := 0, slots := 0, locals := 0 }
theorem k_comes_83 : Cond.constant RL 83 (-2000000103) ∈ wsL_comes := by decide +kernel
theorem k_comes_105 : Cond.constant RL 105 (-2000000104) ∈ wsL_comes := by decide +kernel
theorem hd_comes : okD yL_comes 4 := by decide +kernel
set_option maxHeartbeats 8000000 in
set_option maxRecDepth 100000 in
theorem c_comes {x1 : Int32} {x2 : Int32} {x3 : Int32} {res : Int32 × (Nat → Int32)} (hrun : P_comes v_zw x1 x2 x3 = some res) : Met l yL_comes wsL_comes rm_comes (va_Pc [.ref (az 0), .int x1, .int x2, .int x3] (PE D (tyX cI cR cG) sz (WZ0 az ad fa ca wad cI cR cG v_wn) (WZ az ad fa ca wad cI cR cG v_zw v_zd v_zt v_roadCount v_readings v_psize v_good v_pbits v_letters v_afterLetter v_codes v_disc v_rsize v_cycleCount v_fo v_cy v_s v_closed v_traces v_crossings v_db_bits v_db_size v_db_allBits v_db_a v_db_b v_db_c v_db_d v_dn_bits v_dn_size v_dn_allBits v_dn_a v_dn_b v_dn_c v_dn_d v_wn v_wv))) (va_Qi (fun (x : Int32) (_ : Unit) => x = res.1) (fun _ t => va_P D vwCl (WZ az ad fa ca wad cI cR cG res.2 v_zd v_zt v_roadCount v_readings v_psize v_good v_pbits v_letters v_afterLetter v_codes v_disc v_rsize v_cycleCount v_fo v_cy v_s v_closed v_traces v_crossings v_db_bits v_db_size v_db_allBits v_db_a v_db_b v_db_c v_db_d v_dn_bits v_dn_size v_dn_allBits v_dn_a v_dn_b v_dn_c v_dn_d v_wn v_wv) t.heap) (va_A (WZ0 az ad fa ca wad cI cR cG v_wn) sz)) 0 0 (va_A (WZ0 az ad fa ca wad cI cR cG v_wn) sz) := by
  refine E_in (cc := cL_comes) (maxL := 4) (ret := (some .int)) (by decide) rfl (Nat.le_of_ble_eq_true rfl) ?_
  intro p e s m args below meth c ls Q hQ C hr hlk hK hN hD hA I hl
  have C : CallFix p m c cL_comes 4 s args wsL_comes RL := C
  have hx := C.1
  have hb := C.2.1
  have hl : lv_has ls 4 [(0, .ref (az 0)), (1, .int x1), (2, .int x2), (3, .int x3)] := hl
  unfold P_comes at hrun
  refine lv_iload_n hx hb dL_comes_0 rfl (lv_at hl 3 rfl) ?_
  refine lv_bipush (v := 20) hx hb dL_comes_1 rfl ?_
  refine lv_icmp_le (tgt := 9) hx hb dL_comes_3 rfl (fun c1 => ?_) (fun c1 => ?_)
  · have hrun := p_pos hrun c1
    refine lv_iload_n hx hb dL_comes_9 rfl (lv_at hl 1 rfl) ?_
    refine lv_bipush (v := 6) hx hb dL_comes_10 rfl ?_
    refine lv_icmp_ne (tgt := 18) hx hb dL_comes_12 rfl (fun c2 => ?_) (fun c2 => ?_)
    · have hrun := p_neg hrun c2
      refine lv_aload_n hx hb dL_comes_18 rfl (lv_at hl 0 rfl) ?_
      refine lv_iload_n hx hb dL_comes_19 rfl (lv_at hl 1 rfl) ?_
      refine lv_iload_n hx hb dL_comes_20 rfl (lv_at hl 2 rfl) ?_
      obtain ⟨b3, hrun⟩ := p_chk hrun
      refine stZ_zw C hK hD I b3 dL_comes_21 (fun H locs I => ?_)
      refine lv_iload_n hx hb dL_comes_22 rfl (lv_at hl 1 rfl) ?_
      cases hrun
      exact rE_i C hr hlk hQ I (nbi _) rfl dL_comes_23
    · have hrun := p_pos hrun c2
      refine lv_ldc (v := (-2000000104)) hx hb C.2.2.2.1 (C.2.2.2.2 _ k_comes_105) dL_comes_15 ?_
      cases hrun
      exact rE_i C hr hlk hQ I (nbi _) rfl dL_comes_17
  · have hrun := p_neg hrun c1
    refine lv_ldc (v := (-2000000103)) hx hb C.2.2.2.1 (C.2.2.2.2 _ k_comes_83) dL_comes_6 ?_
    cases hrun
    exact rE_i C hr hlk hQ I (nbi _) rfl dL_comes_8

end Z95
