section Z92
variable {l : Launch} {D : va_G} {sz : Nat}
variable {az ad fa ca wad : Nat → Nat} {cI cR cG : ClassId}
variable {v_roadCount v_readings v_psize v_good v_pbits v_letters v_afterLetter v_disc v_rsize v_cycleCount v_closed v_traces v_crossings v_db_bits v_db_size v_db_allBits v_db_a v_db_b v_db_c v_db_d v_dn_bits v_dn_size v_dn_allBits v_dn_a v_dn_b v_dn_c v_dn_d : Int32}
variable {v_s : Int64}
variable {v_zw v_zd v_zt v_codes : Nat → Int32}
variable {v_fo v_cy v_wv : Nat → Nat → Int32}
variable {v_wn : Nat}
abbrev rm_spell : Room := { frames := 3, cells := 0, slots := 0, locals := 68 }
theorem hd_spell : okD yL_spell 3 := by decide +kernel
set_option maxHeartbeats 8000000 in
set_option maxRecDepth 100000 in
theorem c_spell {x2 : Int32} {res : Int32 × Int32 × Int32 × Int32 × Int32 × Int32 × (Nat → Int32)} (hrun : P_spell v_zt v_psize v_good v_pbits v_letters v_afterLetter v_codes x2 = some res) : Met l yL_spell wsL_spell rm_spell (va_Pc [.ref (ad 0), .ref (az 2), .int x2] (PE D (tyX cI cR cG) sz (WZ0 az ad fa ca wad cI cR cG v_wn) (WZ az ad fa ca wad cI cR cG v_zw v_zd v_zt v_roadCount v_readings v_psize v_good v_pbits v_letters v_afterLetter v_codes v_disc v_rsize v_cycleCount v_fo v_cy v_s v_closed v_traces v_crossings v_db_bits v_db_size v_db_allBits v_db_a v_db_b v_db_c v_db_d v_dn_bits v_dn_size v_dn_allBits v_dn_a v_dn_b v_dn_c v_dn_d v_wn v_wv))) (va_Qi (fun (x : Int32) (_ : Unit) => x = res.1) (fun _ t => va_P D vwCl (WZ az ad fa ca wad cI cR cG v_zw v_zd v_zt v_roadCount v_readings res.2.1 res.2.2.1 res.2.2.2.1 res.2.2.2.2.1 res.2.2.2.2.2.1 res.2.2.2.2.2.2 v_disc v_rsize v_cycleCount v_fo v_cy v_s v_closed v_traces v_crossings v_db_bits v_db_size v_db_allBits v_db_a v_db_b v_db_c v_db_d v_dn_bits v_dn_size v_dn_allBits v_dn_a v_dn_b v_dn_c v_dn_d v_wn v_wv) t.heap) (va_A (WZ0 az ad fa ca wad cI cR cG v_wn) sz)) 0 0 (va_A (WZ0 az ad fa ca wad cI cR cG v_wn) sz) := by
  refine E_in (cc := cL_spell) (maxL := 4) (ret := (some .boolean)) (by decide) rfl (Nat.le_of_ble_eq_true rfl) ?_
  intro p e s m args below meth c ls Q hQ C hr hlk hK hN hD hA I hl
  have C : CallFix p m c cL_spell 4 s args wsL_spell RL := C
  have hx := C.1
  have hb := C.2.1
  have hl : lv_has ls 4 [(0, .ref (ad 0)), (1, .ref (az 2)), (2, .int x2)] := hl
  have loop_2 : ∀ (n : Nat) (v_psize : Int32) (v_good : Int32) (v_pbits : Int32) (v_letters : Int32) (v_afterLetter : Int32) (v_codes : Nat → Int32) (x3 : Int32) (out : (Int32 × Int32 × Int32 × Int32 × Int32 × Int32 × (Nat → Int32)) ⊕ (Int32 × Int32 × Int32 × Int32 × Int32 × (Nat → Int32))), P_spell_2 v_zt x2 n v_psize v_good v_pbits v_letters v_afterLetter v_codes x3 = some out → sK out (fun r9 => r9 = res) (fun o9 => ∀ (H : Heap) (locs : List Loc) (ls : Array Slot), IM D (va_A (WZ0 az ad fa ca wad cI cR cG v_wn) sz) s.heap H locs (WZ az ad fa ca wad cI cR cG v_zw v_zd v_zt v_roadCount v_readings o9.1 o9.2.1 o9.2.2.1 o9.2.2.2.1 o9.2.2.2.2.1 o9.2.2.2.2.2 v_disc v_rsize v_cycleCount v_fo v_cy v_s v_closed v_traces v_crossings v_db_bits v_db_size v_db_allBits v_db_a v_db_b v_db_c v_db_d v_dn_bits v_dn_size v_dn_allBits v_dn_a v_dn_b v_dn_c v_dn_d v_wn v_wv) → lv_has ls 4 [] → W p l e rm_spell s m args below meth c H locs 0 0 Q (F0 m 28 ls [])) → ∀ (H : Heap) (locs : List Loc) (ls : Array Slot), IM D (va_A (WZ0 az ad fa ca wad cI cR cG v_wn) sz) s.heap H locs (WZ az ad fa ca wad cI cR cG v_zw v_zd v_zt v_roadCount v_readings v_psize v_good v_pbits v_letters v_afterLetter v_codes v_disc v_rsize v_cycleCount v_fo v_cy v_s v_closed v_traces v_crossings v_db_bits v_db_size v_db_allBits v_db_a v_db_b v_db_c v_db_d v_dn_bits v_dn_size v_dn_allBits v_dn_a v_dn_b v_dn_c v_dn_d v_wn v_wv) → lv_has ls 4 [(0, .ref (ad 0)), (1, .ref (az 2)), (2, .int x2), (3, .int x3)] → W p l e rm_spell s m args below meth c H locs 0 0 Q (F0 m 2 ls []) := by
    intro n
    induction n with
    | zero =>
      intro v_psize v_good v_pbits v_letters v_afterLetter v_codes x3 out hrun K H locs ls I hl
      cases hrun
    | succ n ih =>
      intro v_psize v_good v_pbits v_letters v_afterLetter v_codes x3 out hrun K H locs ls I hl
      rw [P_spell_2] at hrun
      refine lv_iload_n hx hb dL_spell_2 rfl (lv_at hl 3 rfl) ?_
      refine lv_iload_n hx hb dL_spell_3 rfl (lv_at hl 2 rfl) ?_
      refine lv_icmp_ge (tgt := 28) hx hb dL_spell_4 rfl (fun c1 => ?_) (fun c1 => ?_)
      · have hrun := p_pos hrun c1
        cases hrun
        exact K _ _ _ I (lv_sub hl [] rfl)
      · have hrun := p_neg hrun c1
        refine lv_aload_n hx hb dL_spell_7 rfl (lv_at hl 0 rfl) ?_
        refine lv_aload_n hx hb dL_spell_8 rfl (lv_at hl 1 rfl) ?_
        refine lv_iload_n hx hb dL_spell_9 rfl (lv_at hl 3 rfl) ?_
        obtain ⟨b2, hrun⟩ := p_chk hrun
        refine ldZ_zt C hK I.1 b2 dL_spell_10 ?_
        obtain ⟨r3, h_r3, hrun⟩ := p_bnd hrun
        refine jFE_i (wb := wA az cI v_zw v_zd v_zt) (rest := []) C (c4_letter h_r3) gL_spell_X4_letter hd4_letter hK hN hD (by rfl) hA I rcX rfl ⟨rfl, rfl⟩ ⟨Nat.le_of_ble_eq_true rfl, Nat.le_of_ble_eq_true rfl⟩ rfl hl.1 rfl (Nat.le_of_ble_eq_true rfl) ⟨Nat.le_of_ble_eq_true rfl, Nat.le_of_ble_eq_true rfl⟩ dL_spell_11 (fun H locs I => ?_)
        refine lv_iload_n hx hb dL_spell_14 rfl (lv_at hl 3 rfl) ?_
        refine lv_iconst (v := 1) hx hb dL_spell_15 rfl ?_
        refine lv_iadd hx hb dL_spell_16 ?_
        refine lv_icmp_eq (tgt := 22) hx hb dL_spell_17 rfl (fun c4 => ?_) (fun c4 => ?_)
        · have hrun := p_pos hrun c4
          refine lv_iinc (v := x3 + 1) (lv' := [(3, .int (x3 + 1)), (0, .ref (ad 0)), (1, .ref (az 2)), (2, .int x2)]) hx hb dL_spell_22 hl (k := 3) rfl rfl (by decide) rfl (fun ls hl => ?_)
          refine lv_goto (tgt := 2) hx hb dL_spell_25 rfl ?_
          exact ih r3.2.1 r3.2.2.1 r3.2.2.2.1 r3.2.2.2.2.1 r3.2.2.2.2.2.1 r3.2.2.2.2.2.2 (x3 + 1) out hrun K _ _ _ I (lv_sub hl [1, 2, 3, 0] rfl)
        · have hrun := p_neg hrun c4
          refine lv_iconst (v := 0) hx hb dL_spell_20 rfl ?_
          cases hrun
          cases (show _ = res from K)
          exact rE_i C hr hlk hQ I (nb01 (Or.inl rfl)) rfl dL_spell_21
  unfold P_spell at hrun
  refine lv_iconst (v := 0) hx hb dL_spell_0 rfl ?_
  refine lv_istore_n (lv' := [(3, .int 0), (0, .ref (ad 0)), (1, .ref (az 2)), (2, .int x2)]) hx hb dL_spell_1 rfl hl (by decide) rfl (fun ls hl => ?_)
  obtain ⟨o5, h_o5, hrun⟩ := p_sb0 hrun
  refine loop_2 FU v_psize v_good v_pbits v_letters v_afterLetter v_codes 0 o5 h_o5 ?_ _ _ _ I (lv_sub hl [1, 2, 3, 0] rfl)
  rcases o5 with r9 | o5
  · exact hrun
  · intro H locs ls I hl
    have hrun : _ = some res := hrun
    refine lv_iconst (v := 1) hx hb dL_spell_28 rfl ?_
    cases hrun
    exact rE_i C hr hlk hQ I (nb01 (Or.inr rfl)) rfl dL_spell_29

abbrev rm_crossings : Room := { frames := 2, cells := 0, slots := 0, locals := 43 }
theorem hd_crossings : okD yL_crossings 2 := by decide +kernel
set_option maxHeartbeats 8000000 in
set_option maxRecDepth 100000 in
theorem c_crossings {x0 : Int32} {x1 : Int32} {res : Int32} (hrun : P_crossings x0 x1 = some res) : Met l yL_crossings wsL_crossings rm_crossings (va_Pc [.int x0, .int x1] PN) (vp_Si (fun x => x = res)) 0 0 (fun _ => False) := by
  refine N_in (cc := cL_crossings) (maxL := 6) (ret := (some .int)) (by decide) rfl (Nat.le_of_ble_eq_true rfl) ?_
  intro p e s m args below meth c ls Q hQ C hr hlk hl
  have C : CallFix p m c cL_crossings 6 s args wsL_crossings RL := C
  have hx := C.1
  have hb := C.2.1
  have hl : lv_has ls 6 [(0, .int x0), (1, .int x1)] := hl
  have loop_44 : ∀ (x2 : Int32) (x3 : Int32) (x4 : Int32) (n : Nat) (x5 : Int32) (out : Int32), P_crossings_44 x0 x1 x3 x4 n x5 = some out → (∀ (ls : Array Slot), lv_has ls 6 [(0, .int x0), (1, .int x1), (2, .int x2), (3, .int x3), (4, .int x4), (5, .int out)] → W p l e rm_crossings s m args below meth c s.heap [] 0 0 Q (F0 m 84 ls [])) → ∀ (ls : Array Slot), lv_has ls 6 [(0, .int x0), (1, .int x1), (2, .int x2), (3, .int x3), (4, .int x4), (5, .int x5)] → W p l e rm_crossings s m args below meth c s.heap [] 0 0 Q (F0 m 44 ls []) := by
    intro x2 x3 x4 n
    induction n with
    | zero =>
      intro x5 out hrun K ls hl
      cases hrun
    | succ n ih =>
      intro x5 out hrun K ls hl
      rw [P_crossings_44] at hrun
      refine lv_iload hx hb dL_crossings_44 (lv_at hl 5 rfl) ?_
      refine lv_iload_n hx hb dL_crossings_46 rfl (lv_at hl 0 rfl) ?_
      obtain ⟨r8, h_r8, hrun⟩ := p_bnd hrun
      refine jSS_i (rest := [.int x5]) C (c_size h_r8) gL_crossings_L_size hd_size rfl ⟨rfl, rfl⟩ ⟨Nat.le_of_ble_eq_true rfl, Nat.le_of_ble_eq_true rfl⟩ rfl hl.1 rfl (Nat.le_of_ble_eq_true rfl) ⟨Nat.le_of_ble_eq_true rfl, Nat.le_of_ble_eq_true rfl⟩ dL_crossings_47 ?_
      refine lv_iload_n hx hb dL_crossings_50 rfl (lv_at hl 1 rfl) ?_
      obtain ⟨r9, h_r9, hrun⟩ := p_bnd hrun
      refine jSS_i (rest := [.int r8, .int x5]) C (c_size h_r9) gL_crossings_L_size hd_size rfl ⟨rfl, rfl⟩ ⟨Nat.le_of_ble_eq_true rfl, Nat.le_of_ble_eq_true rfl⟩ rfl hl.1 rfl (Nat.le_of_ble_eq_true rfl) ⟨Nat.le_of_ble_eq_true rfl, Nat.le_of_ble_eq_true rfl⟩ dL_crossings_51 ?_
      refine lv_iadd hx hb dL_crossings_54 ?_
      refine lv_icmp_gt (tgt := 84) hx hb dL_crossings_55 rfl (fun c10 => ?_) (fun c10 => ?_)
      · have hrun := p_pos hrun c10
        cases hrun
        exact K _ (lv_sub hl [0, 1, 2, 3, 4, 5] rfl)
      · have hrun := p_neg hrun c10
        refine lv_iload_n hx hb dL_crossings_58 rfl (lv_at hl 0 rfl) ?_
        refine lv_iload_n hx hb dL_crossings_59 rfl (lv_at hl 3 rfl) ?_
        refine lv_iload hx hb dL_crossings_60 (lv_at hl 5 rfl) ?_
        refine lv_isub hx hb dL_crossings_62 ?_
        obtain ⟨r11, h_r11, hrun⟩ := p_bnd hrun
        refine jSS_i (rest := []) C (c_round h_r11) gL_crossings_L_round hd_round rfl ⟨rfl, rfl⟩ ⟨Nat.le_of_ble_eq_true rfl, Nat.le_of_ble_eq_true rfl⟩ rfl hl.1 rfl (Nat.le_of_ble_eq_true rfl) ⟨Nat.le_of_ble_eq_true rfl, Nat.le_of_ble_eq_true rfl⟩ dL_crossings_63 ?_
        refine lv_iload_n hx hb dL_crossings_66 rfl (lv_at hl 1 rfl) ?_
        refine lv_iload hx hb dL_crossings_67 (lv_at hl 4 rfl) ?_
        refine lv_iload hx hb dL_crossings_69 (lv_at hl 5 rfl) ?_
        refine lv_isub hx hb dL_crossings_71 ?_
        obtain ⟨r12, h_r12, hrun⟩ := p_bnd hrun
        refine jSS_i (rest := [.int r11]) C (c_round h_r12) gL_crossings_L_round hd_round rfl ⟨rfl, rfl⟩ ⟨Nat.le_of_ble_eq_true rfl, Nat.le_of_ble_eq_true rfl⟩ rfl hl.1 rfl (Nat.le_of_ble_eq_true rfl) ⟨Nat.le_of_ble_eq_true rfl, Nat.le_of_ble_eq_true rfl⟩ dL_crossings_72 ?_
        refine lv_icmp_ne (tgt := 84) hx hb dL_crossings_75 rfl (fun c13 => ?_) (fun c13 => ?_)
        · have hrun := p_neg hrun c13
          cases hrun
          exact K _ (lv_sub hl [0, 1, 2, 3, 4, 5] rfl)
        · have hrun := p_pos hrun c13
          refine lv_iinc (v := x5 + 1) (lv' := [(5, .int (x5 + 1)), (0, .int x0), (1, .int x1), (2, .int x2), (3, .int x3), (4, .int x4)]) hx hb dL_crossings_78 hl (k := 5) rfl rfl (by decide) rfl (fun ls hl => ?_)
          refine lv_goto (tgt := 44) hx hb dL_crossings_81 rfl ?_
          exact ih (x5 + 1) out hrun K _ (lv_sub hl [1, 2, 3, 4, 5, 0] rfl)
  have loop_15 : ∀ (x3 : Int32) (n : Nat) (x2 : Int32) (x4 : Int32) (out : Int32), P_crossings_15 x0 x1 x3 n x2 x4 = some out → (∀ (ls : Array Slot), lv_has ls 6 [(0, .int x0), (1, .int x1), (2, .int out), (3, .int x3)] → W p l e rm_crossings s m args below meth c s.heap [] 0 0 Q (F0 m 114 ls [])) → ∀ (ls : Array Slot), lv_has ls 6 [(0, .int x0), (1, .int x1), (2, .int x2), (3, .int x3), (4, .int x4)] → W p l e rm_crossings s m args below meth c s.heap [] 0 0 Q (F0 m 15 ls []) := by
    intro x3 n
    induction n with
    | zero =>
      intro x2 x4 out hrun K ls hl
      cases hrun
    | succ n ih =>
      intro x2 x4 out hrun K ls hl
      rw [P_crossings_15] at hrun
      refine lv_iload hx hb dL_crossings_15 (lv_at hl 4 rfl) ?_
      refine lv_iload_n hx hb dL_crossings_17 rfl (lv_at hl 1 rfl) ?_
      obtain ⟨r3, h_r3, hrun⟩ := p_bnd hrun
      refine jSS_i (rest := [.int x4]) C (c_size h_r3) gL_crossings_L_size hd_size rfl ⟨rfl, rfl⟩ ⟨Nat.le_of_ble_eq_true rfl, Nat.le_of_ble_eq_true rfl⟩ rfl hl.1 rfl (Nat.le_of_ble_eq_true rfl) ⟨Nat.le_of_ble_eq_true rfl, Nat.le_of_ble_eq_true rfl⟩ dL_crossings_18 ?_
      refine lv_icmp_ge (tgt := 114) hx hb dL_crossings_21 rfl (fun c4 => ?_) (fun c4 => ?_)
      · have hrun := p_pos hrun c4
        cases hrun
        exact K _ (lv_sub hl [0, 1, 2, 3] rfl)
      · have hrun := p_neg hrun c4
        refine lv_iload_n hx hb dL_crossings_24 rfl (lv_at hl 0 rfl) ?_
        refine lv_iload_n hx hb dL_crossings_25 rfl (lv_at hl 3 rfl) ?_
        obtain ⟨r5, h_r5, hrun⟩ := p_bnd hrun
        refine jSS_i (rest := []) C (c_bit h_r5) gL_crossings_L_bit hd_bit rfl ⟨rfl, rfl⟩ ⟨Nat.le_of_ble_eq_true rfl, Nat.le_of_ble_eq_true rfl⟩ rfl hl.1 rfl (Nat.le_of_ble_eq_true rfl) ⟨Nat.le_of_ble_eq_true rfl, Nat.le_of_ble_eq_true rfl⟩ dL_crossings_26 ?_
        refine lv_iload_n hx hb dL_crossings_29 rfl (lv_at hl 1 rfl) ?_
        refine lv_iload hx hb dL_crossings_30 (lv_at hl 4 rfl) ?_
        obtain ⟨r6, h_r6, hrun⟩ := p_bnd hrun
        refine jSS_i (rest := [.int r5]) C (c_bit h_r6) gL_crossings_L_bit hd_bit rfl ⟨rfl, rfl⟩ ⟨Nat.le_of_ble_eq_true rfl, Nat.le_of_ble_eq_true rfl⟩ rfl hl.1 rfl (Nat.le_of_ble_eq_true rfl) ⟨Nat.le_of_ble_eq_true rfl, Nat.le_of_ble_eq_true rfl⟩ dL_crossings_32 ?_
        refine lv_icmp_ne (tgt := 41) hx hb dL_crossings_35 rfl (fun c7 => ?_) (fun c7 => ?_)
        · have hrun := p_neg hrun c7
          refine lv_iconst (v := 1) hx hb dL_crossings_41 rfl ?_
          refine lv_istore (lv' := [(5, .int 1), (0, .int x0), (1, .int x1), (2, .int x2), (3, .int x3), (4, .int x4)]) hx hb dL_crossings_42 hl (by decide) rfl (fun ls hl => ?_)
          obtain ⟨o14, h_o14, hrun⟩ := p_bnd hrun
          refine loop_44 x2 x3 x4 FU 1 o14 h_o14 (fun ls hl => ?_) _ (lv_sub hl [1, 2, 3, 4, 5, 0] rfl)
          refine lv_iload_n hx hb dL_crossings_84 rfl (lv_at hl 2 rfl) ?_
          refine lv_iload_n hx hb dL_crossings_85 rfl (lv_at hl 0 rfl) ?_
          refine lv_iload_n hx hb dL_crossings_86 rfl (lv_at hl 3 rfl) ?_
          refine lv_iload hx hb dL_crossings_87 (lv_at hl 5 rfl) ?_
          refine lv_isub hx hb dL_crossings_89 ?_
          obtain ⟨r15, h_r15, hrun⟩ := p_bnd hrun
          refine jSS_i (rest := [.int x2]) C (c_round h_r15) gL_crossings_L_round hd_round rfl ⟨rfl, rfl⟩ ⟨Nat.le_of_ble_eq_true rfl, Nat.le_of_ble_eq_true rfl⟩ rfl hl.1 rfl (Nat.le_of_ble_eq_true rfl) ⟨Nat.le_of_ble_eq_true rfl, Nat.le_of_ble_eq_true rfl⟩ dL_crossings_90 ?_
          refine lv_iload_n hx hb dL_crossings_93 rfl (lv_at hl 0 rfl) ?_
          refine lv_iload_n hx hb dL_crossings_94 rfl (lv_at hl 3 rfl) ?_
          obtain ⟨r16, h_r16, hrun⟩ := p_bnd hrun
          refine jSS_i (rest := [.int r15, .int x2]) C (c_bit h_r16) gL_crossings_L_bit hd_bit rfl ⟨rfl, rfl⟩ ⟨Nat.le_of_ble_eq_true rfl, Nat.le_of_ble_eq_true rfl⟩ rfl hl.1 rfl (Nat.le_of_ble_eq_true rfl) ⟨Nat.le_of_ble_eq_true rfl, Nat.le_of_ble_eq_true rfl⟩ dL_crossings_95 ?_
          refine lv_icmp_ne (tgt := 105) hx hb dL_crossings_98 rfl (fun c17 => ?_) (fun c17 => ?_)
          · have hrun := p_neg hrun c17
            refine lv_iconst (v := 1) hx hb dL_crossings_105 rfl ?_
            refine lv_iadd hx hb dL_crossings_106 ?_
            refine lv_istore_n (lv' := [(2, .int (x2 + 1)), (0, .int x0), (1, .int x1), (3, .int x3), (4, .int x4), (5, .int o14)]) hx hb dL_crossings_107 rfl hl (by decide) rfl (fun ls hl => ?_)
            refine lv_iinc (v := x4 + 1) (lv' := [(4, .int (x4 + 1)), (2, .int (x2 + 1)), (0, .int x0), (1, .int x1), (3, .int x3), (5, .int o14)]) hx hb dL_crossings_108 hl (k := 4) rfl rfl (by decide) rfl (fun ls hl => ?_)
            refine lv_goto (tgt := 15) hx hb dL_crossings_111 rfl ?_
            exact ih (x2 + 1) (x4 + 1) out hrun K _ (lv_sub hl [2, 3, 1, 4, 0] rfl)
          · have hrun := p_pos hrun c17
            refine lv_iconst (v := 0) hx hb dL_crossings_101 rfl ?_
            refine lv_goto (tgt := 106) hx hb dL_crossings_102 rfl ?_
            refine lv_iadd hx hb dL_crossings_106 ?_
            refine lv_istore_n (lv' := [(2, .int (x2 + 0)), (0, .int x0), (1, .int x1), (3, .int x3), (4, .int x4), (5, .int o14)]) hx hb dL_crossings_107 rfl hl (by decide) rfl (fun ls hl => ?_)
            refine lv_iinc (v := x4 + 1) (lv' := [(4, .int (x4 + 1)), (2, .int (x2 + 0)), (0, .int x0), (1, .int x1), (3, .int x3), (5, .int o14)]) hx hb dL_crossings_108 hl (k := 4) rfl rfl (by decide) rfl (fun ls hl => ?_)
            refine lv_goto (tgt := 15) hx hb dL_crossings_111 rfl ?_
            exact ih (x2 + 0) (x4 + 1) out hrun K _ (lv_sub hl [2, 3, 1, 4, 0] rfl)
        · have hrun := p_pos hrun c7
          refine lv_goto (tgt := 108) hx hb dL_crossings_38 rfl ?_
          refine lv_iinc (v := x4 + 1) (lv' := [(4, .int (x4 + 1)), (0, .int x0), (1, .int x1), (2, .int x2), (3, .int x3)]) hx hb dL_crossings_108 hl (k := 4) rfl rfl (by decide) rfl (fun ls hl => ?_)
          refine lv_goto (tgt := 15) hx hb dL_crossings_111 rfl ?_
          exact ih x2 (x4 + 1) out hrun K _ (lv_sub hl [1, 2, 3, 4, 0] rfl)
  have loop_4 : ∀ (n : Nat) (x2 : Int32) (x3 : Int32) (out : Int32), P_crossings_4 x0 x1 n x2 x3 = some out → (∀ (ls : Array Slot), lv_has ls 6 [(2, .int out)] → W p l e rm_crossings s m args below meth c s.heap [] 0 0 Q (F0 m 120 ls [])) → ∀ (ls : Array Slot), lv_has ls 6 [(0, .int x0), (1, .int x1), (2, .int x2), (3, .int x3)] → W p l e rm_crossings s m args below meth c s.heap [] 0 0 Q (F0 m 4 ls []) := by
    intro n
    induction n with
    | zero =>
      intro x2 x3 out hrun K ls hl
      cases hrun
    | succ n ih =>
      intro x2 x3 out hrun K ls hl
      rw [P_crossings_4] at hrun
      refine lv_iload_n hx hb dL_crossings_4 rfl (lv_at hl 3 rfl) ?_
      refine lv_iload_n hx hb dL_crossings_5 rfl (lv_at hl 0 rfl) ?_
      obtain ⟨r1, h_r1, hrun⟩ := p_bnd hrun
      refine jSS_i (rest := [.int x3]) C (c_size h_r1) gL_crossings_L_size hd_size rfl ⟨rfl, rfl⟩ ⟨Nat.le_of_ble_eq_true rfl, Nat.le_of_ble_eq_true rfl⟩ rfl hl.1 rfl (Nat.le_of_ble_eq_true rfl) ⟨Nat.le_of_ble_eq_true rfl, Nat.le_of_ble_eq_true rfl⟩ dL_crossings_6 ?_
      refine lv_icmp_ge (tgt := 120) hx hb dL_crossings_9 rfl (fun c2 => ?_) (fun c2 => ?_)
      · have hrun := p_pos hrun c2
        cases hrun
        exact K _ (lv_sub hl [2] rfl)
      · have hrun := p_neg hrun c2
        refine lv_iconst (v := 0) hx hb dL_crossings_12 rfl ?_
        refine lv_istore (lv' := [(4, .int 0), (0, .int x0), (1, .int x1), (2, .int x2), (3, .int x3)]) hx hb dL_crossings_13 hl (by decide) rfl (fun ls hl => ?_)
        obtain ⟨o18, h_o18, hrun⟩ := p_bnd hrun
        refine loop_15 x3 FU x2 0 o18 h_o18 (fun ls hl => ?_) _ (lv_sub hl [1, 2, 3, 4, 0] rfl)
        refine lv_iinc (v := x3 + 1) (lv' := [(3, .int (x3 + 1)), (0, .int x0), (1, .int x1), (2, .int o18)]) hx hb dL_crossings_114 hl (k := 3) rfl rfl (by decide) rfl (fun ls hl => ?_)
        refine lv_goto (tgt := 4) hx hb dL_crossings_117 rfl ?_
        exact ih o18 (x3 + 1) out hrun K _ (lv_sub hl [1, 2, 3, 0] rfl)
  unfold P_crossings at hrun
  refine lv_iconst (v := 0) hx hb dL_crossings_0 rfl ?_
  refine lv_istore_n (lv' := [(2, .int 0), (0, .int x0), (1, .int x1)]) hx hb dL_crossings_1 rfl hl (by decide) rfl (fun ls hl => ?_)
  refine lv_iconst (v := 0) hx hb dL_crossings_2 rfl ?_
  refine lv_istore_n (lv' := [(3, .int 0), (2, .int 0), (0, .int x0), (1, .int x1)]) hx hb dL_crossings_3 rfl hl (by decide) rfl (fun ls hl => ?_)
  obtain ⟨o19, h_o19, hrun⟩ := p_bnd hrun
  refine loop_4 FU 0 0 o19 h_o19 (fun ls hl => ?_) _ (lv_sub hl [2, 3, 1, 0] rfl)
  refine lv_iload_n hx hb dL_crossings_120 rfl (lv_at hl 0 rfl) ?_
  cases hrun
  exact rS_i C hr hlk hQ (nbi _) rfl dL_crossings_121

abbrev rm_period : Room := { frames := 3, cells := 0, slots := 0, locals := 66 }
theorem hd_period : okD yL_period 1 := by decide +kernel
set_option maxHeartbeats 8000000 in
set_option maxRecDepth 100000 in
theorem c_period {x0 : Int32} {res : Int32} (hrun : P_period x0 = some res) : Met l yL_period wsL_period rm_period (va_Pc [.int x0] PN) (vp_Si (fun x => x = res)) 0 0 (fun _ => False) := by
  refine N_in (cc := cL_period) (maxL := 2) (ret := (some .int)) (by decide) rfl (Nat.le_of_ble_eq_true rfl) ?_
  intro p e s m args below meth c ls Q hQ C hr hlk hl
  have C : CallFix p m c cL_period 2 s args wsL_period RL := C
  have hx := C.1
  have hb := C.2.1
  have hl : lv_has ls 2 [(0, .int x0)] := hl
  have loop_2 : ∀ (n : Nat) (x1 : Int32) (out : Int32), P_period_2 x0 n x1 = some out → (∀ (ls : Array Slot), lv_has ls 2 [(1, .int out)] → W p l e rm_period s m args below meth c s.heap [] 0 0 Q (F0 m 17 ls [])) → ∀ (ls : Array Slot), lv_has ls 2 [(0, .int x0), (1, .int x1)] → W p l e rm_period s m args below meth c s.heap [] 0 0 Q (F0 m 2 ls []) := by
    intro n
    induction n with
    | zero =>
      intro x1 out hrun K ls hl
      cases hrun
    | succ n ih =>
      intro x1 out hrun K ls hl
      rw [P_period_2] at hrun
      refine lv_iload_n hx hb dL_period_2 rfl (lv_at hl 0 rfl) ?_
      refine lv_iload_n hx hb dL_period_3 rfl (lv_at hl 1 rfl) ?_
      obtain ⟨r1, h_r1, hrun⟩ := p_bnd hrun
      refine jSS_i (rest := []) C (c_turned h_r1) gL_period_L_turned hd_turned rfl ⟨rfl, rfl⟩ ⟨Nat.le_of_ble_eq_true rfl, Nat.le_of_ble_eq_true rfl⟩ rfl hl.1 rfl (Nat.le_of_ble_eq_true rfl) ⟨Nat.le_of_ble_eq_true rfl, Nat.le_of_ble_eq_true rfl⟩ dL_period_4 ?_
      refine lv_iload_n hx hb dL_period_7 rfl (lv_at hl 0 rfl) ?_
      refine lv_icmp_eq (tgt := 17) hx hb dL_period_8 rfl (fun c2 => ?_) (fun c2 => ?_)
      · have hrun := p_pos hrun c2
        cases hrun
        exact K _ (lv_sub hl [1] rfl)
      · have hrun := p_neg hrun c2
        refine lv_iinc (v := x1 + 1) (lv' := [(1, .int (x1 + 1)), (0, .int x0)]) hx hb dL_period_11 hl (k := 1) rfl rfl (by decide) rfl (fun ls hl => ?_)
        refine lv_goto (tgt := 2) hx hb dL_period_14 rfl ?_
        exact ih (x1 + 1) out hrun K _ (lv_sub hl [1, 0] rfl)
  unfold P_period at hrun
  refine lv_iconst (v := 1) hx hb dL_period_0 rfl ?_
  refine lv_istore_n (lv' := [(1, .int 1), (0, .int x0)]) hx hb dL_period_1 rfl hl (by decide) rfl (fun ls hl => ?_)
  obtain ⟨o3, h_o3, hrun⟩ := p_bnd hrun
  refine loop_2 FU 1 o3 h_o3 (fun ls hl => ?_) _ (lv_sub hl [1, 0] rfl)
  refine lv_iload_n hx hb dL_period_17 rfl (lv_at hl 0 rfl) ?_
  cases hrun
  exact rS_i C hr hlk hQ (nbi _) rfl dL_period_18

end Z92
