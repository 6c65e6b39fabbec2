section Z91
variable {l : Launch} {D : va_G} {sz : Nat}
variable {az ad fa ca wad : Nat → Nat} {cI cR cG : ClassId}
variable {v_roadCount v_readings v_psize v_good v_pbits v_letters v_afterLetter v_disc v_rsize v_cycleCount v_closed v_traces v_crossings v_db_bits v_db_size v_db_allBits v_db_a v_db_b v_db_c v_db_d v_dn_bits v_dn_size v_dn_allBits v_dn_a v_dn_b v_dn_c v_dn_d : Int32}
variable {v_s : Int64}
variable {v_zw v_zd v_zt v_codes : Nat → Int32}
variable {v_fo v_cy v_wv : Nat → Nat → Int32}
variable {v_wn : Nat}
abbrev rm_table : Room := { frames := 1, cells := 0, slots := 0, locals := 21 }
theorem hd_table : okD yL_table 2 := by decide +kernel
set_option maxHeartbeats 8000000 in
set_option maxRecDepth 100000 in
theorem c_table {x0 : Int32} {res : (Nat → Int32)} (hrun : P_table v_zt x0 = some res) : Met l yL_table wsL_table rm_table (va_Pc [.int x0, .ref (az 2)] (PE D (tyX cI cR cG) sz (WZ0 az ad fa ca wad cI cR cG v_wn) (WZ az ad fa ca wad cI cR cG v_zw v_zd v_zt v_roadCount v_readings v_psize v_good v_pbits v_letters v_afterLetter v_codes v_disc v_rsize v_cycleCount v_fo v_cy v_s v_closed v_traces v_crossings v_db_bits v_db_size v_db_allBits v_db_a v_db_b v_db_c v_db_d v_dn_bits v_dn_size v_dn_allBits v_dn_a v_dn_b v_dn_c v_dn_d v_wn v_wv))) (va_Qv (fun _ : Unit => True) (fun _ t => va_P D vwCl (WZ az ad fa ca wad cI cR cG v_zw v_zd res v_roadCount v_readings v_psize v_good v_pbits v_letters v_afterLetter v_codes v_disc v_rsize v_cycleCount v_fo v_cy v_s v_closed v_traces v_crossings v_db_bits v_db_size v_db_allBits v_db_a v_db_b v_db_c v_db_d v_dn_bits v_dn_size v_dn_allBits v_dn_a v_dn_b v_dn_c v_dn_d v_wn v_wv) t.heap) (va_A (WZ0 az ad fa ca wad cI cR cG v_wn) sz)) 0 0 (va_A (WZ0 az ad fa ca wad cI cR cG v_wn) sz) := by
  refine E_in (cc := cL_table) (maxL := 4) (ret := none) (by decide) rfl (Nat.le_of_ble_eq_true rfl) ?_
  intro p e s m args below meth c ls Q hQ C hr hlk hK hN hD hA I hl
  have C : CallFix p m c cL_table 4 s args wsL_table RL := C
  have hx := C.1
  have hb := C.2.1
  have hl : lv_has ls 4 [(0, .int x0), (1, .ref (az 2))] := hl
  have loop_18 : ∀ (n : Nat) (v_zt : Nat → Int32) (x2 : Int32) (out : (Nat → Int32)), P_table_18 x0 n v_zt x2 = some out → (∀ (H : Heap) (locs : List Loc) (ls : Array Slot), IM D (va_A (WZ0 az ad fa ca wad cI cR cG v_wn) sz) s.heap H locs (WZ az ad fa ca wad cI cR cG v_zw v_zd out v_roadCount v_readings v_psize v_good v_pbits v_letters v_afterLetter v_codes v_disc v_rsize v_cycleCount v_fo v_cy v_s v_closed v_traces v_crossings v_db_bits v_db_size v_db_allBits v_db_a v_db_b v_db_c v_db_d v_dn_bits v_dn_size v_dn_allBits v_dn_a v_dn_b v_dn_c v_dn_d v_wn v_wv) → lv_has ls 4 [] → W p l e rm_table s m args below meth c H locs 0 0 Q (F0 m 62 ls [])) → ∀ (H : Heap) (locs : List Loc) (ls : Array Slot), IM D (va_A (WZ0 az ad fa ca wad cI cR cG v_wn) sz) s.heap H locs (WZ az ad fa ca wad cI cR cG v_zw v_zd v_zt v_roadCount v_readings v_psize v_good v_pbits v_letters v_afterLetter v_codes v_disc v_rsize v_cycleCount v_fo v_cy v_s v_closed v_traces v_crossings v_db_bits v_db_size v_db_allBits v_db_a v_db_b v_db_c v_db_d v_dn_bits v_dn_size v_dn_allBits v_dn_a v_dn_b v_dn_c v_dn_d v_wn v_wv) → lv_has ls 4 [(0, .int x0), (1, .ref (az 2)), (2, .int x2)] → W p l e rm_table s m args below meth c H locs 0 0 Q (F0 m 18 ls []) := by
    intro n
    induction n with
    | zero =>
      intro v_zt x2 out hrun K H locs ls I hl
      cases hrun
    | succ n ih =>
      intro v_zt x2 out hrun K H locs ls I hl
      rw [P_table_18] at hrun
      refine lv_iload_n hx hb dL_table_18 rfl (lv_at hl 2 rfl) ?_
      refine lv_iload_n hx hb dL_table_19 rfl (lv_at hl 0 rfl) ?_
      obtain ⟨r5, h_r5, hrun⟩ := p_bnd hrun
      refine jSS_i (rest := [.int x2]) C (c_size h_r5) gL_table_L_size hd_size rfl ⟨rfl, rfl⟩ ⟨Nat.le_of_ble_eq_true rfl, Nat.le_of_ble_eq_true rfl⟩ rfl hl.1 rfl (Nat.le_of_ble_eq_true rfl) ⟨Nat.le_of_ble_eq_true rfl, Nat.le_of_ble_eq_true rfl⟩ dL_table_20 ?_
      refine lv_icmp_ge (tgt := 62) hx hb dL_table_23 rfl (fun c6 => ?_) (fun c6 => ?_)
      · have hrun := p_pos hrun c6
        cases hrun
        exact K _ _ _ I (lv_sub hl [] rfl)
      · have hrun := p_neg hrun c6
        refine lv_iload_n hx hb dL_table_26 rfl (lv_at hl 0 rfl) ?_
        refine lv_iload_n hx hb dL_table_27 rfl (lv_at hl 2 rfl) ?_
        obtain ⟨r7, h_r7, hrun⟩ := p_bnd hrun
        refine jSS_i (rest := []) C (c_bit h_r7) gL_table_L_bit hd_bit rfl ⟨rfl, rfl⟩ ⟨Nat.le_of_ble_eq_true rfl, Nat.le_of_ble_eq_true rfl⟩ rfl hl.1 rfl (Nat.le_of_ble_eq_true rfl) ⟨Nat.le_of_ble_eq_true rfl, Nat.le_of_ble_eq_true rfl⟩ dL_table_28 ?_
        refine lv_istore_n (lv' := [(3, .int r7), (0, .int x0), (1, .ref (az 2)), (2, .int x2)]) hx hb dL_table_31 rfl hl (by decide) rfl (fun ls hl => ?_)
        refine lv_aload_n hx hb dL_table_32 rfl (lv_at hl 2 rfl) ?_
        refine lv_iload_n hx hb dL_table_33 rfl (lv_at hl 0 rfl) ?_
        refine lv_dup2_11 hx hb dL_table_34 rfl rfl ?_
        obtain ⟨b8, hrun⟩ := p_chk hrun
        refine ldZ_zt C hK I.1 b8 dL_table_35 ?_
        refine lv_aload_n hx hb dL_table_36 rfl (lv_at hl 2 rfl) ?_
        refine lv_iconst (v := 1) hx hb dL_table_37 rfl ?_
        refine lv_iload_n hx hb dL_table_38 rfl (lv_at hl 0 rfl) ?_
        refine lv_isub hx hb dL_table_39 ?_
        obtain ⟨b9, hrun⟩ := p_chk hrun
        refine ldZ_zt C hK I.1 b9 dL_table_40 ?_
        refine lv_iadd hx hb dL_table_41 ?_
        obtain ⟨b10, hrun⟩ := p_chk hrun
        refine stZ_zt C hK hD I b10 dL_table_42 (fun H locs I => ?_)
        refine lv_aload_n hx hb dL_table_43 rfl (lv_at hl 2 rfl) ?_
        refine lv_iconst (v := 2) hx hb dL_table_44 rfl ?_
        refine lv_iload_n hx hb dL_table_45 rfl (lv_at hl 0 rfl) ?_
        refine lv_iadd hx hb dL_table_46 ?_
        refine lv_dup2_11 hx hb dL_table_47 rfl rfl ?_
        obtain ⟨b11, hrun⟩ := p_chk hrun
        refine ldZ_zt C hK I.1 b11 dL_table_48 ?_
        refine lv_aload_n hx hb dL_table_49 rfl (lv_at hl 2 rfl) ?_
        refine lv_iconst (v := 3) hx hb dL_table_50 rfl ?_
        refine lv_iload_n hx hb dL_table_51 rfl (lv_at hl 0 rfl) ?_
        refine lv_isub hx hb dL_table_52 ?_
        obtain ⟨b12, hrun⟩ := p_chk hrun
        refine ldZ_zt C hK I.1 b12 dL_table_53 ?_
        refine lv_iadd hx hb dL_table_54 ?_
        obtain ⟨b13, hrun⟩ := p_chk hrun
        refine stZ_zt C hK hD I b13 dL_table_55 (fun H locs I => ?_)
        refine lv_iinc (v := x2 + 1) (lv' := [(2, .int (x2 + 1)), (3, .int r7), (0, .int x0), (1, .ref (az 2))]) hx hb dL_table_56 hl (k := 3) rfl rfl (by decide) rfl (fun ls hl => ?_)
        refine lv_goto (tgt := 18) hx hb dL_table_59 rfl ?_
        exact ih (upd (upd v_zt (Int32.toNatClampNeg r7) ((v_zt (Int32.toNatClampNeg r7)) + (v_zt (Int32.toNatClampNeg (1 - r7))))) (Int32.toNatClampNeg (2 + r7)) (((upd v_zt (Int32.toNatClampNeg r7) ((v_zt (Int32.toNatClampNeg r7)) + (v_zt (Int32.toNatClampNeg (1 - r7))))) (Int32.toNatClampNeg (2 + r7))) + ((upd v_zt (Int32.toNatClampNeg r7) ((v_zt (Int32.toNatClampNeg r7)) + (v_zt (Int32.toNatClampNeg (1 - r7))))) (Int32.toNatClampNeg (3 - r7))))) (x2 + 1) out hrun K _ _ _ I (lv_sub hl [2, 3, 0] rfl)
  unfold P_table at hrun
  refine lv_aload_n hx hb dL_table_0 rfl (lv_at hl 1 rfl) ?_
  refine lv_iconst (v := 0) hx hb dL_table_1 rfl ?_
  refine lv_iconst (v := 1) hx hb dL_table_2 rfl ?_
  obtain ⟨b1, hrun⟩ := p_chk hrun
  refine stZ_zt C hK hD I b1 dL_table_3 (fun H locs I => ?_)
  refine lv_aload_n hx hb dL_table_4 rfl (lv_at hl 1 rfl) ?_
  refine lv_iconst (v := 1) hx hb dL_table_5 rfl ?_
  refine lv_iconst (v := 0) hx hb dL_table_6 rfl ?_
  obtain ⟨b2, hrun⟩ := p_chk hrun
  refine stZ_zt C hK hD I b2 dL_table_7 (fun H locs I => ?_)
  refine lv_aload_n hx hb dL_table_8 rfl (lv_at hl 1 rfl) ?_
  refine lv_iconst (v := 2) hx hb dL_table_9 rfl ?_
  refine lv_iconst (v := 0) hx hb dL_table_10 rfl ?_
  obtain ⟨b3, hrun⟩ := p_chk hrun
  refine stZ_zt C hK hD I b3 dL_table_11 (fun H locs I => ?_)
  refine lv_aload_n hx hb dL_table_12 rfl (lv_at hl 1 rfl) ?_
  refine lv_iconst (v := 3) hx hb dL_table_13 rfl ?_
  refine lv_iconst (v := 1) hx hb dL_table_14 rfl ?_
  obtain ⟨b4, hrun⟩ := p_chk hrun
  refine stZ_zt C hK hD I b4 dL_table_15 (fun H locs I => ?_)
  refine lv_iconst (v := 0) hx hb dL_table_16 rfl ?_
  refine lv_istore_n (lv' := [(2, .int 0), (0, .int x0), (1, .ref (az 2))]) hx hb dL_table_17 rfl hl (by decide) rfl (fun ls hl => ?_)
  obtain ⟨o14, h_o14, hrun⟩ := p_bnd hrun
  refine loop_18 FU (upd (upd (upd (upd v_zt (Int32.toNatClampNeg 0) 1) (Int32.toNatClampNeg 1) 0) (Int32.toNatClampNeg 2) 0) (Int32.toNatClampNeg 3) 1) 0 o14 h_o14 (fun H locs ls I hl => ?_) _ _ _ I (lv_sub hl [1, 2, 0] rfl)
  cases hrun
  exact rE_v C hr hlk hQ I dL_table_62

abbrev rm_gcd : Room := { frames := 0, cells := 0, slots := 0, locals := 0 }
theorem hd_gcd : okD yL_gcd 2 := by decide +kernel
set_option maxHeartbeats 8000000 in
set_option maxRecDepth 100000 in
theorem c_gcd {x0 : Int32} {x1 : Int32} {res : Int32} (hrun : P_gcd x0 x1 = some res) : Met l yL_gcd wsL_gcd rm_gcd (va_Pc [.int x0, .int x1] PN) (vp_Si (fun x => x = res)) 0 0 (fun _ => False) := by
  refine N_in (cc := cL_gcd) (maxL := 5) (ret := (some .int)) (by decide) rfl (Nat.le_of_ble_eq_true rfl) ?_
  intro p e s m args below meth c ls Q hQ C hr hlk hl
  have C : CallFix p m c cL_gcd 5 s args wsL_gcd RL := C
  have hx := C.1
  have hb := C.2.1
  have hl : lv_has ls 5 [(0, .int x0), (1, .int x1)] := hl
  have loop_22 : ∀ (n : Nat) (x2 : Int32) (x3 : Int32) (out : Int32), P_gcd_22 n x2 x3 = some out → (∀ (ls : Array Slot), lv_has ls 5 [(2, .int out)] → W p l e rm_gcd s m args below meth c s.heap [] 0 0 Q (F0 m 39 ls [])) → ∀ (ls : Array Slot), lv_has ls 5 [(2, .int x2), (3, .int x3)] → W p l e rm_gcd s m args below meth c s.heap [] 0 0 Q (F0 m 22 ls []) := by
    intro n
    induction n with
    | zero =>
      intro x2 x3 out hrun K ls hl
      cases hrun
    | succ n ih =>
      intro x2 x3 out hrun K ls hl
      rw [P_gcd_22] at hrun
      refine lv_iload_n hx hb dL_gcd_22 rfl (lv_at hl 1 rfl) ?_
      refine lv_if_eq (tgt := 39) hx hb dL_gcd_23 rfl (fun c3 => ?_) (fun c3 => ?_)
      · have hrun := p_pos hrun c3
        cases hrun
        exact K _ (lv_sub hl [0] rfl)
      · have hrun := p_neg hrun c3
        refine lv_iload_n hx hb dL_gcd_26 rfl (lv_at hl 0 rfl) ?_
        refine lv_iload_n hx hb dL_gcd_27 rfl (lv_at hl 1 rfl) ?_
        obtain ⟨z4, hrun⟩ := p_chk hrun
        refine j_irem hx hb dL_gcd_28 z4 ?_
        refine lv_istore (lv' := [(4, .int (jrem x2 x3)), (2, .int x2), (3, .int x3)]) hx hb dL_gcd_29 hl (by decide) rfl (fun ls hl => ?_)
        refine lv_iload_n hx hb dL_gcd_31 rfl (lv_at hl 2 rfl) ?_
        refine lv_istore_n (lv' := [(2, .int x3), (4, .int (jrem x2 x3)), (3, .int x3)]) hx hb dL_gcd_32 rfl hl (by decide) rfl (fun ls hl => ?_)
        refine lv_iload hx hb dL_gcd_33 (lv_at hl 1 rfl) ?_
        refine lv_istore_n (lv' := [(3, .int (jrem x2 x3)), (2, .int x3), (4, .int (jrem x2 x3))]) hx hb dL_gcd_35 rfl hl (by decide) rfl (fun ls hl => ?_)
        refine lv_goto (tgt := 22) hx hb dL_gcd_36 rfl ?_
        exact ih x3 (jrem x2 x3) out hrun K _ (lv_sub hl [1, 0] rfl)
  unfold P_gcd at hrun
  refine lv_iload_n hx hb dL_gcd_0 rfl (lv_at hl 0 rfl) ?_
  refine lv_if_ge (tgt := 9) hx hb dL_gcd_1 rfl (fun c1 => ?_) (fun c1 => ?_)
  · have hrun := p_pos hrun c1
    refine lv_iload_n hx hb dL_gcd_9 rfl (lv_at hl 0 rfl) ?_
    refine lv_istore_n (lv' := [(2, .int x0), (0, .int x0), (1, .int x1)]) hx hb dL_gcd_10 rfl hl (by decide) rfl (fun ls hl => ?_)
    refine lv_iload_n hx hb dL_gcd_11 rfl (lv_at hl 2 rfl) ?_
    refine lv_if_ge (tgt := 20) hx hb dL_gcd_12 rfl (fun c2 => ?_) (fun c2 => ?_)
    · have hrun := p_pos hrun c2
      refine lv_iload_n hx hb dL_gcd_20 rfl (lv_at hl 2 rfl) ?_
      refine lv_istore_n (lv' := [(3, .int x1), (2, .int x0), (0, .int x0), (1, .int x1)]) hx hb dL_gcd_21 rfl hl (by decide) rfl (fun ls hl => ?_)
      obtain ⟨o5, h_o5, hrun⟩ := p_bnd hrun
      refine loop_22 FU x0 x1 o5 h_o5 (fun ls hl => ?_) _ (lv_sub hl [1, 0] rfl)
      refine lv_iload_n hx hb dL_gcd_39 rfl (lv_at hl 0 rfl) ?_
      cases hrun
      exact rS_i C hr hlk hQ (nbi _) rfl dL_gcd_40
    · have hrun := p_neg hrun c2
      refine lv_iload_n hx hb dL_gcd_15 rfl (lv_at hl 2 rfl) ?_
      refine lv_ineg hx hb dL_gcd_16 ?_
      refine lv_goto (tgt := 21) hx hb dL_gcd_17 rfl ?_
      refine lv_istore_n (lv' := [(3, .int (-x1)), (2, .int x0), (0, .int x0), (1, .int x1)]) hx hb dL_gcd_21 rfl hl (by decide) rfl (fun ls hl => ?_)
      obtain ⟨o6, h_o6, hrun⟩ := p_bnd hrun
      refine loop_22 FU x0 (-x1) o6 h_o6 (fun ls hl => ?_) _ (lv_sub hl [1, 0] rfl)
      refine lv_iload_n hx hb dL_gcd_39 rfl (lv_at hl 0 rfl) ?_
      cases hrun
      exact rS_i C hr hlk hQ (nbi _) rfl dL_gcd_40
  · have hrun := p_neg hrun c1
    refine lv_iload_n hx hb dL_gcd_4 rfl (lv_at hl 0 rfl) ?_
    refine lv_ineg hx hb dL_gcd_5 ?_
    refine lv_goto (tgt := 10) hx hb dL_gcd_6 rfl ?_
    refine lv_istore_n (lv' := [(2, .int (-x0)), (0, .int x0), (1, .int x1)]) hx hb dL_gcd_10 rfl hl (by decide) rfl (fun ls hl => ?_)
    refine lv_iload_n hx hb dL_gcd_11 rfl (lv_at hl 2 rfl) ?_
    refine lv_if_ge (tgt := 20) hx hb dL_gcd_12 rfl (fun c7 => ?_) (fun c7 => ?_)
    · have hrun := p_pos hrun c7
      refine lv_iload_n hx hb dL_gcd_20 rfl (lv_at hl 2 rfl) ?_
      refine lv_istore_n (lv' := [(3, .int x1), (2, .int (-x0)), (0, .int x0), (1, .int x1)]) hx hb dL_gcd_21 rfl hl (by decide) rfl (fun ls hl => ?_)
      obtain ⟨o8, h_o8, hrun⟩ := p_bnd hrun
      refine loop_22 FU (-x0) x1 o8 h_o8 (fun ls hl => ?_) _ (lv_sub hl [1, 0] rfl)
      refine lv_iload_n hx hb dL_gcd_39 rfl (lv_at hl 0 rfl) ?_
      cases hrun
      exact rS_i C hr hlk hQ (nbi _) rfl dL_gcd_40
    · have hrun := p_neg hrun c7
      refine lv_iload_n hx hb dL_gcd_15 rfl (lv_at hl 2 rfl) ?_
      refine lv_ineg hx hb dL_gcd_16 ?_
      refine lv_goto (tgt := 21) hx hb dL_gcd_17 rfl ?_
      refine lv_istore_n (lv' := [(3, .int (-x1)), (2, .int (-x0)), (0, .int x0), (1, .int x1)]) hx hb dL_gcd_21 rfl hl (by decide) rfl (fun ls hl => ?_)
      obtain ⟨o9, h_o9, hrun⟩ := p_bnd hrun
      refine loop_22 FU (-x0) (-x1) o9 h_o9 (fun ls hl => ?_) _ (lv_sub hl [1, 0] rfl)
      refine lv_iload_n hx hb dL_gcd_39 rfl (lv_at hl 0 rfl) ?_
      cases hrun
      exact rS_i C hr hlk hQ (nbi _) rfl dL_gcd_40

abbrev rm_wordBy : Room := { frames := 2, cells := 0, slots := 0, locals := 41 }
theorem hd_wordBy : okD yL_wordBy 2 := by decide +kernel
set_option maxHeartbeats 8000000 in
set_option maxRecDepth 100000 in
theorem c_wordBy {x0 : Int32} {x1 : Int32} {res : Int32} (hrun : P_wordBy x0 x1 = some res) : Met l yL_wordBy wsL_wordBy rm_wordBy (va_Pc [.int x0, .int x1] PN) (vp_Si (fun x => x = res)) 0 0 (fun _ => False) := by
  refine N_in (cc := cL_wordBy) (maxL := 5) (ret := (some .int)) (by decide) rfl (Nat.le_of_ble_eq_true rfl) ?_
  intro p e s m args below meth c ls Q hQ C hr hlk hl
  have C : CallFix p m c cL_wordBy 5 s args wsL_wordBy RL := C
  have hx := C.1
  have hb := C.2.1
  have hl : lv_has ls 5 [(0, .int x0), (1, .int x1)] := hl
  have loop_13 : ∀ (x3 : Int32) (n : Nat) (x2 : Int32) (x4 : Int32) (out : Int32), P_wordBy_13 x0 x3 n x2 x4 = some out → (∀ (ls : Array Slot), lv_has ls 5 [(2, .int out)] → W p l e rm_wordBy s m args below meth c s.heap [] 0 0 Q (F0 m 67 ls [])) → ∀ (ls : Array Slot), lv_has ls 5 [(0, .int x0), (2, .int x2), (3, .int x3), (4, .int x4)] → W p l e rm_wordBy s m args below meth c s.heap [] 0 0 Q (F0 m 13 ls []) := by
    intro x3 n
    induction n with
    | zero =>
      intro x2 x4 out hrun K ls hl
      cases hrun
    | succ n ih =>
      intro x2 x4 out hrun K ls hl
      rw [P_wordBy_13] at hrun
      refine lv_iload hx hb dL_wordBy_13 (lv_at hl 3 rfl) ?_
      refine lv_iload_n hx hb dL_wordBy_15 rfl (lv_at hl 2 rfl) ?_
      refine lv_icmp_ge (tgt := 67) hx hb dL_wordBy_16 rfl (fun c2 => ?_) (fun c2 => ?_)
      · have hrun := p_pos hrun c2
        cases hrun
        exact K _ (lv_sub hl [1] rfl)
      · have hrun := p_neg hrun c2
        refine lv_iload_n hx hb dL_wordBy_19 rfl (lv_at hl 1 rfl) ?_
        refine lv_iload_n hx hb dL_wordBy_20 rfl (lv_at hl 0 rfl) ?_
        refine lv_iconst (v := 5) hx hb dL_wordBy_21 rfl ?_
        obtain ⟨r3, h_r3, hrun⟩ := p_bnd hrun
        refine jSS_i (rest := [.int x2]) C (c_at h_r3) gL_wordBy_L_at hd_at rfl ⟨rfl, rfl⟩ ⟨Nat.le_of_ble_eq_true rfl, Nat.le_of_ble_eq_true rfl⟩ rfl hl.1 rfl (Nat.le_of_ble_eq_true rfl) ⟨Nat.le_of_ble_eq_true rfl, Nat.le_of_ble_eq_true rfl⟩ dL_wordBy_22 ?_
        refine lv_if_ne (tgt := 46) hx hb dL_wordBy_25 rfl (fun c4 => ?_) (fun c4 => ?_)
        · have hrun := p_neg hrun c4
          refine lv_iload_n hx hb dL_wordBy_46 rfl (lv_at hl 0 rfl) ?_
          refine lv_iconst (v := 4) hx hb dL_wordBy_47 rfl ?_
          refine lv_iload hx hb dL_wordBy_48 (lv_at hl 3 rfl) ?_
          refine lv_iadd hx hb dL_wordBy_50 ?_
          refine lv_bipush (v := 31) hx hb dL_wordBy_51 rfl ?_
          refine j_irem hx hb dL_wordBy_53 (by decide) ?_
          refine j_ishr hx hb dL_wordBy_54 ?_
          refine lv_iconst (v := 1) hx hb dL_wordBy_55 rfl ?_
          refine lv_iand hx hb dL_wordBy_56 ?_
          obtain ⟨r5, h_r5, hrun⟩ := p_bnd hrun
          refine jSS_i (rest := []) C (c_with h_r5) gL_wordBy_L_with hd_with rfl ⟨rfl, rfl⟩ ⟨Nat.le_of_ble_eq_true rfl, Nat.le_of_ble_eq_true rfl⟩ rfl hl.1 rfl (Nat.le_of_ble_eq_true rfl) ⟨Nat.le_of_ble_eq_true rfl, Nat.le_of_ble_eq_true rfl⟩ dL_wordBy_57 ?_
          refine lv_istore_n (lv' := [(2, .int r5), (0, .int x0), (3, .int x3), (4, .int x4)]) hx hb dL_wordBy_60 rfl hl (by decide) rfl (fun ls hl => ?_)
          refine lv_iinc (v := x4 + 1) (lv' := [(4, .int (x4 + 1)), (2, .int r5), (0, .int x0), (3, .int x3)]) hx hb dL_wordBy_61 hl (k := 3) rfl rfl (by decide) rfl (fun ls hl => ?_)
          refine lv_goto (tgt := 13) hx hb dL_wordBy_64 rfl ?_
          exact ih r5 (x4 + 1) out hrun K _ (lv_sub hl [2, 1, 3, 0] rfl)
        · have hrun := p_pos hrun c4
          refine lv_iload hx hb dL_wordBy_28 (lv_at hl 3 rfl) ?_
          refine lv_if_le (tgt := 46) hx hb dL_wordBy_30 rfl (fun c6 => ?_) (fun c6 => ?_)
          · have hrun := p_pos hrun c6
            refine lv_iload_n hx hb dL_wordBy_46 rfl (lv_at hl 0 rfl) ?_
            refine lv_iconst (v := 4) hx hb dL_wordBy_47 rfl ?_
            refine lv_iload hx hb dL_wordBy_48 (lv_at hl 3 rfl) ?_
            refine lv_iadd hx hb dL_wordBy_50 ?_
            refine lv_bipush (v := 31) hx hb dL_wordBy_51 rfl ?_
            refine j_irem hx hb dL_wordBy_53 (by decide) ?_
            refine j_ishr hx hb dL_wordBy_54 ?_
            refine lv_iconst (v := 1) hx hb dL_wordBy_55 rfl ?_
            refine lv_iand hx hb dL_wordBy_56 ?_
            obtain ⟨r7, h_r7, hrun⟩ := p_bnd hrun
            refine jSS_i (rest := []) C (c_with h_r7) gL_wordBy_L_with hd_with rfl ⟨rfl, rfl⟩ ⟨Nat.le_of_ble_eq_true rfl, Nat.le_of_ble_eq_true rfl⟩ rfl hl.1 rfl (Nat.le_of_ble_eq_true rfl) ⟨Nat.le_of_ble_eq_true rfl, Nat.le_of_ble_eq_true rfl⟩ dL_wordBy_57 ?_
            refine lv_istore_n (lv' := [(2, .int r7), (0, .int x0), (3, .int x3), (4, .int x4)]) hx hb dL_wordBy_60 rfl hl (by decide) rfl (fun ls hl => ?_)
            refine lv_iinc (v := x4 + 1) (lv' := [(4, .int (x4 + 1)), (2, .int r7), (0, .int x0), (3, .int x3)]) hx hb dL_wordBy_61 hl (k := 3) rfl rfl (by decide) rfl (fun ls hl => ?_)
            refine lv_goto (tgt := 13) hx hb dL_wordBy_64 rfl ?_
            exact ih r7 (x4 + 1) out hrun K _ (lv_sub hl [2, 1, 3, 0] rfl)
          · have hrun := p_neg hrun c6
            refine lv_iconst (v := 1) hx hb dL_wordBy_33 rfl ?_
            refine lv_iload_n hx hb dL_wordBy_34 rfl (lv_at hl 1 rfl) ?_
            refine lv_iload hx hb dL_wordBy_35 (lv_at hl 3 rfl) ?_
            refine lv_iconst (v := 1) hx hb dL_wordBy_37 rfl ?_
            refine lv_isub hx hb dL_wordBy_38 ?_
            obtain ⟨r8, h_r8, hrun⟩ := p_bnd hrun
            refine jSS_i (rest := [.int 1, .int x2]) C (c_bit h_r8) gL_wordBy_L_bit hd_bit rfl ⟨rfl, rfl⟩ ⟨Nat.le_of_ble_eq_true rfl, Nat.le_of_ble_eq_true rfl⟩ rfl hl.1 rfl (Nat.le_of_ble_eq_true rfl) ⟨Nat.le_of_ble_eq_true rfl, Nat.le_of_ble_eq_true rfl⟩ dL_wordBy_39 ?_
            refine lv_isub hx hb dL_wordBy_42 ?_
            refine lv_goto (tgt := 57) hx hb dL_wordBy_43 rfl ?_
            obtain ⟨r9, h_r9, hrun⟩ := p_bnd hrun
            refine jSS_i (rest := []) C (c_with h_r9) gL_wordBy_L_with hd_with rfl ⟨rfl, rfl⟩ ⟨Nat.le_of_ble_eq_true rfl, Nat.le_of_ble_eq_true rfl⟩ rfl hl.1 rfl (Nat.le_of_ble_eq_true rfl) ⟨Nat.le_of_ble_eq_true rfl, Nat.le_of_ble_eq_true rfl⟩ dL_wordBy_57 ?_
            refine lv_istore_n (lv' := [(2, .int r9), (0, .int x0), (3, .int x3), (4, .int x4)]) hx hb dL_wordBy_60 rfl hl (by decide) rfl (fun ls hl => ?_)
            refine lv_iinc (v := x4 + 1) (lv' := [(4, .int (x4 + 1)), (2, .int r9), (0, .int x0), (3, .int x3)]) hx hb dL_wordBy_61 hl (k := 3) rfl rfl (by decide) rfl (fun ls hl => ?_)
            refine lv_goto (tgt := 13) hx hb dL_wordBy_64 rfl ?_
            exact ih r9 (x4 + 1) out hrun K _ (lv_sub hl [2, 1, 3, 0] rfl)
  unfold P_wordBy at hrun
  refine lv_iconst (v := 0) hx hb dL_wordBy_0 rfl ?_
  refine lv_istore_n (lv' := [(2, .int 0), (0, .int x0), (1, .int x1)]) hx hb dL_wordBy_1 rfl hl (by decide) rfl (fun ls hl => ?_)
  refine lv_iconst (v := 1) hx hb dL_wordBy_2 rfl ?_
  refine lv_iload_n hx hb dL_wordBy_3 rfl (lv_at hl 1 rfl) ?_
  refine lv_iload_n hx hb dL_wordBy_4 rfl (lv_at hl 2 rfl) ?_
  obtain ⟨r1, h_r1, hrun⟩ := p_bnd hrun
  refine jSS_i (rest := [.int 1]) C (c_at h_r1) gL_wordBy_L_at hd_at rfl ⟨rfl, rfl⟩ ⟨Nat.le_of_ble_eq_true rfl, Nat.le_of_ble_eq_true rfl⟩ rfl hl.1 rfl (Nat.le_of_ble_eq_true rfl) ⟨Nat.le_of_ble_eq_true rfl, Nat.le_of_ble_eq_true rfl⟩ dL_wordBy_5 ?_
  refine lv_iadd hx hb dL_wordBy_8 ?_
  refine lv_istore_n (lv' := [(3, .int (1 + r1)), (2, .int 0), (0, .int x0), (1, .int x1)]) hx hb dL_wordBy_9 rfl hl (by decide) rfl (fun ls hl => ?_)
  refine lv_iconst (v := 0) hx hb dL_wordBy_10 rfl ?_
  refine lv_istore (lv' := [(4, .int 0), (3, .int (1 + r1)), (2, .int 0), (0, .int x0), (1, .int x1)]) hx hb dL_wordBy_11 hl (by decide) rfl (fun ls hl => ?_)
  obtain ⟨o10, h_o10, hrun⟩ := p_bnd hrun
  refine loop_13 (1 + r1) FU 0 0 o10 h_o10 (fun ls hl => ?_) _ (lv_sub hl [3, 2, 1, 0] rfl)
  refine lv_iload_n hx hb dL_wordBy_67 rfl (lv_at hl 0 rfl) ?_
  cases hrun
  exact rS_i C hr hlk hQ (nbi _) rfl dL_wordBy_68

abbrev rm_write : Room := { frames := 1, cells := 0, slots := 0, locals := 21 }
theorem hd_write : okD yL_write 3 := by decide +kernel
set_option maxHeartbeats 8000000 in
set_option maxRecDepth 100000 in
theorem c_write {x0 : Int32} {x1 : Int32} {res : Int32 × (Nat → Int32)} (hrun : P_write v_zt x0 x1 = some res) : Met l yL_write wsL_write rm_write (va_Pc [.int x0, .int x1, .ref (az 2)] (PE D (tyX cI cR cG) sz (WZ0 az ad fa ca wad cI cR cG v_wn) (WZ az ad fa ca wad cI cR cG v_zw v_zd v_zt v_roadCount v_readings v_psize v_good v_pbits v_letters v_afterLetter v_codes v_disc v_rsize v_cycleCount v_fo v_cy v_s v_closed v_traces v_crossings v_db_bits v_db_size v_db_allBits v_db_a v_db_b v_db_c v_db_d v_dn_bits v_dn_size v_dn_allBits v_dn_a v_dn_b v_dn_c v_dn_d v_wn v_wv))) (va_Qi (fun (x : Int32) (_ : Unit) => x = res.1) (fun _ t => va_P D vwCl (WZ az ad fa ca wad cI cR cG v_zw v_zd res.2 v_roadCount v_readings v_psize v_good v_pbits v_letters v_afterLetter v_codes v_disc v_rsize v_cycleCount v_fo v_cy v_s v_closed v_traces v_crossings v_db_bits v_db_size v_db_allBits v_db_a v_db_b v_db_c v_db_d v_dn_bits v_dn_size v_dn_allBits v_dn_a v_dn_b v_dn_c v_dn_d v_wn v_wv) t.heap) (va_A (WZ0 az ad fa ca wad cI cR cG v_wn) sz)) 0 0 (va_A (WZ0 az ad fa ca wad cI cR cG v_wn) sz) := by
  refine E_in (cc := cL_write) (maxL := 6) (ret := (some .int)) (by decide) rfl (Nat.le_of_ble_eq_true rfl) ?_
  intro p e s m args below meth c ls Q hQ C hr hlk hK hN hD hA I hl
  have C : CallFix p m c cL_write 6 s args wsL_write RL := C
  have hx := C.1
  have hb := C.2.1
  have hl : lv_has ls 6 [(0, .int x0), (1, .int x1), (2, .ref (az 2))] := hl
  have loop_17 : ∀ (v_zt : Nat → Int32) (x3 : Int32) (x4 : Int32) (n : Nat) (x5 : Int32) (out : Int32), P_write_17 x0 x4 n x5 = some out → (∀ (H : Heap) (locs : List Loc) (ls : Array Slot), IM D (va_A (WZ0 az ad fa ca wad cI cR cG v_wn) sz) s.heap H locs (WZ az ad fa ca wad cI cR cG v_zw v_zd v_zt v_roadCount v_readings v_psize v_good v_pbits v_letters v_afterLetter v_codes v_disc v_rsize v_cycleCount v_fo v_cy v_s v_closed v_traces v_crossings v_db_bits v_db_size v_db_allBits v_db_a v_db_b v_db_c v_db_d v_dn_bits v_dn_size v_dn_allBits v_dn_a v_dn_b v_dn_c v_dn_d v_wn v_wv) → lv_has ls 6 [(0, .int x0), (1, .int x1), (2, .ref (az 2)), (3, .int x3), (4, .int x4), (5, .int out)] → W p l e rm_write s m args below meth c H locs 0 0 Q (F0 m 60 ls [])) → ∀ (H : Heap) (locs : List Loc) (ls : Array Slot), IM D (va_A (WZ0 az ad fa ca wad cI cR cG v_wn) sz) s.heap H locs (WZ az ad fa ca wad cI cR cG v_zw v_zd v_zt v_roadCount v_readings v_psize v_good v_pbits v_letters v_afterLetter v_codes v_disc v_rsize v_cycleCount v_fo v_cy v_s v_closed v_traces v_crossings v_db_bits v_db_size v_db_allBits v_db_a v_db_b v_db_c v_db_d v_dn_bits v_dn_size v_dn_allBits v_dn_a v_dn_b v_dn_c v_dn_d v_wn v_wv) → lv_has ls 6 [(0, .int x0), (1, .int x1), (2, .ref (az 2)), (3, .int x3), (4, .int x4), (5, .int x5)] → W p l e rm_write s m args below meth c H locs 0 0 Q (F0 m 17 ls []) := by
    intro v_zt x3 x4 n
    induction n with
    | zero =>
      intro x5 out hrun K H locs ls I hl
      cases hrun
    | succ n ih =>
      intro x5 out hrun K H locs ls I hl
      rw [P_write_17] at hrun
      refine lv_iload hx hb dL_write_17 (lv_at hl 5 rfl) ?_
      refine lv_bipush (v := 9) hx hb dL_write_19 rfl ?_
      refine lv_icmp_ge (tgt := 60) hx hb dL_write_21 rfl (fun c3 => ?_) (fun c3 => ?_)
      · have hrun := p_pos hrun c3
        cases hrun
        exact K _ _ _ I (lv_sub hl [0, 1, 2, 3, 4, 5] rfl)
      · have hrun := p_neg hrun c3
        refine lv_iload hx hb dL_write_24 (lv_at hl 4 rfl) ?_
        refine lv_iload hx hb dL_write_26 (lv_at hl 5 rfl) ?_
        refine lv_iadd hx hb dL_write_28 ?_
        refine lv_iload_n hx hb dL_write_29 rfl (lv_at hl 0 rfl) ?_
        obtain ⟨r4, h_r4, hrun⟩ := p_bnd hrun
        refine jSS_i (rest := [.int (x4 + x5)]) C (c_size h_r4) gL_write_L_size hd_size rfl ⟨rfl, rfl⟩ ⟨Nat.le_of_ble_eq_true rfl, Nat.le_of_ble_eq_true rfl⟩ rfl hl.1 rfl (Nat.le_of_ble_eq_true rfl) ⟨Nat.le_of_ble_eq_true rfl, Nat.le_of_ble_eq_true rfl⟩ dL_write_30 ?_
        refine lv_icmp_ge (tgt := 60) hx hb dL_write_33 rfl (fun c5 => ?_) (fun c5 => ?_)
        · have hrun := p_pos hrun c5
          cases hrun
          exact K _ _ _ I (lv_sub hl [0, 1, 2, 3, 4, 5] rfl)
        · have hrun := p_neg hrun c5
          refine lv_iload_n hx hb dL_write_36 rfl (lv_at hl 0 rfl) ?_
          refine lv_iload hx hb dL_write_37 (lv_at hl 4 rfl) ?_
          refine lv_iload hx hb dL_write_39 (lv_at hl 5 rfl) ?_
          refine lv_iadd hx hb dL_write_41 ?_
          obtain ⟨r6, h_r6, hrun⟩ := p_bnd hrun
          refine jSS_i (rest := []) C (c_bit h_r6) gL_write_L_bit hd_bit rfl ⟨rfl, rfl⟩ ⟨Nat.le_of_ble_eq_true rfl, Nat.le_of_ble_eq_true rfl⟩ rfl hl.1 rfl (Nat.le_of_ble_eq_true rfl) ⟨Nat.le_of_ble_eq_true rfl, Nat.le_of_ble_eq_true rfl⟩ dL_write_42 ?_
          refine lv_iload_n hx hb dL_write_45 rfl (lv_at hl 0 rfl) ?_
          refine lv_iload hx hb dL_write_46 (lv_at hl 4 rfl) ?_
          obtain ⟨r7, h_r7, hrun⟩ := p_bnd hrun
          refine jSS_i (rest := [.int r6]) C (c_bit h_r7) gL_write_L_bit hd_bit rfl ⟨rfl, rfl⟩ ⟨Nat.le_of_ble_eq_true rfl, Nat.le_of_ble_eq_true rfl⟩ rfl hl.1 rfl (Nat.le_of_ble_eq_true rfl) ⟨Nat.le_of_ble_eq_true rfl, Nat.le_of_ble_eq_true rfl⟩ dL_write_48 ?_
          refine lv_icmp_ne (tgt := 60) hx hb dL_write_51 rfl (fun c8 => ?_) (fun c8 => ?_)
          · have hrun := p_neg hrun c8
            cases hrun
            exact K _ _ _ I (lv_sub hl [0, 1, 2, 3, 4, 5] rfl)
          · have hrun := p_pos hrun c8
            refine lv_iinc (v := x5 + 1) (lv' := [(5, .int (x5 + 1)), (0, .int x0), (1, .int x1), (2, .ref (az 2)), (3, .int x3), (4, .int x4)]) hx hb dL_write_54 hl (k := 5) rfl rfl (by decide) rfl (fun ls hl => ?_)
            refine lv_goto (tgt := 17) hx hb dL_write_57 rfl ?_
            exact ih (x5 + 1) out hrun K _ _ _ I (lv_sub hl [1, 2, 3, 4, 5, 0] rfl)
  have loop_5 : ∀ (n : Nat) (v_zt : Nat → Int32) (x3 : Int32) (x4 : Int32) (out : (Nat → Int32) × Int32), P_write_5 x0 x1 n v_zt x3 x4 = some out → (∀ (H : Heap) (locs : List Loc) (ls : Array Slot), IM D (va_A (WZ0 az ad fa ca wad cI cR cG v_wn) sz) s.heap H locs (WZ az ad fa ca wad cI cR cG v_zw v_zd out.1 v_roadCount v_readings v_psize v_good v_pbits v_letters v_afterLetter v_codes v_disc v_rsize v_cycleCount v_fo v_cy v_s v_closed v_traces v_crossings v_db_bits v_db_size v_db_allBits v_db_a v_db_b v_db_c v_db_d v_dn_bits v_dn_size v_dn_allBits v_dn_a v_dn_b v_dn_c v_dn_d v_wn v_wv) → lv_has ls 6 [(3, .int out.2)] → W p l e rm_write s m args below meth c H locs 0 0 Q (F0 m 127 ls [])) → ∀ (H : Heap) (locs : List Loc) (ls : Array Slot), IM D (va_A (WZ0 az ad fa ca wad cI cR cG v_wn) sz) s.heap H locs (WZ az ad fa ca wad cI cR cG v_zw v_zd v_zt v_roadCount v_readings v_psize v_good v_pbits v_letters v_afterLetter v_codes v_disc v_rsize v_cycleCount v_fo v_cy v_s v_closed v_traces v_crossings v_db_bits v_db_size v_db_allBits v_db_a v_db_b v_db_c v_db_d v_dn_bits v_dn_size v_dn_allBits v_dn_a v_dn_b v_dn_c v_dn_d v_wn v_wv) → lv_has ls 6 [(0, .int x0), (1, .int x1), (2, .ref (az 2)), (3, .int x3), (4, .int x4)] → W p l e rm_write s m args below meth c H locs 0 0 Q (F0 m 5 ls []) := by
    intro n
    induction n with
    | zero =>
      intro v_zt x3 x4 out hrun K H locs ls I hl
      cases hrun
    | succ n ih =>
      intro v_zt x3 x4 out hrun K H locs ls I hl
      rw [P_write_5] at hrun
      refine lv_iload hx hb dL_write_5 (lv_at hl 4 rfl) ?_
      refine lv_iload_n hx hb dL_write_7 rfl (lv_at hl 0 rfl) ?_
      obtain ⟨r1, h_r1, hrun⟩ := p_bnd hrun
      refine jSS_i (rest := [.int x4]) C (c_size h_r1) gL_write_L_size hd_size rfl ⟨rfl, rfl⟩ ⟨Nat.le_of_ble_eq_true rfl, Nat.le_of_ble_eq_true rfl⟩ rfl hl.1 rfl (Nat.le_of_ble_eq_true rfl) ⟨Nat.le_of_ble_eq_true rfl, Nat.le_of_ble_eq_true rfl⟩ dL_write_8 ?_
      refine lv_icmp_ge (tgt := 127) hx hb dL_write_11 rfl (fun c2 => ?_) (fun c2 => ?_)
      · have hrun := p_pos hrun c2
        cases hrun
        exact K _ _ _ I (lv_sub hl [3] rfl)
      · have hrun := p_neg hrun c2
        refine lv_iconst (v := 1) hx hb dL_write_14 rfl ?_
        refine lv_istore (lv' := [(5, .int 1), (0, .int x0), (1, .int x1), (2, .ref (az 2)), (3, .int x3), (4, .int x4)]) hx hb dL_write_15 hl (by decide) rfl (fun ls hl => ?_)
        obtain ⟨o9, h_o9, hrun⟩ := p_bnd hrun
        refine loop_17 v_zt x3 x4 FU 1 o9 h_o9 (fun H locs ls I hl => ?_) _ _ _ I (lv_sub hl [1, 2, 3, 4, 5, 0] rfl)
        refine lv_aload_n hx hb dL_write_60 rfl (lv_at hl 2 rfl) ?_
        refine lv_iload_n hx hb dL_write_61 rfl (lv_at hl 3 rfl) ?_
        refine lv_iinc (v := x3 + 1) (lv' := [(3, .int (x3 + 1)), (0, .int x0), (1, .int x1), (2, .ref (az 2)), (4, .int x4), (5, .int o9)]) hx hb dL_write_62 hl (k := 3) rfl rfl (by decide) rfl (fun ls hl => ?_)
        refine lv_iload_n hx hb dL_write_65 rfl (lv_at hl 1 rfl) ?_
        refine lv_iload hx hb dL_write_66 (lv_at hl 4 rfl) ?_
        obtain ⟨r10, h_r10, hrun⟩ := p_bnd hrun
        refine jSS_i (rest := [.int x3, .ref (az 2)]) C (c_bit h_r10) gL_write_L_bit hd_bit rfl ⟨rfl, rfl⟩ ⟨Nat.le_of_ble_eq_true rfl, Nat.le_of_ble_eq_true rfl⟩ rfl hl.1 rfl (Nat.le_of_ble_eq_true rfl) ⟨Nat.le_of_ble_eq_true rfl, Nat.le_of_ble_eq_true rfl⟩ dL_write_68 ?_
        refine lv_iconst (v := 1) hx hb dL_write_71 rfl ?_
        refine lv_icmp_ne (tgt := 80) hx hb dL_write_72 rfl (fun c11 => ?_) (fun c11 => ?_)
        · have hrun := p_neg hrun c11
          refine lv_bipush (v := 76) hx hb dL_write_80 rfl ?_
          obtain ⟨b12, hrun⟩ := p_chk hrun
          refine stZ_zt C hK hD I b12 dL_write_82 (fun H locs I => ?_)
          refine lv_iload hx hb dL_write_83 (lv_at hl 5 rfl) ?_
          refine lv_iconst (v := 1) hx hb dL_write_85 rfl ?_
          refine lv_icmp_le (tgt := 121) hx hb dL_write_86 rfl (fun c13 => ?_) (fun c13 => ?_)
          · have hrun := p_pos hrun c13
            refine lv_iinc (v := x4 + 1) (lv' := [(4, .int (x4 + 1)), (3, .int (x3 + 1)), (0, .int x0), (1, .int x1), (2, .ref (az 2)), (5, .int o9)]) hx hb dL_write_121 hl (k := 4) rfl rfl (by decide) rfl (fun ls hl => ?_)
            refine lv_goto (tgt := 5) hx hb dL_write_124 rfl ?_
            exact ih (upd v_zt (Int32.toNatClampNeg x3) 76) (x3 + 1) (x4 + 1) out hrun K _ _ _ I (lv_sub hl [2, 3, 4, 1, 0] rfl)
          · have hrun := p_neg hrun c13
            refine lv_iload_n hx hb dL_write_89 rfl (lv_at hl 2 rfl) ?_
            refine lv_iload hx hb dL_write_90 (lv_at hl 4 rfl) ?_
            refine j_ishr hx hb dL_write_92 ?_
            refine lv_iconst (v := 3) hx hb dL_write_93 rfl ?_
            obtain ⟨r14, h_r14, hrun⟩ := p_bnd hrun
            refine jSS_i (rest := []) C (c_at h_r14) gL_write_L_at hd_at rfl ⟨rfl, rfl⟩ ⟨Nat.le_of_ble_eq_true rfl, Nat.le_of_ble_eq_true rfl⟩ rfl hl.1 rfl (Nat.le_of_ble_eq_true rfl) ⟨Nat.le_of_ble_eq_true rfl, Nat.le_of_ble_eq_true rfl⟩ dL_write_94 ?_
            refine lv_if_le (tgt := 121) hx hb dL_write_97 rfl (fun c15 => ?_) (fun c15 => ?_)
            · have hrun := p_pos hrun c15
              refine lv_iinc (v := x4 + 1) (lv' := [(4, .int (x4 + 1)), (3, .int (x3 + 1)), (0, .int x0), (1, .int x1), (2, .ref (az 2)), (5, .int o9)]) hx hb dL_write_121 hl (k := 4) rfl rfl (by decide) rfl (fun ls hl => ?_)
              refine lv_goto (tgt := 5) hx hb dL_write_124 rfl ?_
              exact ih (upd v_zt (Int32.toNatClampNeg x3) 76) (x3 + 1) (x4 + 1) out hrun K _ _ _ I (lv_sub hl [2, 3, 4, 1, 0] rfl)
            · have hrun := p_neg hrun c15
              refine lv_aload_n hx hb dL_write_100 rfl (lv_at hl 3 rfl) ?_
              refine lv_iload_n hx hb dL_write_101 rfl (lv_at hl 0 rfl) ?_
              refine lv_iinc (v := (x3 + 1) + 1) (lv' := [(3, .int ((x3 + 1) + 1)), (0, .int x0), (1, .int x1), (2, .ref (az 2)), (4, .int x4), (5, .int o9)]) hx hb dL_write_102 hl (k := 0) rfl rfl (by decide) rfl (fun ls hl => ?_)
              refine lv_bipush (v := 48) hx hb dL_write_105 rfl ?_
              refine lv_iload hx hb dL_write_107 (lv_at hl 5 rfl) ?_
              refine lv_iadd hx hb dL_write_109 ?_
              obtain ⟨b16, hrun⟩ := p_chk hrun
              refine stZ_zt C hK hD I b16 dL_write_110 (fun H locs I => ?_)
              refine lv_iload hx hb dL_write_111 (lv_at hl 4 rfl) ?_
              refine lv_iload hx hb dL_write_113 (lv_at hl 5 rfl) ?_
              refine lv_iadd hx hb dL_write_115 ?_
              refine lv_istore (lv' := [(4, .int (x4 + o9)), (3, .int ((x3 + 1) + 1)), (0, .int x0), (1, .int x1), (2, .ref (az 2)), (5, .int o9)]) hx hb dL_write_116 hl (by decide) rfl (fun ls hl => ?_)
              refine lv_goto (tgt := 124) hx hb dL_write_118 rfl ?_
              refine lv_goto (tgt := 5) hx hb dL_write_124 rfl ?_
              exact ih (upd (upd v_zt (Int32.toNatClampNeg x3) 76) (Int32.toNatClampNeg (x3 + 1)) (48 + o9)) ((x3 + 1) + 1) (x4 + o9) out hrun K _ _ _ I (lv_sub hl [2, 3, 4, 1, 0] rfl)
        · have hrun := p_pos hrun c11
          refine lv_bipush (v := 82) hx hb dL_write_75 rfl ?_
          refine lv_goto (tgt := 82) hx hb dL_write_77 rfl ?_
          obtain ⟨b17, hrun⟩ := p_chk hrun
          refine stZ_zt C hK hD I b17 dL_write_82 (fun H locs I => ?_)
          refine lv_iload hx hb dL_write_83 (lv_at hl 5 rfl) ?_
          refine lv_iconst (v := 1) hx hb dL_write_85 rfl ?_
          refine lv_icmp_le (tgt := 121) hx hb dL_write_86 rfl (fun c18 => ?_) (fun c18 => ?_)
          · have hrun := p_pos hrun c18
            refine lv_iinc (v := x4 + 1) (lv' := [(4, .int (x4 + 1)), (3, .int (x3 + 1)), (0, .int x0), (1, .int x1), (2, .ref (az 2)), (5, .int o9)]) hx hb dL_write_121 hl (k := 4) rfl rfl (by decide) rfl (fun ls hl => ?_)
            refine lv_goto (tgt := 5) hx hb dL_write_124 rfl ?_
            exact ih (upd v_zt (Int32.toNatClampNeg x3) 82) (x3 + 1) (x4 + 1) out hrun K _ _ _ I (lv_sub hl [2, 3, 4, 1, 0] rfl)
          · have hrun := p_neg hrun c18
            refine lv_iload_n hx hb dL_write_89 rfl (lv_at hl 2 rfl) ?_
            refine lv_iload hx hb dL_write_90 (lv_at hl 4 rfl) ?_
            refine j_ishr hx hb dL_write_92 ?_
            refine lv_iconst (v := 3) hx hb dL_write_93 rfl ?_
            obtain ⟨r19, h_r19, hrun⟩ := p_bnd hrun
            refine jSS_i (rest := []) C (c_at h_r19) gL_write_L_at hd_at rfl ⟨rfl, rfl⟩ ⟨Nat.le_of_ble_eq_true rfl, Nat.le_of_ble_eq_true rfl⟩ rfl hl.1 rfl (Nat.le_of_ble_eq_true rfl) ⟨Nat.le_of_ble_eq_true rfl, Nat.le_of_ble_eq_true rfl⟩ dL_write_94 ?_
            refine lv_if_le (tgt := 121) hx hb dL_write_97 rfl (fun c20 => ?_) (fun c20 => ?_)
            · have hrun := p_pos hrun c20
              refine lv_iinc (v := x4 + 1) (lv' := [(4, .int (x4 + 1)), (3, .int (x3 + 1)), (0, .int x0), (1, .int x1), (2, .ref (az 2)), (5, .int o9)]) hx hb dL_write_121 hl (k := 4) rfl rfl (by decide) rfl (fun ls hl => ?_)
              refine lv_goto (tgt := 5) hx hb dL_write_124 rfl ?_
              exact ih (upd v_zt (Int32.toNatClampNeg x3) 82) (x3 + 1) (x4 + 1) out hrun K _ _ _ I (lv_sub hl [2, 3, 4, 1, 0] rfl)
            · have hrun := p_neg hrun c20
              refine lv_aload_n hx hb dL_write_100 rfl (lv_at hl 3 rfl) ?_
              refine lv_iload_n hx hb dL_write_101 rfl (lv_at hl 0 rfl) ?_
              refine lv_iinc (v := (x3 + 1) + 1) (lv' := [(3, .int ((x3 + 1) + 1)), (0, .int x0), (1, .int x1), (2, .ref (az 2)), (4, .int x4), (5, .int o9)]) hx hb dL_write_102 hl (k := 0) rfl rfl (by decide) rfl (fun ls hl => ?_)
              refine lv_bipush (v := 48) hx hb dL_write_105 rfl ?_
              refine lv_iload hx hb dL_write_107 (lv_at hl 5 rfl) ?_
              refine lv_iadd hx hb dL_write_109 ?_
              obtain ⟨b21, hrun⟩ := p_chk hrun
              refine stZ_zt C hK hD I b21 dL_write_110 (fun H locs I => ?_)
              refine lv_iload hx hb dL_write_111 (lv_at hl 4 rfl) ?_
              refine lv_iload hx hb dL_write_113 (lv_at hl 5 rfl) ?_
              refine lv_iadd hx hb dL_write_115 ?_
              refine lv_istore (lv' := [(4, .int (x4 + o9)), (3, .int ((x3 + 1) + 1)), (0, .int x0), (1, .int x1), (2, .ref (az 2)), (5, .int o9)]) hx hb dL_write_116 hl (by decide) rfl (fun ls hl => ?_)
              refine lv_goto (tgt := 124) hx hb dL_write_118 rfl ?_
              refine lv_goto (tgt := 5) hx hb dL_write_124 rfl ?_
              exact ih (upd (upd v_zt (Int32.toNatClampNeg x3) 82) (Int32.toNatClampNeg (x3 + 1)) (48 + o9)) ((x3 + 1) + 1) (x4 + o9) out hrun K _ _ _ I (lv_sub hl [2, 3, 4, 1, 0] rfl)
  unfold P_write at hrun
  refine lv_iconst (v := 0) hx hb dL_write_0 rfl ?_
  refine lv_istore_n (lv' := [(3, .int 0), (0, .int x0), (1, .int x1), (2, .ref (az 2))]) hx hb dL_write_1 rfl hl (by decide) rfl (fun ls hl => ?_)
  refine lv_iconst (v := 0) hx hb dL_write_2 rfl ?_
  refine lv_istore (lv' := [(4, .int 0), (3, .int 0), (0, .int x0), (1, .int x1), (2, .ref (az 2))]) hx hb dL_write_3 hl (by decide) rfl (fun ls hl => ?_)
  obtain ⟨o22, h_o22, hrun⟩ := p_bnd hrun
  refine loop_5 FU v_zt 0 0 o22 h_o22 (fun H locs ls I hl => ?_) _ _ _ I (lv_sub hl [2, 3, 4, 1, 0] rfl)
  refine lv_iload_n hx hb dL_write_127 rfl (lv_at hl 0 rfl) ?_
  cases hrun
  exact rE_i C hr hlk hQ I (nbi _) rfl dL_write_128

end Z91
