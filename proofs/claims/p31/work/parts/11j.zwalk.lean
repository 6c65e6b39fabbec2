section Z98
variable {l : Launch} {D : va_G} {sz : Nat}
variable {az ad fa ca wad : Nat → Nat} {cI cR cG : ClassId}
variable {v_roadCount v_readings v_psize v_good v_pbits v_letters v_afterLetter v_disc v_rsize v_cycleCount v_closed v_traces v_crossings v_db_bits v_db_size v_db_allBits v_db_a v_db_b v_db_c v_db_d v_dn_bits v_dn_size v_dn_allBits v_dn_a v_dn_b v_dn_c v_dn_d : Int32}
variable {v_s : Int64}
variable {v_zw v_zd v_zt v_codes : Nat → Int32}
variable {v_fo v_cy v_wv : Nat → Nat → Int32}
variable {v_wn : Nat}
abbrev rm_drawn : Room := { frames := 6, cells := 0, slots := 0, locals := 137 }
theorem k_drawn_68 : Cond.constant RL 68 (-2000000102) ∈ wsL_drawn := by decide +kernel
theorem k_drawn_150 : Cond.constantLong RL 150 1103515245 ∈ wsL_drawn := by decide +kernel
theorem k_drawn_152 : Cond.constantLong RL 152 12345 ∈ wsL_drawn := by decide +kernel
theorem k_drawn_154 : Cond.constantLong RL 154 2147483648 ∈ wsL_drawn := by decide +kernel
theorem k_drawn_156 : Cond.constantLong RL 156 65536 ∈ wsL_drawn := by decide +kernel
theorem k_drawn_158 : Cond.constantLong RL 158 2 ∈ wsL_drawn := by decide +kernel
theorem hd_drawn : okD yL_drawn 4 := by decide +kernel
set_option maxHeartbeats 8000000 in
set_option maxRecDepth 100000 in
theorem c_drawn {x1 : Int32} {x2 : Int32} {res : Int32 × (Nat → Int32) × Int64 × Int32 × Int32 × Int32 × Int32 × Int32 × Int32 × Int32 × Int32 × Int32 × Int32 × Int32 × Int32 × Int32 × Int32 × Int32 × Int32 × Int32} (hrun : P_drawn v_zt v_s v_closed v_traces v_crossings v_db_bits v_db_size v_db_allBits v_db_a v_db_b v_db_c v_db_d v_dn_bits v_dn_size v_dn_allBits v_dn_a v_dn_b v_dn_c v_dn_d x1 x2 = some res) : Met l yL_drawn wsL_drawn rm_drawn (va_Pc [.ref (ad 0), .int x1, .int x2, .ref (az 2)] (PE D (tyX cI cR cG) sz (WZ0 az ad fa ca wad cI cR cG v_wn) (WZ az ad fa ca wad cI cR cG v_zw v_zd v_zt v_roadCount v_readings v_psize v_good v_pbits v_letters v_afterLetter v_codes v_disc v_rsize v_cycleCount v_fo v_cy v_s v_closed v_traces v_crossings v_db_bits v_db_size v_db_allBits v_db_a v_db_b v_db_c v_db_d v_dn_bits v_dn_size v_dn_allBits v_dn_a v_dn_b v_dn_c v_dn_d v_wn v_wv))) (va_Qi (fun (x : Int32) (_ : Unit) => x = res.1) (fun _ t => va_P D vwCl (WZ az ad fa ca wad cI cR cG v_zw v_zd res.2.1 v_roadCount v_readings v_psize v_good v_pbits v_letters v_afterLetter v_codes v_disc v_rsize v_cycleCount v_fo v_cy res.2.2.1 res.2.2.2.1 res.2.2.2.2.1 res.2.2.2.2.2.1 res.2.2.2.2.2.2.1 res.2.2.2.2.2.2.2.1 res.2.2.2.2.2.2.2.2.1 res.2.2.2.2.2.2.2.2.2.1 res.2.2.2.2.2.2.2.2.2.2.1 res.2.2.2.2.2.2.2.2.2.2.2.1 res.2.2.2.2.2.2.2.2.2.2.2.2.1 res.2.2.2.2.2.2.2.2.2.2.2.2.2.1 res.2.2.2.2.2.2.2.2.2.2.2.2.2.2.1 res.2.2.2.2.2.2.2.2.2.2.2.2.2.2.2.1 res.2.2.2.2.2.2.2.2.2.2.2.2.2.2.2.2.1 res.2.2.2.2.2.2.2.2.2.2.2.2.2.2.2.2.2.1 res.2.2.2.2.2.2.2.2.2.2.2.2.2.2.2.2.2.2.1 res.2.2.2.2.2.2.2.2.2.2.2.2.2.2.2.2.2.2.2 v_wn v_wv) t.heap) (va_A (WZ0 az ad fa ca wad cI cR cG v_wn) sz)) 0 0 (va_A (WZ0 az ad fa ca wad cI cR cG v_wn) sz) := by
  refine E_in (cc := cL_drawn) (maxL := 13) (ret := (some .boolean)) (by decide) rfl (Nat.le_of_ble_eq_true rfl) ?_
  intro p e s m args below meth c ls Q hQ C hr hlk hK hN hD hA I hl
  have C : CallFix p m c cL_drawn 13 s args wsL_drawn RL := C
  have hx := C.1
  have hb := C.2.1
  have hl : lv_has ls 13 [(0, .ref (ad 0)), (1, .int x1), (2, .int x2), (3, .ref (az 2))] := hl
  have loop_31 : ∀ (v_zt : Nat → Int32) (v_s : Int64) (v_closed : Int32) (v_traces : Int32) (v_crossings : Int32) (v_db_bits : Int32) (v_db_size : Int32) (v_db_allBits : Int32) (v_db_a : Int32) (v_db_b : Int32) (v_db_c : Int32) (v_db_d : Int32) (v_dn_bits : Int32) (v_dn_size : Int32) (v_dn_allBits : Int32) (v_dn_a : Int32) (v_dn_b : Int32) (v_dn_c : Int32) (v_dn_d : Int32) (x6 : Int32) (x7 : Int32) (x8 : Int32) (x9 : Int32) (x10 : Int32) (n : Nat) (l4 : Int64) (x11 : Int32) (x12 : Int32) (out : Int64 × Int32), P_drawn_31 n l4 x11 x12 = some out → (∀ (H : Heap) (locs : List Loc) (ls : Array Slot), IM D (va_A (WZ0 az ad fa ca wad cI cR cG v_wn) sz) s.heap H locs (WZ az ad fa ca wad cI cR cG v_zw v_zd v_zt v_roadCount v_readings v_psize v_good v_pbits v_letters v_afterLetter v_codes v_disc v_rsize v_cycleCount v_fo v_cy v_s v_closed v_traces v_crossings v_db_bits v_db_size v_db_allBits v_db_a v_db_b v_db_c v_db_d v_dn_bits v_dn_size v_dn_allBits v_dn_a v_dn_b v_dn_c v_dn_d v_wn v_wv) → lv_has ls 13 [(0, .ref (ad 0)), (1, .int x1), (2, .int x2), (3, .ref (az 2)), (4, .long out.1), (6, .int x6), (7, .int x7), (8, .int x8), (9, .int x9), (10, .int x10), (11, .int out.2)] → W p l e rm_drawn s m args below meth c H locs 0 0 Q (F0 m 78 ls [])) → ∀ (H : Heap) (locs : List Loc) (ls : Array Slot), IM D (va_A (WZ0 az ad fa ca wad cI cR cG v_wn) sz) s.heap H locs (WZ az ad fa ca wad cI cR cG v_zw v_zd v_zt v_roadCount v_readings v_psize v_good v_pbits v_letters v_afterLetter v_codes v_disc v_rsize v_cycleCount v_fo v_cy v_s v_closed v_traces v_crossings v_db_bits v_db_size v_db_allBits v_db_a v_db_b v_db_c v_db_d v_dn_bits v_dn_size v_dn_allBits v_dn_a v_dn_b v_dn_c v_dn_d v_wn v_wv) → lv_has ls 13 [(0, .ref (ad 0)), (1, .int x1), (2, .int x2), (3, .ref (az 2)), (4, .long l4), (6, .int x6), (7, .int x7), (8, .int x8), (9, .int x9), (10, .int x10), (11, .int x11), (12, .int x12)] → W p l e rm_drawn s m args below meth c H locs 0 0 Q (F0 m 31 ls []) := by
    intro v_zt v_s v_closed v_traces v_crossings v_db_bits v_db_size v_db_allBits v_db_a v_db_b v_db_c v_db_d v_dn_bits v_dn_size v_dn_allBits v_dn_a v_dn_b v_dn_c v_dn_d x6 x7 x8 x9 x10 n
    induction n with
    | zero =>
      intro l4 x11 x12 out hrun K H locs ls I hl
      cases hrun
    | succ n ih =>
      intro l4 x11 x12 out hrun K H locs ls I hl
      rw [P_drawn_31] at hrun
      refine lv_iload hx hb dL_drawn_31 (lv_at hl 11 rfl) ?_
      refine lv_bipush (v := 8) hx hb dL_drawn_33 rfl ?_
      refine lv_icmp_ge (tgt := 78) hx hb dL_drawn_35 rfl (fun c2 => ?_) (fun c2 => ?_)
      · have hrun := p_pos hrun c2
        cases hrun
        exact K _ _ _ I (lv_sub hl [0, 1, 2, 3, 4, 5, 6, 7, 8, 9, 10] rfl)
      · have hrun := p_neg hrun c2
        refine lv_lload hx hb dL_drawn_38 (lv_at hl 4 rfl) ?_
        refine lv_ldc2 (v := 1103515245) hx hb C.2.2.2.1 (C.2.2.2.2 _ k_drawn_150) dL_drawn_40 ?_
        refine lv_lmul hx hb dL_drawn_43 ?_
        refine lv_ldc2 (v := 12345) hx hb C.2.2.2.1 (C.2.2.2.2 _ k_drawn_152) dL_drawn_44 ?_
        refine lv_ladd hx hb dL_drawn_47 ?_
        refine lv_ldc2 (v := 2147483648) hx hb C.2.2.2.1 (C.2.2.2.2 _ k_drawn_154) dL_drawn_48 ?_
        refine j_lrem hx hb dL_drawn_51 (by decide) ?_
        refine lv_lstore (lv' := [(4, .long (jlrem ((l4 * 1103515245) + 12345) 2147483648)), (0, .ref (ad 0)), (1, .int x1), (2, .int x2), (3, .ref (az 2)), (6, .int x6), (7, .int x7), (8, .int x8), (9, .int x9), (10, .int x10), (11, .int x11), (12, .int x12)]) hx hb dL_drawn_52 hl (by decide) rfl (fun ls hl => ?_)
        refine lv_iload hx hb dL_drawn_54 (lv_at hl 10 rfl) ?_
        refine lv_lload hx hb dL_drawn_56 (lv_at hl 0 rfl) ?_
        refine lv_ldc2 (v := 65536) hx hb C.2.2.2.1 (C.2.2.2.2 _ k_drawn_156) dL_drawn_58 ?_
        refine lv_ldiv hx hb dL_drawn_61 (by decide) ?_
        refine lv_ldc2 (v := 2) hx hb C.2.2.2.1 (C.2.2.2.2 _ k_drawn_158) dL_drawn_62 ?_
        refine j_lrem hx hb dL_drawn_65 (by decide) ?_
        refine lv_l2i (v := Int64.toInt32 (jlrem ((jlrem ((l4 * 1103515245) + 12345) 2147483648) / 65536) 2)) hx hb dL_drawn_66 rfl ?_
        obtain ⟨r3, h_r3, hrun⟩ := p_bnd hrun
        refine jSS_i (rest := []) C (c_with h_r3) gL_drawn_L_with hd_with rfl ⟨rfl, rfl⟩ ⟨Nat.le_of_ble_eq_true rfl, Nat.le_of_ble_eq_true rfl⟩ rfl hl.1 rfl (Nat.le_of_ble_eq_true rfl) ⟨Nat.le_of_ble_eq_true rfl, Nat.le_of_ble_eq_true rfl⟩ dL_drawn_67 ?_
        refine lv_istore (lv' := [(11, .int r3), (4, .long (jlrem ((l4 * 1103515245) + 12345) 2147483648)), (0, .ref (ad 0)), (1, .int x1), (2, .int x2), (3, .ref (az 2)), (6, .int x6), (7, .int x7), (8, .int x8), (9, .int x9), (10, .int x10), (12, .int x12)]) hx hb dL_drawn_70 hl (by decide) rfl (fun ls hl => ?_)
        refine lv_iinc (v := x12 + 1) (lv' := [(12, .int (x12 + 1)), (11, .int r3), (4, .long (jlrem ((l4 * 1103515245) + 12345) 2147483648)), (0, .ref (ad 0)), (1, .int x1), (2, .int x2), (3, .ref (az 2)), (6, .int x6), (7, .int x7), (8, .int x8), (9, .int x9), (10, .int x10)]) hx hb dL_drawn_72 hl (k := 11) rfl rfl (by decide) rfl (fun ls hl => ?_)
        refine lv_goto (tgt := 31) hx hb dL_drawn_75 rfl ?_
        exact ih (jlrem ((l4 * 1103515245) + 12345) 2147483648) r3 (x12 + 1) out hrun K _ _ _ I (lv_sub hl [3, 4, 5, 6, 2, 7, 8, 9, 10, 11, 1, 0] rfl)
  have loop_19 : ∀ (v_s : Int64) (v_closed : Int32) (v_traces : Int32) (v_crossings : Int32) (v_db_bits : Int32) (v_db_size : Int32) (v_db_allBits : Int32) (v_db_a : Int32) (v_db_b : Int32) (v_db_c : Int32) (v_db_d : Int32) (v_dn_bits : Int32) (v_dn_size : Int32) (v_dn_allBits : Int32) (v_dn_a : Int32) (v_dn_b : Int32) (v_dn_c : Int32) (v_dn_d : Int32) (n : Nat) (v_zt : Nat → Int32) (l4 : Int64) (x6 : Int32) (x7 : Int32) (x8 : Int32) (x9 : Int32) (x10 : Int32) (out : (Nat → Int32) × Int64 × Int32 × Int32 × Int32), P_drawn_19 x1 n v_zt l4 x6 x7 x8 x9 x10 = some out → (∀ (H : Heap) (locs : List Loc) (ls : Array Slot), IM D (va_A (WZ0 az ad fa ca wad cI cR cG v_wn) sz) s.heap H locs (WZ az ad fa ca wad cI cR cG v_zw v_zd out.1 v_roadCount v_readings v_psize v_good v_pbits v_letters v_afterLetter v_codes v_disc v_rsize v_cycleCount v_fo v_cy v_s v_closed v_traces v_crossings v_db_bits v_db_size v_db_allBits v_db_a v_db_b v_db_c v_db_d v_dn_bits v_dn_size v_dn_allBits v_dn_a v_dn_b v_dn_c v_dn_d v_wn v_wv) → lv_has ls 13 [(0, .ref (ad 0)), (1, .int x1), (2, .int x2), (4, .long out.2.1), (6, .int out.2.2.1), (7, .int out.2.2.2.1), (8, .int out.2.2.2.2)] → W p l e rm_drawn s m args below meth c H locs 0 0 Q (F0 m 142 ls [])) → ∀ (H : Heap) (locs : List Loc) (ls : Array Slot), IM D (va_A (WZ0 az ad fa ca wad cI cR cG v_wn) sz) s.heap H locs (WZ az ad fa ca wad cI cR cG v_zw v_zd v_zt v_roadCount v_readings v_psize v_good v_pbits v_letters v_afterLetter v_codes v_disc v_rsize v_cycleCount v_fo v_cy v_s v_closed v_traces v_crossings v_db_bits v_db_size v_db_allBits v_db_a v_db_b v_db_c v_db_d v_dn_bits v_dn_size v_dn_allBits v_dn_a v_dn_b v_dn_c v_dn_d v_wn v_wv) → lv_has ls 13 [(0, .ref (ad 0)), (1, .int x1), (2, .int x2), (3, .ref (az 2)), (4, .long l4), (6, .int x6), (7, .int x7), (8, .int x8), (9, .int x9), (10, .int x10)] → W p l e rm_drawn s m args below meth c H locs 0 0 Q (F0 m 19 ls []) := by
    intro v_s v_closed v_traces v_crossings v_db_bits v_db_size v_db_allBits v_db_a v_db_b v_db_c v_db_d v_dn_bits v_dn_size v_dn_allBits v_dn_a v_dn_b v_dn_c v_dn_d n
    induction n with
    | zero =>
      intro v_zt l4 x6 x7 x8 x9 x10 out hrun K H locs ls I hl
      cases hrun
    | succ n ih =>
      intro v_zt l4 x6 x7 x8 x9 x10 out hrun K H locs ls I hl
      rw [P_drawn_19] at hrun
      refine lv_iload hx hb dL_drawn_19 (lv_at hl 9 rfl) ?_
      refine lv_iload_n hx hb dL_drawn_21 rfl (lv_at hl 1 rfl) ?_
      refine lv_icmp_ge (tgt := 142) hx hb dL_drawn_22 rfl (fun c1 => ?_) (fun c1 => ?_)
      · have hrun := p_pos hrun c1
        cases hrun
        exact K _ _ _ I (lv_sub hl [0, 1, 2, 4, 5, 6, 7] rfl)
      · have hrun := p_neg hrun c1
        refine lv_iconst (v := 0) hx hb dL_drawn_25 rfl ?_
        refine lv_istore (lv' := [(11, .int 0), (0, .ref (ad 0)), (1, .int x1), (2, .int x2), (3, .ref (az 2)), (4, .long l4), (6, .int x6), (7, .int x7), (8, .int x8), (9, .int x9), (10, .int x10)]) hx hb dL_drawn_26 hl (by decide) rfl (fun ls hl => ?_)
        refine lv_iconst (v := 0) hx hb dL_drawn_28 rfl ?_
        refine lv_istore (lv' := [(12, .int 0), (11, .int 0), (0, .ref (ad 0)), (1, .int x1), (2, .int x2), (3, .ref (az 2)), (4, .long l4), (6, .int x6), (7, .int x7), (8, .int x8), (9, .int x9), (10, .int x10)]) hx hb dL_drawn_29 hl (by decide) rfl (fun ls hl => ?_)
        obtain ⟨o4, h_o4, hrun⟩ := p_bnd hrun
        refine loop_31 v_zt v_s v_closed v_traces v_crossings v_db_bits v_db_size v_db_allBits v_db_a v_db_b v_db_c v_db_d v_dn_bits v_dn_size v_dn_allBits v_dn_a v_dn_b v_dn_c v_dn_d x6 x7 x8 x9 x10 FU l4 0 0 o4 h_o4 (fun H locs ls I hl => ?_) _ _ _ I (lv_sub hl [2, 3, 4, 5, 6, 7, 8, 9, 10, 11, 1, 0] rfl)
        refine lv_iload hx hb dL_drawn_78 (lv_at hl 10 rfl) ?_
        obtain ⟨r5, h_r5, hrun⟩ := p_bnd hrun
        refine jSS_i (rest := []) C (c_isClosed h_r5) gL_drawn_L_isClosed hd_isClosed rfl ⟨rfl, rfl⟩ ⟨Nat.le_of_ble_eq_true rfl, Nat.le_of_ble_eq_true rfl⟩ rfl hl.1 rfl (Nat.le_of_ble_eq_true rfl) ⟨Nat.le_of_ble_eq_true rfl, Nat.le_of_ble_eq_true rfl⟩ dL_drawn_80 ?_
        refine lv_if_eq (tgt := 132) hx hb dL_drawn_83 rfl (fun c6 => ?_) (fun c6 => ?_)
        · have hrun := p_pos hrun c6
          refine lv_iload hx hb dL_drawn_132 (lv_at hl 10 rfl) ?_
          refine lv_istore (lv' := [(9, .int o4.2), (0, .ref (ad 0)), (1, .int x1), (2, .int x2), (3, .ref (az 2)), (4, .long o4.1), (6, .int x6), (7, .int x7), (8, .int x8), (10, .int x10), (11, .int o4.2)]) hx hb dL_drawn_134 hl (by decide) rfl (fun ls hl => ?_)
          refine lv_iinc (v := x10 + 1) (lv' := [(10, .int (x10 + 1)), (9, .int o4.2), (0, .ref (ad 0)), (1, .int x1), (2, .int x2), (3, .ref (az 2)), (4, .long o4.1), (6, .int x6), (7, .int x7), (8, .int x8), (11, .int o4.2)]) hx hb dL_drawn_136 hl (k := 9) rfl rfl (by decide) rfl (fun ls hl => ?_)
          refine lv_goto (tgt := 19) hx hb dL_drawn_139 rfl ?_
          exact ih v_zt o4.1 x6 x7 x8 o4.2 (x10 + 1) out hrun K _ _ _ I (lv_sub hl [2, 3, 4, 5, 6, 7, 8, 9, 1, 0] rfl)
        · have hrun := p_neg hrun c6
          refine lv_iinc (v := x6 + 1) (lv' := [(6, .int (x6 + 1)), (0, .ref (ad 0)), (1, .int x1), (2, .int x2), (3, .ref (az 2)), (4, .long o4.1), (7, .int x7), (8, .int x8), (9, .int x9), (10, .int x10), (11, .int o4.2)]) hx hb dL_drawn_86 hl (k := 5) rfl rfl (by decide) rfl (fun ls hl => ?_)
          refine lv_iload hx hb dL_drawn_89 (lv_at hl 10 rfl) ?_
          refine lv_aload_n hx hb dL_drawn_91 rfl (lv_at hl 4 rfl) ?_
          obtain ⟨r7, h_r7, hrun⟩ := p_bnd hrun
          refine jTE_v (rest := []) C (c_table h_r7) gL_drawn_L_table hd_table hK hN hD hA I rfl ⟨rfl, rfl⟩ ⟨Nat.le_of_ble_eq_true rfl, Nat.le_of_ble_eq_true rfl⟩ rfl hl.1 rfl (Nat.le_of_ble_eq_true rfl) ⟨Nat.le_of_ble_eq_true rfl, Nat.le_of_ble_eq_true rfl⟩ dL_drawn_92 (fun H locs I => ?_)
          refine lv_iload hx hb dL_drawn_95 (lv_at hl 6 rfl) ?_
          refine lv_aload_n hx hb dL_drawn_97 rfl (lv_at hl 4 rfl) ?_
          refine lv_iconst (v := 0) hx hb dL_drawn_98 rfl ?_
          obtain ⟨b8, hrun⟩ := p_chk hrun
          refine ldZ_zt C hK I.1 b8 dL_drawn_99 ?_
          refine lv_aload_n hx hb dL_drawn_100 rfl (lv_at hl 4 rfl) ?_
          refine lv_iconst (v := 3) hx hb dL_drawn_101 rfl ?_
          obtain ⟨b9, hrun⟩ := p_chk hrun
          refine ldZ_zt C hK I.1 b9 dL_drawn_102 ?_
          refine lv_iadd hx hb dL_drawn_103 ?_
          refine lv_iadd hx hb dL_drawn_104 ?_
          refine lv_istore (lv' := [(7, .int (x7 + ((r7 (Int32.toNatClampNeg 0)) + (r7 (Int32.toNatClampNeg 3))))), (6, .int (x6 + 1)), (0, .ref (ad 0)), (1, .int x1), (2, .int x2), (3, .ref (az 2)), (4, .long o4.1), (8, .int x8), (9, .int x9), (10, .int x10), (11, .int o4.2)]) hx hb dL_drawn_105 hl (by decide) rfl (fun ls hl => ?_)
          refine lv_iload hx hb dL_drawn_107 (lv_at hl 8 rfl) ?_
          refine lv_if_eq (tgt := 132) hx hb dL_drawn_109 rfl (fun c10 => ?_) (fun c10 => ?_)
          · have hrun := p_pos hrun c10
            refine lv_iload hx hb dL_drawn_132 (lv_at hl 10 rfl) ?_
            refine lv_istore (lv' := [(9, .int o4.2), (7, .int (x7 + ((r7 (Int32.toNatClampNeg 0)) + (r7 (Int32.toNatClampNeg 3))))), (6, .int (x6 + 1)), (0, .ref (ad 0)), (1, .int x1), (2, .int x2), (3, .ref (az 2)), (4, .long o4.1), (8, .int x8), (10, .int x10), (11, .int o4.2)]) hx hb dL_drawn_134 hl (by decide) rfl (fun ls hl => ?_)
            refine lv_iinc (v := x10 + 1) (lv' := [(10, .int (x10 + 1)), (9, .int o4.2), (7, .int (x7 + ((r7 (Int32.toNatClampNeg 0)) + (r7 (Int32.toNatClampNeg 3))))), (6, .int (x6 + 1)), (0, .ref (ad 0)), (1, .int x1), (2, .int x2), (3, .ref (az 2)), (4, .long o4.1), (8, .int x8), (11, .int o4.2)]) hx hb dL_drawn_136 hl (k := 9) rfl rfl (by decide) rfl (fun ls hl => ?_)
            refine lv_goto (tgt := 19) hx hb dL_drawn_139 rfl ?_
            exact ih r7 o4.1 (x6 + 1) (x7 + ((r7 (Int32.toNatClampNeg 0)) + (r7 (Int32.toNatClampNeg 3)))) x8 o4.2 (x10 + 1) out hrun K _ _ _ I (lv_sub hl [4, 5, 6, 7, 8, 3, 2, 9, 1, 0] rfl)
          · have hrun := p_neg hrun c10
            refine lv_iload hx hb dL_drawn_112 (lv_at hl 8 rfl) ?_
            obtain ⟨r11, h_r11, hrun⟩ := p_bnd hrun
            refine jSS_i (rest := []) C (c_isClosed h_r11) gL_drawn_L_isClosed hd_isClosed rfl ⟨rfl, rfl⟩ ⟨Nat.le_of_ble_eq_true rfl, Nat.le_of_ble_eq_true rfl⟩ rfl hl.1 rfl (Nat.le_of_ble_eq_true rfl) ⟨Nat.le_of_ble_eq_true rfl, Nat.le_of_ble_eq_true rfl⟩ dL_drawn_114 ?_
            refine lv_if_eq (tgt := 132) hx hb dL_drawn_117 rfl (fun c12 => ?_) (fun c12 => ?_)
            · have hrun := p_pos hrun c12
              refine lv_iload hx hb dL_drawn_132 (lv_at hl 10 rfl) ?_
              refine lv_istore (lv' := [(9, .int o4.2), (7, .int (x7 + ((r7 (Int32.toNatClampNeg 0)) + (r7 (Int32.toNatClampNeg 3))))), (6, .int (x6 + 1)), (0, .ref (ad 0)), (1, .int x1), (2, .int x2), (3, .ref (az 2)), (4, .long o4.1), (8, .int x8), (10, .int x10), (11, .int o4.2)]) hx hb dL_drawn_134 hl (by decide) rfl (fun ls hl => ?_)
              refine lv_iinc (v := x10 + 1) (lv' := [(10, .int (x10 + 1)), (9, .int o4.2), (7, .int (x7 + ((r7 (Int32.toNatClampNeg 0)) + (r7 (Int32.toNatClampNeg 3))))), (6, .int (x6 + 1)), (0, .ref (ad 0)), (1, .int x1), (2, .int x2), (3, .ref (az 2)), (4, .long o4.1), (8, .int x8), (11, .int o4.2)]) hx hb dL_drawn_136 hl (k := 9) rfl rfl (by decide) rfl (fun ls hl => ?_)
              refine lv_goto (tgt := 19) hx hb dL_drawn_139 rfl ?_
              exact ih r7 o4.1 (x6 + 1) (x7 + ((r7 (Int32.toNatClampNeg 0)) + (r7 (Int32.toNatClampNeg 3)))) x8 o4.2 (x10 + 1) out hrun K _ _ _ I (lv_sub hl [4, 5, 6, 7, 8, 3, 2, 9, 1, 0] rfl)
            · have hrun := p_neg hrun c12
              refine lv_iload hx hb dL_drawn_120 (lv_at hl 7 rfl) ?_
              refine lv_iload hx hb dL_drawn_122 (lv_at hl 8 rfl) ?_
              refine lv_iload hx hb dL_drawn_124 (lv_at hl 10 rfl) ?_
              obtain ⟨r13, h_r13, hrun⟩ := p_bnd hrun
              refine jSS_i (rest := [.int x8]) C (c_crossings h_r13) gL_drawn_L_crossings hd_crossings rfl ⟨rfl, rfl⟩ ⟨Nat.le_of_ble_eq_true rfl, Nat.le_of_ble_eq_true rfl⟩ rfl hl.1 rfl (Nat.le_of_ble_eq_true rfl) ⟨Nat.le_of_ble_eq_true rfl, Nat.le_of_ble_eq_true rfl⟩ dL_drawn_126 ?_
              refine lv_iadd hx hb dL_drawn_129 ?_
              refine lv_istore (lv' := [(8, .int (x8 + r13)), (7, .int (x7 + ((r7 (Int32.toNatClampNeg 0)) + (r7 (Int32.toNatClampNeg 3))))), (6, .int (x6 + 1)), (0, .ref (ad 0)), (1, .int x1), (2, .int x2), (3, .ref (az 2)), (4, .long o4.1), (9, .int x9), (10, .int x10), (11, .int o4.2)]) hx hb dL_drawn_130 hl (by decide) rfl (fun ls hl => ?_)
              refine lv_iload hx hb dL_drawn_132 (lv_at hl 10 rfl) ?_
              refine lv_istore (lv' := [(9, .int o4.2), (8, .int (x8 + r13)), (7, .int (x7 + ((r7 (Int32.toNatClampNeg 0)) + (r7 (Int32.toNatClampNeg 3))))), (6, .int (x6 + 1)), (0, .ref (ad 0)), (1, .int x1), (2, .int x2), (3, .ref (az 2)), (4, .long o4.1), (10, .int x10), (11, .int o4.2)]) hx hb dL_drawn_134 hl (by decide) rfl (fun ls hl => ?_)
              refine lv_iinc (v := x10 + 1) (lv' := [(10, .int (x10 + 1)), (9, .int o4.2), (8, .int (x8 + r13)), (7, .int (x7 + ((r7 (Int32.toNatClampNeg 0)) + (r7 (Int32.toNatClampNeg 3))))), (6, .int (x6 + 1)), (0, .ref (ad 0)), (1, .int x1), (2, .int x2), (3, .ref (az 2)), (4, .long o4.1), (11, .int o4.2)]) hx hb dL_drawn_136 hl (k := 9) rfl rfl (by decide) rfl (fun ls hl => ?_)
              refine lv_goto (tgt := 19) hx hb dL_drawn_139 rfl ?_
              exact ih r7 o4.1 (x6 + 1) (x7 + ((r7 (Int32.toNatClampNeg 0)) + (r7 (Int32.toNatClampNeg 3)))) (x8 + r13) o4.2 (x10 + 1) out hrun K _ _ _ I (lv_sub hl [5, 6, 7, 8, 9, 4, 3, 2, 1, 0] rfl)
  unfold P_drawn at hrun
  refine lv_iload_n hx hb dL_drawn_0 rfl (lv_at hl 2 rfl) ?_
  refine lv_i2l (v := Int32.toInt64 x2) hx hb dL_drawn_1 rfl ?_
  refine lv_lstore (lv' := [(4, .long (Int32.toInt64 x2)), (0, .ref (ad 0)), (1, .int x1), (2, .int x2), (3, .ref (az 2))]) hx hb dL_drawn_2 hl (by decide) rfl (fun ls hl => ?_)
  refine lv_iconst (v := 0) hx hb dL_drawn_4 rfl ?_
  refine lv_istore (lv' := [(6, .int 0), (4, .long (Int32.toInt64 x2)), (0, .ref (ad 0)), (1, .int x1), (2, .int x2), (3, .ref (az 2))]) hx hb dL_drawn_5 hl (by decide) rfl (fun ls hl => ?_)
  refine lv_iconst (v := 0) hx hb dL_drawn_7 rfl ?_
  refine lv_istore (lv' := [(7, .int 0), (6, .int 0), (4, .long (Int32.toInt64 x2)), (0, .ref (ad 0)), (1, .int x1), (2, .int x2), (3, .ref (az 2))]) hx hb dL_drawn_8 hl (by decide) rfl (fun ls hl => ?_)
  refine lv_iconst (v := 0) hx hb dL_drawn_10 rfl ?_
  refine lv_istore (lv' := [(8, .int 0), (7, .int 0), (6, .int 0), (4, .long (Int32.toInt64 x2)), (0, .ref (ad 0)), (1, .int x1), (2, .int x2), (3, .ref (az 2))]) hx hb dL_drawn_11 hl (by decide) rfl (fun ls hl => ?_)
  refine lv_iconst (v := 0) hx hb dL_drawn_13 rfl ?_
  refine lv_istore (lv' := [(9, .int 0), (8, .int 0), (7, .int 0), (6, .int 0), (4, .long (Int32.toInt64 x2)), (0, .ref (ad 0)), (1, .int x1), (2, .int x2), (3, .ref (az 2))]) hx hb dL_drawn_14 hl (by decide) rfl (fun ls hl => ?_)
  refine lv_iconst (v := 0) hx hb dL_drawn_16 rfl ?_
  refine lv_istore (lv' := [(10, .int 0), (9, .int 0), (8, .int 0), (7, .int 0), (6, .int 0), (4, .long (Int32.toInt64 x2)), (0, .ref (ad 0)), (1, .int x1), (2, .int x2), (3, .ref (az 2))]) hx hb dL_drawn_17 hl (by decide) rfl (fun ls hl => ?_)
  obtain ⟨o14, h_o14, hrun⟩ := p_bnd hrun
  refine loop_19 v_s v_closed v_traces v_crossings v_db_bits v_db_size v_db_allBits v_db_a v_db_b v_db_c v_db_d v_dn_bits v_dn_size v_dn_allBits v_dn_a v_dn_b v_dn_c v_dn_d FU v_zt (Int32.toInt64 x2) 0 0 0 0 0 o14 h_o14 (fun H locs ls I hl => ?_) _ _ _ I (lv_sub hl [6, 7, 8, 9, 5, 4, 3, 2, 1, 0] rfl)
  refine lv_aload_n hx hb dL_drawn_142 rfl (lv_at hl 0 rfl) ?_
  refine lv_iload_n hx hb dL_drawn_143 rfl (lv_at hl 1 rfl) ?_
  refine lv_iload_n hx hb dL_drawn_144 rfl (lv_at hl 2 rfl) ?_
  refine lv_iconst (v := 0) hx hb dL_drawn_145 rfl ?_
  obtain ⟨r15, h_r15, hrun⟩ := p_bnd hrun
  refine jFE_i (wb := wA az cI v_zw v_zd o14.1) (rest := []) C (c4_drawn h_r15) gL_drawn_X4_drawn hd4_drawn hK hN hD (by rfl) hA I rcX rfl ⟨rfl, rfl⟩ ⟨Nat.le_of_ble_eq_true rfl, Nat.le_of_ble_eq_true rfl⟩ rfl hl.1 rfl (Nat.le_of_ble_eq_true rfl) ⟨Nat.le_of_ble_eq_true rfl, Nat.le_of_ble_eq_true rfl⟩ dL_drawn_146 (fun H locs I => ?_)
  refine lv_iload hx hb dL_drawn_149 (lv_at hl 4 rfl) ?_
  refine lv_icmp_ne (tgt := 244) hx hb dL_drawn_151 rfl (fun c16 => ?_) (fun c16 => ?_)
  · have hrun := p_neg hrun c16
    refine lv_iconst (v := 0) hx hb dL_drawn_244 rfl ?_
    cases hrun
    exact rE_i C hr hlk hQ I (nb01 (Or.inl rfl)) rfl dL_drawn_245
  · have hrun := p_pos hrun c16
    refine lv_aload_n hx hb dL_drawn_154 rfl (lv_at hl 0 rfl) ?_
    refine lv_iload_n hx hb dL_drawn_155 rfl (lv_at hl 1 rfl) ?_
    refine lv_iload_n hx hb dL_drawn_156 rfl (lv_at hl 2 rfl) ?_
    refine lv_iconst (v := 1) hx hb dL_drawn_157 rfl ?_
    obtain ⟨r17, h_r17, hrun⟩ := p_bnd hrun
    refine jFE_i (wb := wA az cI v_zw v_zd o14.1) (rest := []) C (c4_drawn h_r17) gL_drawn_X4_drawn hd4_drawn hK hN hD (by rfl) hA I rcX rfl ⟨rfl, rfl⟩ ⟨Nat.le_of_ble_eq_true rfl, Nat.le_of_ble_eq_true rfl⟩ rfl hl.1 rfl (Nat.le_of_ble_eq_true rfl) ⟨Nat.le_of_ble_eq_true rfl, Nat.le_of_ble_eq_true rfl⟩ dL_drawn_158 (fun H locs I => ?_)
    refine lv_iload hx hb dL_drawn_161 (lv_at hl 5 rfl) ?_
    refine lv_icmp_ne (tgt := 244) hx hb dL_drawn_163 rfl (fun c18 => ?_) (fun c18 => ?_)
    · have hrun := p_neg hrun c18
      refine lv_iconst (v := 0) hx hb dL_drawn_244 rfl ?_
      cases hrun
      exact rE_i C hr hlk hQ I (nb01 (Or.inl rfl)) rfl dL_drawn_245
    · have hrun := p_pos hrun c18
      refine lv_aload_n hx hb dL_drawn_166 rfl (lv_at hl 0 rfl) ?_
      refine lv_iload_n hx hb dL_drawn_167 rfl (lv_at hl 1 rfl) ?_
      refine lv_iload_n hx hb dL_drawn_168 rfl (lv_at hl 2 rfl) ?_
      refine lv_iconst (v := 2) hx hb dL_drawn_169 rfl ?_
      obtain ⟨r19, h_r19, hrun⟩ := p_bnd hrun
      refine jFE_i (wb := wA az cI v_zw v_zd o14.1) (rest := []) C (c4_drawn h_r19) gL_drawn_X4_drawn hd4_drawn hK hN hD (by rfl) hA I rcX rfl ⟨rfl, rfl⟩ ⟨Nat.le_of_ble_eq_true rfl, Nat.le_of_ble_eq_true rfl⟩ rfl hl.1 rfl (Nat.le_of_ble_eq_true rfl) ⟨Nat.le_of_ble_eq_true rfl, Nat.le_of_ble_eq_true rfl⟩ dL_drawn_170 (fun H locs I => ?_)
      refine lv_iload hx hb dL_drawn_173 (lv_at hl 6 rfl) ?_
      refine lv_icmp_ne (tgt := 244) hx hb dL_drawn_175 rfl (fun c20 => ?_) (fun c20 => ?_)
      · have hrun := p_neg hrun c20
        refine lv_iconst (v := 0) hx hb dL_drawn_244 rfl ?_
        cases hrun
        exact rE_i C hr hlk hQ I (nb01 (Or.inl rfl)) rfl dL_drawn_245
      · have hrun := p_pos hrun c20
        refine lv_aload_n hx hb dL_drawn_178 rfl (lv_at hl 0 rfl) ?_
        refine lv_iload_n hx hb dL_drawn_179 rfl (lv_at hl 1 rfl) ?_
        refine lv_iload_n hx hb dL_drawn_180 rfl (lv_at hl 2 rfl) ?_
        refine lv_iconst (v := 3) hx hb dL_drawn_181 rfl ?_
        obtain ⟨r21, h_r21, hrun⟩ := p_bnd hrun
        refine jFE_i (wb := wA az cI v_zw v_zd o14.1) (rest := []) C (c4_drawn h_r21) gL_drawn_X4_drawn hd4_drawn hK hN hD (by rfl) hA I rcX rfl ⟨rfl, rfl⟩ ⟨Nat.le_of_ble_eq_true rfl, Nat.le_of_ble_eq_true rfl⟩ rfl hl.1 rfl (Nat.le_of_ble_eq_true rfl) ⟨Nat.le_of_ble_eq_true rfl, Nat.le_of_ble_eq_true rfl⟩ dL_drawn_182 (fun H locs I => ?_)
        refine lv_lload hx hb dL_drawn_185 (lv_at hl 3 rfl) ?_
        refine lv_l2i (v := Int64.toInt32 o14.2.1) hx hb dL_drawn_187 rfl ?_
        refine lv_icmp_ne (tgt := 244) hx hb dL_drawn_188 rfl (fun c22 => ?_) (fun c22 => ?_)
        · have hrun := p_neg hrun c22
          refine lv_iconst (v := 0) hx hb dL_drawn_244 rfl ?_
          cases hrun
          exact rE_i C hr hlk hQ I (nb01 (Or.inl rfl)) rfl dL_drawn_245
        · have hrun := p_pos hrun c22
          refine lv_aload_n hx hb dL_drawn_191 rfl (lv_at hl 0 rfl) ?_
          refine lv_iconst (v := 0) hx hb dL_drawn_192 rfl ?_
          refine lv_iconst (v := 0) hx hb dL_drawn_193 rfl ?_
          refine lv_iconst (v := 0) hx hb dL_drawn_194 rfl ?_
          obtain ⟨r23, h_r23, hrun⟩ := p_bnd hrun
          refine jFE_i (wb := wA az cI v_zw v_zd o14.1) (rest := []) C (c4_drawn h_r23) gL_drawn_X4_drawn hd4_drawn hK hN hD (by rfl) hA I rcX rfl ⟨rfl, rfl⟩ ⟨Nat.le_of_ble_eq_true rfl, Nat.le_of_ble_eq_true rfl⟩ rfl hl.1 rfl (Nat.le_of_ble_eq_true rfl) ⟨Nat.le_of_ble_eq_true rfl, Nat.le_of_ble_eq_true rfl⟩ dL_drawn_195 (fun H locs I => ?_)
          refine lv_ldc (v := (-2000000102)) hx hb C.2.2.2.1 (C.2.2.2.2 _ k_drawn_68) dL_drawn_198 ?_
          refine lv_icmp_ne (tgt := 244) hx hb dL_drawn_200 rfl (fun c24 => ?_) (fun c24 => ?_)
          · have hrun := p_neg hrun c24
            refine lv_iconst (v := 0) hx hb dL_drawn_244 rfl ?_
            cases hrun
            exact rE_i C hr hlk hQ I (nb01 (Or.inl rfl)) rfl dL_drawn_245
          · have hrun := p_pos hrun c24
            refine lv_aload_n hx hb dL_drawn_203 rfl (lv_at hl 0 rfl) ?_
            refine lv_bipush (v := 41) hx hb dL_drawn_204 rfl ?_
            refine lv_iconst (v := 0) hx hb dL_drawn_206 rfl ?_
            refine lv_iconst (v := 0) hx hb dL_drawn_207 rfl ?_
            obtain ⟨r25, h_r25, hrun⟩ := p_bnd hrun
            refine jFE_i (wb := wA az cI v_zw v_zd o14.1) (rest := []) C (c4_drawn h_r25) gL_drawn_X4_drawn hd4_drawn hK hN hD (by rfl) hA I rcX rfl ⟨rfl, rfl⟩ ⟨Nat.le_of_ble_eq_true rfl, Nat.le_of_ble_eq_true rfl⟩ rfl hl.1 rfl (Nat.le_of_ble_eq_true rfl) ⟨Nat.le_of_ble_eq_true rfl, Nat.le_of_ble_eq_true rfl⟩ dL_drawn_208 (fun H locs I => ?_)
            refine lv_ldc (v := (-2000000102)) hx hb C.2.2.2.1 (C.2.2.2.2 _ k_drawn_68) dL_drawn_211 ?_
            refine lv_icmp_ne (tgt := 244) hx hb dL_drawn_213 rfl (fun c26 => ?_) (fun c26 => ?_)
            · have hrun := p_neg hrun c26
              refine lv_iconst (v := 0) hx hb dL_drawn_244 rfl ?_
              cases hrun
              exact rE_i C hr hlk hQ I (nb01 (Or.inl rfl)) rfl dL_drawn_245
            · have hrun := p_pos hrun c26
              refine lv_aload_n hx hb dL_drawn_216 rfl (lv_at hl 0 rfl) ?_
              refine lv_iconst (v := 1) hx hb dL_drawn_217 rfl ?_
              refine lv_iconst (v := (-1)) hx hb dL_drawn_218 rfl ?_
              refine lv_iconst (v := 0) hx hb dL_drawn_219 rfl ?_
              obtain ⟨r27, h_r27, hrun⟩ := p_bnd hrun
              refine jFE_i (wb := wA az cI v_zw v_zd o14.1) (rest := []) C (c4_drawn h_r27) gL_drawn_X4_drawn hd4_drawn hK hN hD (by rfl) hA I rcX rfl ⟨rfl, rfl⟩ ⟨Nat.le_of_ble_eq_true rfl, Nat.le_of_ble_eq_true rfl⟩ rfl hl.1 rfl (Nat.le_of_ble_eq_true rfl) ⟨Nat.le_of_ble_eq_true rfl, Nat.le_of_ble_eq_true rfl⟩ dL_drawn_220 (fun H locs I => ?_)
              refine lv_ldc (v := (-2000000102)) hx hb C.2.2.2.1 (C.2.2.2.2 _ k_drawn_68) dL_drawn_223 ?_
              refine lv_icmp_ne (tgt := 244) hx hb dL_drawn_225 rfl (fun c28 => ?_) (fun c28 => ?_)
              · have hrun := p_neg hrun c28
                refine lv_iconst (v := 0) hx hb dL_drawn_244 rfl ?_
                cases hrun
                exact rE_i C hr hlk hQ I (nb01 (Or.inl rfl)) rfl dL_drawn_245
              · have hrun := p_pos hrun c28
                refine lv_aload_n hx hb dL_drawn_228 rfl (lv_at hl 0 rfl) ?_
                refine lv_iconst (v := 1) hx hb dL_drawn_229 rfl ?_
                refine lv_iconst (v := 1) hx hb dL_drawn_230 rfl ?_
                refine lv_iconst (v := 4) hx hb dL_drawn_231 rfl ?_
                obtain ⟨r29, h_r29, hrun⟩ := p_bnd hrun
                refine jFE_i (wb := wA az cI v_zw v_zd o14.1) (rest := []) C (c4_drawn h_r29) gL_drawn_X4_drawn hd4_drawn hK hN hD (by rfl) hA I rcX rfl ⟨rfl, rfl⟩ ⟨Nat.le_of_ble_eq_true rfl, Nat.le_of_ble_eq_true rfl⟩ rfl hl.1 rfl (Nat.le_of_ble_eq_true rfl) ⟨Nat.le_of_ble_eq_true rfl, Nat.le_of_ble_eq_true rfl⟩ dL_drawn_232 (fun H locs I => ?_)
                refine lv_ldc (v := (-2000000102)) hx hb C.2.2.2.1 (C.2.2.2.2 _ k_drawn_68) dL_drawn_235 ?_
                refine lv_icmp_ne (tgt := 244) hx hb dL_drawn_237 rfl (fun c30 => ?_) (fun c30 => ?_)
                · have hrun := p_neg hrun c30
                  refine lv_iconst (v := 0) hx hb dL_drawn_244 rfl ?_
                  cases hrun
                  exact rE_i C hr hlk hQ I (nb01 (Or.inl rfl)) rfl dL_drawn_245
                · have hrun := p_pos hrun c30
                  refine lv_iconst (v := 1) hx hb dL_drawn_240 rfl ?_
                  refine lv_goto (tgt := 245) hx hb dL_drawn_241 rfl ?_
                  cases hrun
                  exact rE_i C hr hlk hQ I (nb01 (Or.inr rfl)) rfl dL_drawn_245

end Z98
