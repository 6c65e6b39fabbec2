section Z94
variable {l : Launch} {D : va_G} {sz : Nat}
variable {az ad fa ca wad : Nat → Nat} {cI cR cG : ClassId}
variable {v_roadCount v_readings v_psize v_good v_pbits v_letters v_afterLetter v_disc v_rsize v_cycleCount v_closed v_traces v_crossings v_db_bits v_db_size v_db_allBits v_db_a v_db_b v_db_c v_db_d v_dn_bits v_dn_size v_dn_allBits v_dn_a v_dn_b v_dn_c v_dn_d : Int32}
variable {v_s : Int64}
variable {v_zw v_zd v_zt v_codes : Nat → Int32}
variable {v_fo v_cy v_wv : Nat → Nat → Int32}
variable {v_wn : Nat}
abbrev rm_stands : Room := { frames := 6, cells := 0, slots := 0, locals := 140 }
theorem k_stands_68 : Cond.constant RL 68 (-2000000102) ∈ wsL_stands := by decide +kernel
theorem k_stands_84 : Cond.constant RL 84 (-2000000101) ∈ wsL_stands := by decide +kernel
theorem k_stands_90 : Cond.constant RL 90 (-2000000001) ∈ wsL_stands := by decide +kernel
theorem hd_stands : okD yL_stands 4 := by decide +kernel
set_option maxHeartbeats 8000000 in
set_option maxRecDepth 100000 in
theorem c_stands {x2 : Int32} {res : Int32 × (Nat → Int32)} (hrun : P_stands v_zw v_zt v_roadCount v_readings v_psize v_rsize v_cycleCount v_wn v_wv x2 = some res) : Met l yL_stands wsL_stands rm_stands (va_Pc [.ref (ad 0), .ref (az 0), .int x2, .ref (az 2)] (PE D (tyX cI cR cG) sz (WZ0 az ad fa ca wad cI cR cG v_wn) (WZ az ad fa ca wad cI cR cG v_zw v_zd v_zt v_roadCount v_readings v_psize v_good v_pbits v_letters v_afterLetter v_codes v_disc v_rsize v_cycleCount v_fo v_cy v_s v_closed v_traces v_crossings v_db_bits v_db_size v_db_allBits v_db_a v_db_b v_db_c v_db_d v_dn_bits v_dn_size v_dn_allBits v_dn_a v_dn_b v_dn_c v_dn_d v_wn v_wv))) (va_Qi (fun (x : Int32) (_ : Unit) => x = res.1) (fun _ t => va_P D vwCl (WZ az ad fa ca wad cI cR cG v_zw v_zd res.2 v_roadCount v_readings v_psize v_good v_pbits v_letters v_afterLetter v_codes v_disc v_rsize v_cycleCount v_fo v_cy v_s v_closed v_traces v_crossings v_db_bits v_db_size v_db_allBits v_db_a v_db_b v_db_c v_db_d v_dn_bits v_dn_size v_dn_allBits v_dn_a v_dn_b v_dn_c v_dn_d v_wn v_wv) t.heap) (va_A (WZ0 az ad fa ca wad cI cR cG v_wn) sz)) 0 0 (va_A (WZ0 az ad fa ca wad cI cR cG v_wn) sz) := by
  refine E_in (cc := cL_stands) (maxL := 11) (ret := (some .boolean)) (by decide) rfl (Nat.le_of_ble_eq_true rfl) ?_
  intro p e s m args below meth c ls Q hQ C hr hlk hK hN hD hA I hl
  have C : CallFix p m c cL_stands 11 s args wsL_stands RL := C
  have hx := C.1
  have hb := C.2.1
  have hl : lv_has ls 11 [(0, .ref (ad 0)), (1, .ref (az 0)), (2, .int x2), (3, .ref (az 2))] := hl
  have loop_57 : ∀ (v_zt : Nat → Int32) (x4 : Int32) (x5 : Int32) (x6 : Int32) (n : Nat) (x7 : Int32) (x8 : Int32) (out : Int32), P_stands_57 v_zw x6 n x7 x8 = some out → (∀ (H : Heap) (locs : List Loc) (ls : Array Slot), IM D (va_A (WZ0 az ad fa ca wad cI cR cG v_wn) sz) s.heap H locs (WZ az ad fa ca wad cI cR cG v_zw v_zd v_zt v_roadCount v_readings v_psize v_good v_pbits v_letters v_afterLetter v_codes v_disc v_rsize v_cycleCount v_fo v_cy v_s v_closed v_traces v_crossings v_db_bits v_db_size v_db_allBits v_db_a v_db_b v_db_c v_db_d v_dn_bits v_dn_size v_dn_allBits v_dn_a v_dn_b v_dn_c v_dn_d v_wn v_wv) → lv_has ls 11 [(0, .ref (ad 0)), (1, .ref (az 0)), (2, .int x2), (3, .ref (az 2)), (4, .int x4), (5, .int x5), (6, .int x6), (7, .int out)] → W p l e rm_stands s m args below meth c H locs 0 0 Q (F0 m 94 ls [])) → ∀ (H : Heap) (locs : List Loc) (ls : Array Slot), IM D (va_A (WZ0 az ad fa ca wad cI cR cG v_wn) sz) s.heap H locs (WZ az ad fa ca wad cI cR cG v_zw v_zd v_zt v_roadCount v_readings v_psize v_good v_pbits v_letters v_afterLetter v_codes v_disc v_rsize v_cycleCount v_fo v_cy v_s v_closed v_traces v_crossings v_db_bits v_db_size v_db_allBits v_db_a v_db_b v_db_c v_db_d v_dn_bits v_dn_size v_dn_allBits v_dn_a v_dn_b v_dn_c v_dn_d v_wn v_wv) → lv_has ls 11 [(0, .ref (ad 0)), (1, .ref (az 0)), (2, .int x2), (3, .ref (az 2)), (4, .int x4), (5, .int x5), (6, .int x6), (7, .int x7), (8, .int x8)] → W p l e rm_stands s m args below meth c H locs 0 0 Q (F0 m 57 ls []) := by
    intro v_zt x4 x5 x6 n
    induction n with
    | zero =>
      intro x7 x8 out hrun K H locs ls I hl
      cases hrun
    | succ n ih =>
      intro x7 x8 out hrun K H locs ls I hl
      rw [P_stands_57] at hrun
      refine lv_iload hx hb dL_stands_57 (lv_at hl 8 rfl) ?_
      refine lv_iload hx hb dL_stands_59 (lv_at hl 6 rfl) ?_
      refine lv_icmp_ge (tgt := 94) hx hb dL_stands_61 rfl (fun c8 => ?_) (fun c8 => ?_)
      · have hrun := p_pos hrun c8
        cases hrun
        exact K _ _ _ I (lv_sub hl [0, 1, 2, 3, 4, 5, 6, 7] rfl)
      · have hrun := p_neg hrun c8
        refine lv_iload hx hb dL_stands_64 (lv_at hl 7 rfl) ?_
        refine lv_aload_n hx hb dL_stands_66 rfl (lv_at hl 1 rfl) ?_
        refine lv_iload hx hb dL_stands_67 (lv_at hl 6 rfl) ?_
        obtain ⟨b9, hrun⟩ := p_chk hrun
        refine ldZ_zw C hK I.1 b9 dL_stands_69 ?_
        refine lv_aload_n hx hb dL_stands_70 rfl (lv_at hl 1 rfl) ?_
        refine lv_iload hx hb dL_stands_71 (lv_at hl 8 rfl) ?_
        obtain ⟨b10, hrun⟩ := p_chk hrun
        refine ldZ_zw C hK I.1 b10 dL_stands_73 ?_
        obtain ⟨r11, h_r11, hrun⟩ := p_bnd hrun
        refine jSS_i (rest := [.int x7]) C (c_alike h_r11) gL_stands_L_alike hd_alike rfl ⟨rfl, rfl⟩ ⟨Nat.le_of_ble_eq_true rfl, Nat.le_of_ble_eq_true rfl⟩ rfl hl.1 rfl (Nat.le_of_ble_eq_true rfl) ⟨Nat.le_of_ble_eq_true rfl, Nat.le_of_ble_eq_true rfl⟩ dL_stands_74 ?_
        refine lv_if_ne (tgt := 84) hx hb dL_stands_77 rfl (fun c12 => ?_) (fun c12 => ?_)
        · have hrun := p_neg hrun c12
          refine lv_iconst (v := 0) hx hb dL_stands_84 rfl ?_
          refine lv_iand hx hb dL_stands_85 ?_
          refine lv_istore (lv' := [(7, .int (x7 &&& 0)), (0, .ref (ad 0)), (1, .ref (az 0)), (2, .int x2), (3, .ref (az 2)), (4, .int x4), (5, .int x5), (6, .int x6), (8, .int x8)]) hx hb dL_stands_86 hl (by decide) rfl (fun ls hl => ?_)
          refine lv_iinc (v := x8 + 1) (lv' := [(8, .int (x8 + 1)), (7, .int (x7 &&& 0)), (0, .ref (ad 0)), (1, .ref (az 0)), (2, .int x2), (3, .ref (az 2)), (4, .int x4), (5, .int x5), (6, .int x6)]) hx hb dL_stands_88 hl (k := 8) rfl rfl (by decide) rfl (fun ls hl => ?_)
          refine lv_goto (tgt := 57) hx hb dL_stands_91 rfl ?_
          exact ih (x7 &&& 0) (x8 + 1) out hrun K _ _ _ I (lv_sub hl [2, 3, 4, 5, 6, 7, 8, 1, 0] rfl)
        · have hrun := p_pos hrun c12
          refine lv_iconst (v := 1) hx hb dL_stands_80 rfl ?_
          refine lv_goto (tgt := 85) hx hb dL_stands_81 rfl ?_
          refine lv_iand hx hb dL_stands_85 ?_
          refine lv_istore (lv' := [(7, .int (x7 &&& 1)), (0, .ref (ad 0)), (1, .ref (az 0)), (2, .int x2), (3, .ref (az 2)), (4, .int x4), (5, .int x5), (6, .int x6), (8, .int x8)]) hx hb dL_stands_86 hl (by decide) rfl (fun ls hl => ?_)
          refine lv_iinc (v := x8 + 1) (lv' := [(8, .int (x8 + 1)), (7, .int (x7 &&& 1)), (0, .ref (ad 0)), (1, .ref (az 0)), (2, .int x2), (3, .ref (az 2)), (4, .int x4), (5, .int x5), (6, .int x6)]) hx hb dL_stands_88 hl (k := 8) rfl rfl (by decide) rfl (fun ls hl => ?_)
          refine lv_goto (tgt := 57) hx hb dL_stands_91 rfl ?_
          exact ih (x7 &&& 1) (x8 + 1) out hrun K _ _ _ I (lv_sub hl [2, 3, 4, 5, 6, 7, 8, 1, 0] rfl)
  have loop_133 : ∀ (v_zt : Nat → Int32) (x4 : Int32) (x5 : Int32) (x6 : Int32) (x8 : Int32) (n : Nat) (x9 : Int32) (x10 : Int32) (out : Int32), P_stands_133 v_zw x6 x8 n x9 x10 = some out → (∀ (H : Heap) (locs : List Loc) (ls : Array Slot), IM D (va_A (WZ0 az ad fa ca wad cI cR cG v_wn) sz) s.heap H locs (WZ az ad fa ca wad cI cR cG v_zw v_zd v_zt v_roadCount v_readings v_psize v_good v_pbits v_letters v_afterLetter v_codes v_disc v_rsize v_cycleCount v_fo v_cy v_s v_closed v_traces v_crossings v_db_bits v_db_size v_db_allBits v_db_a v_db_b v_db_c v_db_d v_dn_bits v_dn_size v_dn_allBits v_dn_a v_dn_b v_dn_c v_dn_d v_wn v_wv) → lv_has ls 11 [(0, .ref (ad 0)), (1, .ref (az 0)), (2, .int x2), (3, .ref (az 2)), (4, .int x4), (5, .int x5), (6, .int x6), (8, .int x8), (9, .int out)] → W p l e rm_stands s m args below meth c H locs 0 0 Q (F0 m 164 ls [])) → ∀ (H : Heap) (locs : List Loc) (ls : Array Slot), IM D (va_A (WZ0 az ad fa ca wad cI cR cG v_wn) sz) s.heap H locs (WZ az ad fa ca wad cI cR cG v_zw v_zd v_zt v_roadCount v_readings v_psize v_good v_pbits v_letters v_afterLetter v_codes v_disc v_rsize v_cycleCount v_fo v_cy v_s v_closed v_traces v_crossings v_db_bits v_db_size v_db_allBits v_db_a v_db_b v_db_c v_db_d v_dn_bits v_dn_size v_dn_allBits v_dn_a v_dn_b v_dn_c v_dn_d v_wn v_wv) → lv_has ls 11 [(0, .ref (ad 0)), (1, .ref (az 0)), (2, .int x2), (3, .ref (az 2)), (4, .int x4), (5, .int x5), (6, .int x6), (8, .int x8), (9, .int x9), (10, .int x10)] → W p l e rm_stands s m args below meth c H locs 0 0 Q (F0 m 133 ls []) := by
    intro v_zt x4 x5 x6 x8 n
    induction n with
    | zero =>
      intro x9 x10 out hrun K H locs ls I hl
      cases hrun
    | succ n ih =>
      intro x9 x10 out hrun K H locs ls I hl
      rw [P_stands_133] at hrun
      refine lv_iload hx hb dL_stands_133 (lv_at hl 9 rfl) ?_
      refine lv_if_lt (tgt := 164) hx hb dL_stands_135 rfl (fun c18 => ?_) (fun c18 => ?_)
      · have hrun := p_pos hrun c18
        cases hrun
        exact K _ _ _ I (lv_sub hl [0, 1, 2, 3, 4, 5, 6, 7, 8] rfl)
      · have hrun := p_neg hrun c18
        refine lv_aload_n hx hb dL_stands_138 rfl (lv_at hl 1 rfl) ?_
        refine lv_iload hx hb dL_stands_139 (lv_at hl 6 rfl) ?_
        obtain ⟨b19, hrun⟩ := p_chk hrun
        refine ldZ_zw C hK I.1 b19 dL_stands_141 ?_
        refine lv_iload hx hb dL_stands_142 (lv_at hl 9 rfl) ?_
        obtain ⟨r20, h_r20, hrun⟩ := p_bnd hrun
        refine jSS_i (rest := []) C (c_turned h_r20) gL_stands_L_turned hd_turned rfl ⟨rfl, rfl⟩ ⟨Nat.le_of_ble_eq_true rfl, Nat.le_of_ble_eq_true rfl⟩ rfl hl.1 rfl (Nat.le_of_ble_eq_true rfl) ⟨Nat.le_of_ble_eq_true rfl, Nat.le_of_ble_eq_true rfl⟩ dL_stands_144 ?_
        refine lv_aload_n hx hb dL_stands_147 rfl (lv_at hl 1 rfl) ?_
        refine lv_iload hx hb dL_stands_148 (lv_at hl 7 rfl) ?_
        obtain ⟨b21, hrun⟩ := p_chk hrun
        refine ldZ_zw C hK I.1 b21 dL_stands_150 ?_
        refine lv_icmp_ne (tgt := 158) hx hb dL_stands_151 rfl (fun c22 => ?_) (fun c22 => ?_)
        · have hrun := p_neg hrun c22
          refine lv_iinc (v := x10 + (-1)) (lv' := [(10, .int (x10 + (-1))), (0, .ref (ad 0)), (1, .ref (az 0)), (2, .int x2), (3, .ref (az 2)), (4, .int x4), (5, .int x5), (6, .int x6), (8, .int x8), (9, .int x9)]) hx hb dL_stands_158 hl (k := 9) rfl rfl (by decide) rfl (fun ls hl => ?_)
          refine lv_goto (tgt := 133) hx hb dL_stands_161 rfl ?_
          exact ih x9 (x10 + (-1)) out hrun K _ _ _ I (lv_sub hl [1, 2, 3, 4, 5, 6, 7, 8, 9, 0] rfl)
        · have hrun := p_pos hrun c22
          refine lv_iload hx hb dL_stands_154 (lv_at hl 9 rfl) ?_
          refine lv_istore (lv' := [(9, .int x10), (0, .ref (ad 0)), (1, .ref (az 0)), (2, .int x2), (3, .ref (az 2)), (4, .int x4), (5, .int x5), (6, .int x6), (8, .int x8), (10, .int x10)]) hx hb dL_stands_156 hl (by decide) rfl (fun ls hl => ?_)
          refine lv_iinc (v := x10 + (-1)) (lv' := [(10, .int (x10 + (-1))), (9, .int x10), (0, .ref (ad 0)), (1, .ref (az 0)), (2, .int x2), (3, .ref (az 2)), (4, .int x4), (5, .int x5), (6, .int x6), (8, .int x8)]) hx hb dL_stands_158 hl (k := 9) rfl rfl (by decide) rfl (fun ls hl => ?_)
          refine lv_goto (tgt := 133) hx hb dL_stands_161 rfl ?_
          exact ih x10 (x10 + (-1)) out hrun K _ _ _ I (lv_sub hl [2, 3, 4, 5, 6, 7, 8, 9, 1, 0] rfl)
  have loop_112 : ∀ (v_zt : Nat → Int32) (x4 : Int32) (x5 : Int32) (x6 : Int32) (n : Nat) (x8 : Int32) (out : (Int32 × (Nat → Int32)) ⊕ (Unit)), P_stands_112 v_zw v_zt v_roadCount v_wn v_wv x2 x6 n x8 = some out → sK out (fun r9 => r9 = res) (fun o9 => ∀ (H : Heap) (locs : List Loc) (ls : Array Slot), IM D (va_A (WZ0 az ad fa ca wad cI cR cG v_wn) sz) s.heap H locs (WZ az ad fa ca wad cI cR cG v_zw v_zd v_zt v_roadCount v_readings v_psize v_good v_pbits v_letters v_afterLetter v_codes v_disc v_rsize v_cycleCount v_fo v_cy v_s v_closed v_traces v_crossings v_db_bits v_db_size v_db_allBits v_db_a v_db_b v_db_c v_db_d v_dn_bits v_dn_size v_dn_allBits v_dn_a v_dn_b v_dn_c v_dn_d v_wn v_wv) → lv_has ls 11 [(0, .ref (ad 0)), (1, .ref (az 0)), (2, .int x2), (3, .ref (az 2)), (4, .int x4), (5, .int x5), (6, .int x6)] → W p l e rm_stands s m args below meth c H locs 0 0 Q (F0 m 185 ls [])) → ∀ (H : Heap) (locs : List Loc) (ls : Array Slot), IM D (va_A (WZ0 az ad fa ca wad cI cR cG v_wn) sz) s.heap H locs (WZ az ad fa ca wad cI cR cG v_zw v_zd v_zt v_roadCount v_readings v_psize v_good v_pbits v_letters v_afterLetter v_codes v_disc v_rsize v_cycleCount v_fo v_cy v_s v_closed v_traces v_crossings v_db_bits v_db_size v_db_allBits v_db_a v_db_b v_db_c v_db_d v_dn_bits v_dn_size v_dn_allBits v_dn_a v_dn_b v_dn_c v_dn_d v_wn v_wv) → lv_has ls 11 [(0, .ref (ad 0)), (1, .ref (az 0)), (2, .int x2), (3, .ref (az 2)), (4, .int x4), (5, .int x5), (6, .int x6), (8, .int x8)] → W p l e rm_stands s m args below meth c H locs 0 0 Q (F0 m 112 ls []) := by
    intro v_zt x4 x5 x6 n
    induction n with
    | zero =>
      intro x8 out hrun K H locs ls I hl
      cases hrun
    | succ n ih =>
      intro x8 out hrun K H locs ls I hl
      rw [P_stands_112] at hrun
      refine lv_iload hx hb dL_stands_112 (lv_at hl 7 rfl) ?_
      refine lv_iload_n hx hb dL_stands_114 rfl (lv_at hl 2 rfl) ?_
      refine lv_icmp_ge (tgt := 185) hx hb dL_stands_115 rfl (fun c15 => ?_) (fun c15 => ?_)
      · have hrun := p_pos hrun c15
        cases hrun
        exact K _ _ _ I (lv_sub hl [0, 1, 2, 3, 4, 5, 6] rfl)
      · have hrun := p_neg hrun c15
        refine lv_ldc (v := (-2000000001)) hx hb C.2.2.2.1 (C.2.2.2.2 _ k_stands_90) dL_stands_118 ?_
        refine lv_istore (lv' := [(9, .int (-2000000001)), (0, .ref (ad 0)), (1, .ref (az 0)), (2, .int x2), (3, .ref (az 2)), (4, .int x4), (5, .int x5), (6, .int x6), (8, .int x8)]) hx hb dL_stands_120 hl (by decide) rfl (fun ls hl => ?_)
        refine lv_aload_n hx hb dL_stands_122 rfl (lv_at hl 2 rfl) ?_
        refine lv_iload hx hb dL_stands_123 (lv_at hl 7 rfl) ?_
        obtain ⟨b16, hrun⟩ := p_chk hrun
        refine ldZ_zw C hK I.1 b16 dL_stands_125 ?_
        obtain ⟨r17, h_r17, hrun⟩ := p_bnd hrun
        refine jSS_i (rest := []) C (c_size h_r17) gL_stands_L_size hd_size rfl ⟨rfl, rfl⟩ ⟨Nat.le_of_ble_eq_true rfl, Nat.le_of_ble_eq_true rfl⟩ rfl hl.1 rfl (Nat.le_of_ble_eq_true rfl) ⟨Nat.le_of_ble_eq_true rfl, Nat.le_of_ble_eq_true rfl⟩ dL_stands_126 ?_
        refine lv_iconst (v := 1) hx hb dL_stands_129 rfl ?_
        refine lv_isub hx hb dL_stands_130 ?_
        refine lv_istore (lv' := [(10, .int (r17 - 1)), (9, .int (-2000000001)), (0, .ref (ad 0)), (1, .ref (az 0)), (2, .int x2), (3, .ref (az 2)), (4, .int x4), (5, .int x5), (6, .int x6), (8, .int x8)]) hx hb dL_stands_131 hl (by decide) rfl (fun ls hl => ?_)
        obtain ⟨o23, h_o23, hrun⟩ := p_bnd hrun
        refine loop_133 v_zt x4 x5 x6 x8 FU (-2000000001) (r17 - 1) o23 h_o23 (fun H locs ls I hl => ?_) _ _ _ I (lv_sub hl [2, 3, 4, 5, 6, 7, 8, 9, 1, 0] rfl)
        refine lv_aload_n hx hb dL_stands_164 rfl (lv_at hl 0 rfl) ?_
        refine lv_iload hx hb dL_stands_165 (lv_at hl 6 rfl) ?_
        refine lv_iload hx hb dL_stands_167 (lv_at hl 7 rfl) ?_
        obtain ⟨r24, h_r24, hrun⟩ := p_bnd hrun
        refine jVS_i (rest := []) C (c4_alike h_r24) gL_stands_X4_alike hd4_alike hK hN (P_right I.1) rcX rfl ⟨rfl, rfl⟩ ⟨Nat.le_of_ble_eq_true rfl, Nat.le_of_ble_eq_true rfl⟩ rfl hl.1 rfl (Nat.le_of_ble_eq_true rfl) ⟨Nat.le_of_ble_eq_true rfl, Nat.le_of_ble_eq_true rfl⟩ dL_stands_169 ?_
        refine lv_iload hx hb dL_stands_172 (lv_at hl 8 rfl) ?_
        refine lv_icmp_eq (tgt := 179) hx hb dL_stands_174 rfl (fun c25 => ?_) (fun c25 => ?_)
        · have hrun := p_pos hrun c25
          refine lv_iinc (v := x8 + 1) (lv' := [(8, .int (x8 + 1)), (0, .ref (ad 0)), (1, .ref (az 0)), (2, .int x2), (3, .ref (az 2)), (4, .int x4), (5, .int x5), (6, .int x6), (9, .int o23)]) hx hb dL_stands_179 hl (k := 7) rfl rfl (by decide) rfl (fun ls hl => ?_)
          refine lv_goto (tgt := 112) hx hb dL_stands_182 rfl ?_
          exact ih (x8 + 1) out hrun K _ _ _ I (lv_sub hl [1, 2, 3, 4, 5, 6, 7, 0] rfl)
        · have hrun := p_neg hrun c25
          refine lv_iconst (v := 0) hx hb dL_stands_177 rfl ?_
          cases hrun
          cases (show _ = res from K)
          exact rE_i C hr hlk hQ I (nb01 (Or.inl rfl)) rfl dL_stands_178
  have loop_9 : ∀ (n : Nat) (v_zt : Nat → Int32) (x4 : Int32) (x5 : Int32) (x6 : Int32) (out : (Int32 × (Nat → Int32)) ⊕ ((Nat → Int32) × Int32 × Int32)), P_stands_9 v_zw v_roadCount v_wn v_wv x2 n v_zt x4 x5 x6 = some out → sK out (fun r9 => r9 = res) (fun o9 => ∀ (H : Heap) (locs : List Loc) (ls : Array Slot), IM D (va_A (WZ0 az ad fa ca wad cI cR cG v_wn) sz) s.heap H locs (WZ az ad fa ca wad cI cR cG v_zw v_zd o9.1 v_roadCount v_readings v_psize v_good v_pbits v_letters v_afterLetter v_codes v_disc v_rsize v_cycleCount v_fo v_cy v_s v_closed v_traces v_crossings v_db_bits v_db_size v_db_allBits v_db_a v_db_b v_db_c v_db_d v_dn_bits v_dn_size v_dn_allBits v_dn_a v_dn_b v_dn_c v_dn_d v_wn v_wv) → lv_has ls 11 [(0, .ref (ad 0)), (2, .int x2), (4, .int o9.2.1), (5, .int o9.2.2)] → W p l e rm_stands s m args below meth c H locs 0 0 Q (F0 m 191 ls [])) → ∀ (H : Heap) (locs : List Loc) (ls : Array Slot), IM D (va_A (WZ0 az ad fa ca wad cI cR cG v_wn) sz) s.heap H locs (WZ az ad fa ca wad cI cR cG v_zw v_zd v_zt v_roadCount v_readings v_psize v_good v_pbits v_letters v_afterLetter v_codes v_disc v_rsize v_cycleCount v_fo v_cy v_s v_closed v_traces v_crossings v_db_bits v_db_size v_db_allBits v_db_a v_db_b v_db_c v_db_d v_dn_bits v_dn_size v_dn_allBits v_dn_a v_dn_b v_dn_c v_dn_d v_wn v_wv) → lv_has ls 11 [(0, .ref (ad 0)), (1, .ref (az 0)), (2, .int x2), (3, .ref (az 2)), (4, .int x4), (5, .int x5), (6, .int x6)] → W p l e rm_stands s m args below meth c H locs 0 0 Q (F0 m 9 ls []) := by
    intro n
    induction n with
    | zero =>
      intro v_zt x4 x5 x6 out hrun K H locs ls I hl
      cases hrun
    | succ n ih =>
      intro v_zt x4 x5 x6 out hrun K H locs ls I hl
      rw [P_stands_9] at hrun
      refine lv_iload hx hb dL_stands_9 (lv_at hl 6 rfl) ?_
      refine lv_iload_n hx hb dL_stands_11 rfl (lv_at hl 2 rfl) ?_
      refine lv_icmp_ge (tgt := 191) hx hb dL_stands_12 rfl (fun c1 => ?_) (fun c1 => ?_)
      · have hrun := p_pos hrun c1
        cases hrun
        exact K _ _ _ I (lv_sub hl [0, 2, 4, 5] rfl)
      · have hrun := p_neg hrun c1
        refine lv_aload_n hx hb dL_stands_15 rfl (lv_at hl 0 rfl) ?_
        refine lv_iload hx hb dL_stands_16 (lv_at hl 6 rfl) ?_
        refine lv_aload_n hx hb dL_stands_18 rfl (lv_at hl 1 rfl) ?_
        refine lv_iload hx hb dL_stands_19 (lv_at hl 6 rfl) ?_
        obtain ⟨b2, hrun⟩ := p_chk hrun
        refine ldZ_zw C hK I.1 b2 dL_stands_21 ?_
        refine lv_aload_n hx hb dL_stands_22 rfl (lv_at hl 3 rfl) ?_
        obtain ⟨r3, h_r3, hrun⟩ := p_bnd hrun
        refine jTE_i (rest := []) C (c_road h_r3) gL_stands_L_road hd_road hK hN hD hA I rfl ⟨rfl, rfl⟩ ⟨Nat.le_of_ble_eq_true rfl, Nat.le_of_ble_eq_true rfl⟩ rfl hl.1 rfl (Nat.le_of_ble_eq_true rfl) ⟨Nat.le_of_ble_eq_true rfl, Nat.le_of_ble_eq_true rfl⟩ dL_stands_23 (fun H locs I => ?_)
        refine lv_if_ne (tgt := 31) hx hb dL_stands_26 rfl (fun c4 => ?_) (fun c4 => ?_)
        · have hrun := p_neg hrun c4
          refine lv_iload hx hb dL_stands_31 (lv_at hl 4 rfl) ?_
          refine lv_aload_n hx hb dL_stands_33 rfl (lv_at hl 1 rfl) ?_
          refine lv_iload hx hb dL_stands_34 (lv_at hl 6 rfl) ?_
          obtain ⟨b5, hrun⟩ := p_chk hrun
          refine ldZ_zw C hK I.1 b5 dL_stands_36 ?_
          obtain ⟨r6, h_r6, hrun⟩ := p_bnd hrun
          refine jSS_i (rest := [.int x4]) C (c_isClosed h_r6) gL_stands_L_isClosed hd_isClosed rfl ⟨rfl, rfl⟩ ⟨Nat.le_of_ble_eq_true rfl, Nat.le_of_ble_eq_true rfl⟩ rfl hl.1 rfl (Nat.le_of_ble_eq_true rfl) ⟨Nat.le_of_ble_eq_true rfl, Nat.le_of_ble_eq_true rfl⟩ dL_stands_37 ?_
          refine lv_if_eq (tgt := 47) hx hb dL_stands_40 rfl (fun c7 => ?_) (fun c7 => ?_)
          · have hrun := p_pos hrun c7
            refine lv_iconst (v := 0) hx hb dL_stands_47 rfl ?_
            refine lv_iadd hx hb dL_stands_48 ?_
            refine lv_istore (lv' := [(4, .int (x4 + 0)), (0, .ref (ad 0)), (1, .ref (az 0)), (2, .int x2), (3, .ref (az 2)), (5, .int x5), (6, .int x6)]) hx hb dL_stands_49 hl (by decide) rfl (fun ls hl => ?_)
            refine lv_iconst (v := 1) hx hb dL_stands_51 rfl ?_
            refine lv_istore (lv' := [(7, .int 1), (4, .int (x4 + 0)), (0, .ref (ad 0)), (1, .ref (az 0)), (2, .int x2), (3, .ref (az 2)), (5, .int x5), (6, .int x6)]) hx hb dL_stands_52 hl (by decide) rfl (fun ls hl => ?_)
            refine lv_iconst (v := 0) hx hb dL_stands_54 rfl ?_
            refine lv_istore (lv' := [(8, .int 0), (7, .int 1), (4, .int (x4 + 0)), (0, .ref (ad 0)), (1, .ref (az 0)), (2, .int x2), (3, .ref (az 2)), (5, .int x5), (6, .int x6)]) hx hb dL_stands_55 hl (by decide) rfl (fun ls hl => ?_)
            obtain ⟨o13, h_o13, hrun⟩ := p_bnd hrun
            refine loop_57 r3.2 (x4 + 0) x5 x6 FU 1 0 o13 h_o13 (fun H locs ls I hl => ?_) _ _ _ I (lv_sub hl [3, 4, 5, 6, 2, 7, 8, 1, 0] rfl)
            refine lv_iload hx hb dL_stands_94 (lv_at hl 5 rfl) ?_
            refine lv_iload hx hb dL_stands_96 (lv_at hl 7 rfl) ?_
            refine lv_if_eq (tgt := 105) hx hb dL_stands_98 rfl (fun c14 => ?_) (fun c14 => ?_)
            · have hrun := p_pos hrun c14
              refine lv_iconst (v := 0) hx hb dL_stands_105 rfl ?_
              refine lv_iadd hx hb dL_stands_106 ?_
              refine lv_istore (lv' := [(5, .int (x5 + 0)), (0, .ref (ad 0)), (1, .ref (az 0)), (2, .int x2), (3, .ref (az 2)), (4, .int (x4 + 0)), (6, .int x6), (7, .int o13)]) hx hb dL_stands_107 hl (by decide) rfl (fun ls hl => ?_)
              refine lv_iconst (v := 0) hx hb dL_stands_109 rfl ?_
              refine lv_istore (lv' := [(8, .int 0), (5, .int (x5 + 0)), (0, .ref (ad 0)), (1, .ref (az 0)), (2, .int x2), (3, .ref (az 2)), (4, .int (x4 + 0)), (6, .int x6), (7, .int o13)]) hx hb dL_stands_110 hl (by decide) rfl (fun ls hl => ?_)
              obtain ⟨o26, h_o26, hrun⟩ := p_sb1 hrun
              refine loop_112 r3.2 (x4 + 0) (x5 + 0) x6 FU 0 o26 h_o26 ?_ _ _ _ I (lv_sub hl [2, 3, 4, 5, 6, 1, 7, 0] rfl)
              rcases o26 with r9 | o26
              · have hrun : out = Sum.inl r9 := hrun
                subst hrun
                exact K
              · intro H locs ls I hl
                have hrun : _ = some out := hrun
                refine lv_iinc (v := x6 + 1) (lv' := [(6, .int (x6 + 1)), (0, .ref (ad 0)), (1, .ref (az 0)), (2, .int x2), (3, .ref (az 2)), (4, .int (x4 + 0)), (5, .int (x5 + 0))]) hx hb dL_stands_185 hl (k := 6) rfl rfl (by decide) rfl (fun ls hl => ?_)
                refine lv_goto (tgt := 9) hx hb dL_stands_188 rfl ?_
                exact ih r3.2 (x4 + 0) (x5 + 0) (x6 + 1) out hrun K _ _ _ I (lv_sub hl [1, 2, 3, 4, 5, 6, 0] rfl)
            · have hrun := p_neg hrun c14
              refine lv_iconst (v := 1) hx hb dL_stands_101 rfl ?_
              refine lv_goto (tgt := 106) hx hb dL_stands_102 rfl ?_
              refine lv_iadd hx hb dL_stands_106 ?_
              refine lv_istore (lv' := [(5, .int (x5 + 1)), (0, .ref (ad 0)), (1, .ref (az 0)), (2, .int x2), (3, .ref (az 2)), (4, .int (x4 + 0)), (6, .int x6), (7, .int o13)]) hx hb dL_stands_107 hl (by decide) rfl (fun ls hl => ?_)
              refine lv_iconst (v := 0) hx hb dL_stands_109 rfl ?_
              refine lv_istore (lv' := [(8, .int 0), (5, .int (x5 + 1)), (0, .ref (ad 0)), (1, .ref (az 0)), (2, .int x2), (3, .ref (az 2)), (4, .int (x4 + 0)), (6, .int x6), (7, .int o13)]) hx hb dL_stands_110 hl (by decide) rfl (fun ls hl => ?_)
              obtain ⟨o27, h_o27, hrun⟩ := p_sb1 hrun
              refine loop_112 r3.2 (x4 + 0) (x5 + 1) x6 FU 0 o27 h_o27 ?_ _ _ _ I (lv_sub hl [2, 3, 4, 5, 6, 1, 7, 0] rfl)
              rcases o27 with r9 | o27
              · have hrun : out = Sum.inl r9 := hrun
                subst hrun
                exact K
              · intro H locs ls I hl
                have hrun : _ = some out := hrun
                refine lv_iinc (v := x6 + 1) (lv' := [(6, .int (x6 + 1)), (0, .ref (ad 0)), (1, .ref (az 0)), (2, .int x2), (3, .ref (az 2)), (4, .int (x4 + 0)), (5, .int (x5 + 1))]) hx hb dL_stands_185 hl (k := 6) rfl rfl (by decide) rfl (fun ls hl => ?_)
                refine lv_goto (tgt := 9) hx hb dL_stands_188 rfl ?_
                exact ih r3.2 (x4 + 0) (x5 + 1) (x6 + 1) out hrun K _ _ _ I (lv_sub hl [1, 2, 3, 4, 5, 6, 0] rfl)
          · have hrun := p_neg hrun c7
            refine lv_iconst (v := 1) hx hb dL_stands_43 rfl ?_
            refine lv_goto (tgt := 48) hx hb dL_stands_44 rfl ?_
            refine lv_iadd hx hb dL_stands_48 ?_
            refine lv_istore (lv' := [(4, .int (x4 + 1)), (0, .ref (ad 0)), (1, .ref (az 0)), (2, .int x2), (3, .ref (az 2)), (5, .int x5), (6, .int x6)]) hx hb dL_stands_49 hl (by decide) rfl (fun ls hl => ?_)
            refine lv_iconst (v := 1) hx hb dL_stands_51 rfl ?_
            refine lv_istore (lv' := [(7, .int 1), (4, .int (x4 + 1)), (0, .ref (ad 0)), (1, .ref (az 0)), (2, .int x2), (3, .ref (az 2)), (5, .int x5), (6, .int x6)]) hx hb dL_stands_52 hl (by decide) rfl (fun ls hl => ?_)
            refine lv_iconst (v := 0) hx hb dL_stands_54 rfl ?_
            refine lv_istore (lv' := [(8, .int 0), (7, .int 1), (4, .int (x4 + 1)), (0, .ref (ad 0)), (1, .ref (az 0)), (2, .int x2), (3, .ref (az 2)), (5, .int x5), (6, .int x6)]) hx hb dL_stands_55 hl (by decide) rfl (fun ls hl => ?_)
            obtain ⟨o28, h_o28, hrun⟩ := p_bnd hrun
            refine loop_57 r3.2 (x4 + 1) x5 x6 FU 1 0 o28 h_o28 (fun H locs ls I hl => ?_) _ _ _ I (lv_sub hl [3, 4, 5, 6, 2, 7, 8, 1, 0] rfl)
            refine lv_iload hx hb dL_stands_94 (lv_at hl 5 rfl) ?_
            refine lv_iload hx hb dL_stands_96 (lv_at hl 7 rfl) ?_
            refine lv_if_eq (tgt := 105) hx hb dL_stands_98 rfl (fun c29 => ?_) (fun c29 => ?_)
            · have hrun := p_pos hrun c29
              refine lv_iconst (v := 0) hx hb dL_stands_105 rfl ?_
              refine lv_iadd hx hb dL_stands_106 ?_
              refine lv_istore (lv' := [(5, .int (x5 + 0)), (0, .ref (ad 0)), (1, .ref (az 0)), (2, .int x2), (3, .ref (az 2)), (4, .int (x4 + 1)), (6, .int x6), (7, .int o28)]) hx hb dL_stands_107 hl (by decide) rfl (fun ls hl => ?_)
              refine lv_iconst (v := 0) hx hb dL_stands_109 rfl ?_
              refine lv_istore (lv' := [(8, .int 0), (5, .int (x5 + 0)), (0, .ref (ad 0)), (1, .ref (az 0)), (2, .int x2), (3, .ref (az 2)), (4, .int (x4 + 1)), (6, .int x6), (7, .int o28)]) hx hb dL_stands_110 hl (by decide) rfl (fun ls hl => ?_)
              obtain ⟨o30, h_o30, hrun⟩ := p_sb1 hrun
              refine loop_112 r3.2 (x4 + 1) (x5 + 0) x6 FU 0 o30 h_o30 ?_ _ _ _ I (lv_sub hl [2, 3, 4, 5, 6, 1, 7, 0] rfl)
              rcases o30 with r9 | o30
              · have hrun : out = Sum.inl r9 := hrun
                subst hrun
                exact K
              · intro H locs ls I hl
                have hrun : _ = some out := hrun
                refine lv_iinc (v := x6 + 1) (lv' := [(6, .int (x6 + 1)), (0, .ref (ad 0)), (1, .ref (az 0)), (2, .int x2), (3, .ref (az 2)), (4, .int (x4 + 1)), (5, .int (x5 + 0))]) hx hb dL_stands_185 hl (k := 6) rfl rfl (by decide) rfl (fun ls hl => ?_)
                refine lv_goto (tgt := 9) hx hb dL_stands_188 rfl ?_
                exact ih r3.2 (x4 + 1) (x5 + 0) (x6 + 1) out hrun K _ _ _ I (lv_sub hl [1, 2, 3, 4, 5, 6, 0] rfl)
            · have hrun := p_neg hrun c29
              refine lv_iconst (v := 1) hx hb dL_stands_101 rfl ?_
              refine lv_goto (tgt := 106) hx hb dL_stands_102 rfl ?_
              refine lv_iadd hx hb dL_stands_106 ?_
              refine lv_istore (lv' := [(5, .int (x5 + 1)), (0, .ref (ad 0)), (1, .ref (az 0)), (2, .int x2), (3, .ref (az 2)), (4, .int (x4 + 1)), (6, .int x6), (7, .int o28)]) hx hb dL_stands_107 hl (by decide) rfl (fun ls hl => ?_)
              refine lv_iconst (v := 0) hx hb dL_stands_109 rfl ?_
              refine lv_istore (lv' := [(8, .int 0), (5, .int (x5 + 1)), (0, .ref (ad 0)), (1, .ref (az 0)), (2, .int x2), (3, .ref (az 2)), (4, .int (x4 + 1)), (6, .int x6), (7, .int o28)]) hx hb dL_stands_110 hl (by decide) rfl (fun ls hl => ?_)
              obtain ⟨o31, h_o31, hrun⟩ := p_sb1 hrun
              refine loop_112 r3.2 (x4 + 1) (x5 + 1) x6 FU 0 o31 h_o31 ?_ _ _ _ I (lv_sub hl [2, 3, 4, 5, 6, 1, 7, 0] rfl)
              rcases o31 with r9 | o31
              · have hrun : out = Sum.inl r9 := hrun
                subst hrun
                exact K
              · intro H locs ls I hl
                have hrun : _ = some out := hrun
                refine lv_iinc (v := x6 + 1) (lv' := [(6, .int (x6 + 1)), (0, .ref (ad 0)), (1, .ref (az 0)), (2, .int x2), (3, .ref (az 2)), (4, .int (x4 + 1)), (5, .int (x5 + 1))]) hx hb dL_stands_185 hl (k := 6) rfl rfl (by decide) rfl (fun ls hl => ?_)
                refine lv_goto (tgt := 9) hx hb dL_stands_188 rfl ?_
                exact ih r3.2 (x4 + 1) (x5 + 1) (x6 + 1) out hrun K _ _ _ I (lv_sub hl [1, 2, 3, 4, 5, 6, 0] rfl)
        · have hrun := p_pos hrun c4
          refine lv_iconst (v := 0) hx hb dL_stands_29 rfl ?_
          cases hrun
          cases (show _ = res from K)
          exact rE_i C hr hlk hQ I (nb01 (Or.inl rfl)) rfl dL_stands_30
  unfold P_stands at hrun
  refine lv_iconst (v := 0) hx hb dL_stands_0 rfl ?_
  refine lv_istore (lv' := [(4, .int 0), (0, .ref (ad 0)), (1, .ref (az 0)), (2, .int x2), (3, .ref (az 2))]) hx hb dL_stands_1 hl (by decide) rfl (fun ls hl => ?_)
  refine lv_iconst (v := 0) hx hb dL_stands_3 rfl ?_
  refine lv_istore (lv' := [(5, .int 0), (4, .int 0), (0, .ref (ad 0)), (1, .ref (az 0)), (2, .int x2), (3, .ref (az 2))]) hx hb dL_stands_4 hl (by decide) rfl (fun ls hl => ?_)
  refine lv_iconst (v := 0) hx hb dL_stands_6 rfl ?_
  refine lv_istore (lv' := [(6, .int 0), (5, .int 0), (4, .int 0), (0, .ref (ad 0)), (1, .ref (az 0)), (2, .int x2), (3, .ref (az 2))]) hx hb dL_stands_7 hl (by decide) rfl (fun ls hl => ?_)
  obtain ⟨o32, h_o32, hrun⟩ := p_sb0 hrun
  refine loop_9 FU v_zt 0 0 0 o32 h_o32 ?_ _ _ _ I (lv_sub hl [3, 4, 5, 6, 2, 1, 0] rfl)
  rcases o32 with r9 | o32
  · exact hrun
  · intro H locs ls I hl
    have hrun : _ = some res := hrun
    refine lv_aload_n hx hb dL_stands_191 rfl (lv_at hl 0 rfl) ?_
    refine lv_iconst (v := 0) hx hb dL_stands_192 rfl ?_
    obtain ⟨r33, h_r33, hrun⟩ := p_bnd hrun
    refine jVS_i (rest := []) C (c4_count h_r33) gL_stands_X4_count hd4_count hK hN (P_right I.1) rcX rfl ⟨rfl, rfl⟩ ⟨Nat.le_of_ble_eq_true rfl, Nat.le_of_ble_eq_true rfl⟩ rfl hl.1 rfl (Nat.le_of_ble_eq_true rfl) ⟨Nat.le_of_ble_eq_true rfl, Nat.le_of_ble_eq_true rfl⟩ dL_stands_193 ?_
    refine lv_iload_n hx hb dL_stands_196 rfl (lv_at hl 1 rfl) ?_
    refine lv_icmp_ne (tgt := 339) hx hb dL_stands_197 rfl (fun c34 => ?_) (fun c34 => ?_)
    · have hrun := p_neg hrun c34
      refine lv_iconst (v := 0) hx hb dL_stands_339 rfl ?_
      cases hrun
      exact rE_i C hr hlk hQ I (nb01 (Or.inl rfl)) rfl dL_stands_340
    · have hrun := p_pos hrun c34
      refine lv_aload_n hx hb dL_stands_200 rfl (lv_at hl 0 rfl) ?_
      refine lv_iconst (v := 1) hx hb dL_stands_201 rfl ?_
      obtain ⟨r35, h_r35, hrun⟩ := p_bnd hrun
      refine jVS_i (rest := []) C (c4_count h_r35) gL_stands_X4_count hd4_count hK hN (P_right I.1) rcX rfl ⟨rfl, rfl⟩ ⟨Nat.le_of_ble_eq_true rfl, Nat.le_of_ble_eq_true rfl⟩ rfl hl.1 rfl (Nat.le_of_ble_eq_true rfl) ⟨Nat.le_of_ble_eq_true rfl, Nat.le_of_ble_eq_true rfl⟩ dL_stands_202 ?_
      refine lv_iload hx hb dL_stands_205 (lv_at hl 2 rfl) ?_
      refine lv_icmp_ne (tgt := 339) hx hb dL_stands_207 rfl (fun c36 => ?_) (fun c36 => ?_)
      · have hrun := p_neg hrun c36
        refine lv_iconst (v := 0) hx hb dL_stands_339 rfl ?_
        cases hrun
        exact rE_i C hr hlk hQ I (nb01 (Or.inl rfl)) rfl dL_stands_340
      · have hrun := p_pos hrun c36
        refine lv_aload_n hx hb dL_stands_210 rfl (lv_at hl 0 rfl) ?_
        refine lv_iconst (v := 2) hx hb dL_stands_211 rfl ?_
        obtain ⟨r37, h_r37, hrun⟩ := p_bnd hrun
        refine jVS_i (rest := []) C (c4_count h_r37) gL_stands_X4_count hd4_count hK hN (P_right I.1) rcX rfl ⟨rfl, rfl⟩ ⟨Nat.le_of_ble_eq_true rfl, Nat.le_of_ble_eq_true rfl⟩ rfl hl.1 rfl (Nat.le_of_ble_eq_true rfl) ⟨Nat.le_of_ble_eq_true rfl, Nat.le_of_ble_eq_true rfl⟩ dL_stands_212 ?_
        refine lv_iload hx hb dL_stands_215 (lv_at hl 3 rfl) ?_
        refine lv_icmp_ne (tgt := 339) hx hb dL_stands_217 rfl (fun c38 => ?_) (fun c38 => ?_)
        · have hrun := p_neg hrun c38
          refine lv_iconst (v := 0) hx hb dL_stands_339 rfl ?_
          cases hrun
          exact rE_i C hr hlk hQ I (nb01 (Or.inl rfl)) rfl dL_stands_340
        · have hrun := p_pos hrun c38
          refine lv_aload_n hx hb dL_stands_220 rfl (lv_at hl 0 rfl) ?_
          refine lv_iload_n hx hb dL_stands_221 rfl (lv_at hl 1 rfl) ?_
          refine lv_iconst (v := 0) hx hb dL_stands_222 rfl ?_
          obtain ⟨r39, h_r39, hrun⟩ := p_bnd hrun
          refine jVS_i (rest := []) C (c4_road h_r39) gL_stands_X4_road hd4_road hK hN (P_right I.1) rcX rfl ⟨rfl, rfl⟩ ⟨Nat.le_of_ble_eq_true rfl, Nat.le_of_ble_eq_true rfl⟩ rfl hl.1 rfl (Nat.le_of_ble_eq_true rfl) ⟨Nat.le_of_ble_eq_true rfl, Nat.le_of_ble_eq_true rfl⟩ dL_stands_223 ?_
          refine lv_ldc (v := (-2000000101)) hx hb C.2.2.2.1 (C.2.2.2.2 _ k_stands_84) dL_stands_226 ?_
          refine lv_icmp_ne (tgt := 339) hx hb dL_stands_228 rfl (fun c40 => ?_) (fun c40 => ?_)
          · have hrun := p_neg hrun c40
            refine lv_iconst (v := 0) hx hb dL_stands_339 rfl ?_
            cases hrun
            exact rE_i C hr hlk hQ I (nb01 (Or.inl rfl)) rfl dL_stands_340
          · have hrun := p_pos hrun c40
            refine lv_aload_n hx hb dL_stands_231 rfl (lv_at hl 0 rfl) ?_
            refine lv_iconst (v := (-1)) hx hb dL_stands_232 rfl ?_
            refine lv_iconst (v := 0) hx hb dL_stands_233 rfl ?_
            obtain ⟨r41, h_r41, hrun⟩ := p_bnd hrun
            refine jVS_i (rest := []) C (c4_road h_r41) gL_stands_X4_road hd4_road hK hN (P_right I.1) rcX rfl ⟨rfl, rfl⟩ ⟨Nat.le_of_ble_eq_true rfl, Nat.le_of_ble_eq_true rfl⟩ rfl hl.1 rfl (Nat.le_of_ble_eq_true rfl) ⟨Nat.le_of_ble_eq_true rfl, Nat.le_of_ble_eq_true rfl⟩ dL_stands_234 ?_
            refine lv_ldc (v := (-2000000101)) hx hb C.2.2.2.1 (C.2.2.2.2 _ k_stands_84) dL_stands_237 ?_
            refine lv_icmp_ne (tgt := 339) hx hb dL_stands_239 rfl (fun c42 => ?_) (fun c42 => ?_)
            · have hrun := p_neg hrun c42
              refine lv_iconst (v := 0) hx hb dL_stands_339 rfl ?_
              cases hrun
              exact rE_i C hr hlk hQ I (nb01 (Or.inl rfl)) rfl dL_stands_340
            · have hrun := p_pos hrun c42
              refine lv_aload_n hx hb dL_stands_242 rfl (lv_at hl 0 rfl) ?_
              refine lv_iload_n hx hb dL_stands_243 rfl (lv_at hl 1 rfl) ?_
              refine lv_iconst (v := 0) hx hb dL_stands_244 rfl ?_
              obtain ⟨r43, h_r43, hrun⟩ := p_bnd hrun
              refine jVS_i (rest := []) C (c4_sign h_r43) gL_stands_X4_sign hd4_sign hK hN (P_right I.1) rcX rfl ⟨rfl, rfl⟩ ⟨Nat.le_of_ble_eq_true rfl, Nat.le_of_ble_eq_true rfl⟩ rfl hl.1 rfl (Nat.le_of_ble_eq_true rfl) ⟨Nat.le_of_ble_eq_true rfl, Nat.le_of_ble_eq_true rfl⟩ dL_stands_245 ?_
              refine lv_ldc (v := (-2000000101)) hx hb C.2.2.2.1 (C.2.2.2.2 _ k_stands_84) dL_stands_248 ?_
              refine lv_icmp_ne (tgt := 339) hx hb dL_stands_250 rfl (fun c44 => ?_) (fun c44 => ?_)
              · have hrun := p_neg hrun c44
                refine lv_iconst (v := 0) hx hb dL_stands_339 rfl ?_
                cases hrun
                exact rE_i C hr hlk hQ I (nb01 (Or.inl rfl)) rfl dL_stands_340
              · have hrun := p_pos hrun c44
                refine lv_aload_n hx hb dL_stands_253 rfl (lv_at hl 0 rfl) ?_
                refine lv_iload_n hx hb dL_stands_254 rfl (lv_at hl 1 rfl) ?_
                refine lv_iconst (v := 0) hx hb dL_stands_255 rfl ?_
                obtain ⟨r45, h_r45, hrun⟩ := p_bnd hrun
                refine jVS_i (rest := []) C (c4_table h_r45) gL_stands_X4_table hd4_table hK hN (P_right I.1) rcX rfl ⟨rfl, rfl⟩ ⟨Nat.le_of_ble_eq_true rfl, Nat.le_of_ble_eq_true rfl⟩ rfl hl.1 rfl (Nat.le_of_ble_eq_true rfl) ⟨Nat.le_of_ble_eq_true rfl, Nat.le_of_ble_eq_true rfl⟩ dL_stands_256 ?_
                refine lv_ldc (v := (-2000000101)) hx hb C.2.2.2.1 (C.2.2.2.2 _ k_stands_84) dL_stands_259 ?_
                refine lv_icmp_ne (tgt := 339) hx hb dL_stands_261 rfl (fun c46 => ?_) (fun c46 => ?_)
                · have hrun := p_neg hrun c46
                  refine lv_iconst (v := 0) hx hb dL_stands_339 rfl ?_
                  cases hrun
                  exact rE_i C hr hlk hQ I (nb01 (Or.inl rfl)) rfl dL_stands_340
                · have hrun := p_pos hrun c46
                  refine lv_aload_n hx hb dL_stands_264 rfl (lv_at hl 0 rfl) ?_
                  refine lv_iload_n hx hb dL_stands_265 rfl (lv_at hl 1 rfl) ?_
                  refine lv_bipush (v := 9) hx hb dL_stands_266 rfl ?_
                  obtain ⟨r47, h_r47, hrun⟩ := p_bnd hrun
                  refine jVS_i (rest := []) C (c4_form h_r47) gL_stands_X4_form hd4_form hK hN (P_right I.1) rcX rfl ⟨rfl, rfl⟩ ⟨Nat.le_of_ble_eq_true rfl, Nat.le_of_ble_eq_true rfl⟩ rfl hl.1 rfl (Nat.le_of_ble_eq_true rfl) ⟨Nat.le_of_ble_eq_true rfl, Nat.le_of_ble_eq_true rfl⟩ dL_stands_268 ?_
                  refine lv_ldc (v := (-2000000101)) hx hb C.2.2.2.1 (C.2.2.2.2 _ k_stands_84) dL_stands_271 ?_
                  refine lv_icmp_ne (tgt := 339) hx hb dL_stands_273 rfl (fun c48 => ?_) (fun c48 => ?_)
                  · have hrun := p_neg hrun c48
                    refine lv_iconst (v := 0) hx hb dL_stands_339 rfl ?_
                    cases hrun
                    exact rE_i C hr hlk hQ I (nb01 (Or.inl rfl)) rfl dL_stands_340
                  · have hrun := p_pos hrun c48
                    refine lv_aload_n hx hb dL_stands_276 rfl (lv_at hl 0 rfl) ?_
                    refine lv_iload_n hx hb dL_stands_277 rfl (lv_at hl 1 rfl) ?_
                    refine lv_iconst (v := 0) hx hb dL_stands_278 rfl ?_
                    obtain ⟨r49, h_r49, hrun⟩ := p_bnd hrun
                    refine jVS_i (rest := []) C (c4_end h_r49) gL_stands_X4_end hd4_end hK hN (P_right I.1) rcX rfl ⟨rfl, rfl⟩ ⟨Nat.le_of_ble_eq_true rfl, Nat.le_of_ble_eq_true rfl⟩ rfl hl.1 rfl (Nat.le_of_ble_eq_true rfl) ⟨Nat.le_of_ble_eq_true rfl, Nat.le_of_ble_eq_true rfl⟩ dL_stands_279 ?_
                    refine lv_ldc (v := (-2000000101)) hx hb C.2.2.2.1 (C.2.2.2.2 _ k_stands_84) dL_stands_282 ?_
                    refine lv_icmp_ne (tgt := 339) hx hb dL_stands_284 rfl (fun c50 => ?_) (fun c50 => ?_)
                    · have hrun := p_neg hrun c50
                      refine lv_iconst (v := 0) hx hb dL_stands_339 rfl ?_
                      cases hrun
                      exact rE_i C hr hlk hQ I (nb01 (Or.inl rfl)) rfl dL_stands_340
                    · have hrun := p_pos hrun c50
                      refine lv_aload_n hx hb dL_stands_287 rfl (lv_at hl 0 rfl) ?_
                      refine lv_iload_n hx hb dL_stands_288 rfl (lv_at hl 1 rfl) ?_
                      refine lv_iconst (v := 0) hx hb dL_stands_289 rfl ?_
                      obtain ⟨r51, h_r51, hrun⟩ := p_bnd hrun
                      refine jVS_i (rest := []) C (c4_alike h_r51) gL_stands_X4_alike hd4_alike hK hN (P_right I.1) rcX rfl ⟨rfl, rfl⟩ ⟨Nat.le_of_ble_eq_true rfl, Nat.le_of_ble_eq_true rfl⟩ rfl hl.1 rfl (Nat.le_of_ble_eq_true rfl) ⟨Nat.le_of_ble_eq_true rfl, Nat.le_of_ble_eq_true rfl⟩ dL_stands_290 ?_
                      refine lv_ldc (v := (-2000000101)) hx hb C.2.2.2.1 (C.2.2.2.2 _ k_stands_84) dL_stands_293 ?_
                      refine lv_icmp_ne (tgt := 339) hx hb dL_stands_295 rfl (fun c52 => ?_) (fun c52 => ?_)
                      · have hrun := p_neg hrun c52
                        refine lv_iconst (v := 0) hx hb dL_stands_339 rfl ?_
                        cases hrun
                        exact rE_i C hr hlk hQ I (nb01 (Or.inl rfl)) rfl dL_stands_340
                      · have hrun := p_pos hrun c52
                        refine lv_aload_n hx hb dL_stands_298 rfl (lv_at hl 0 rfl) ?_
                        refine lv_iconst (v := 0) hx hb dL_stands_299 rfl ?_
                        refine lv_iload_n hx hb dL_stands_300 rfl (lv_at hl 1 rfl) ?_
                        obtain ⟨r53, h_r53, hrun⟩ := p_bnd hrun
                        refine jVS_i (rest := []) C (c4_cross h_r53) gL_stands_X4_cross hd4_cross hK hN (P_right I.1) rcX rfl ⟨rfl, rfl⟩ ⟨Nat.le_of_ble_eq_true rfl, Nat.le_of_ble_eq_true rfl⟩ rfl hl.1 rfl (Nat.le_of_ble_eq_true rfl) ⟨Nat.le_of_ble_eq_true rfl, Nat.le_of_ble_eq_true rfl⟩ dL_stands_301 ?_
                        refine lv_ldc (v := (-2000000101)) hx hb C.2.2.2.1 (C.2.2.2.2 _ k_stands_84) dL_stands_304 ?_
                        refine lv_icmp_ne (tgt := 339) hx hb dL_stands_306 rfl (fun c54 => ?_) (fun c54 => ?_)
                        · have hrun := p_neg hrun c54
                          refine lv_iconst (v := 0) hx hb dL_stands_339 rfl ?_
                          cases hrun
                          exact rE_i C hr hlk hQ I (nb01 (Or.inl rfl)) rfl dL_stands_340
                        · have hrun := p_pos hrun c54
                          refine lv_iload_n hx hb dL_stands_309 rfl (lv_at hl 1 rfl) ?_
                          refine lv_if_eq (tgt := 335) hx hb dL_stands_310 rfl (fun c55 => ?_) (fun c55 => ?_)
                          · have hrun := p_pos hrun c55
                            refine lv_iconst (v := 1) hx hb dL_stands_335 rfl ?_
                            refine lv_goto (tgt := 340) hx hb dL_stands_336 rfl ?_
                            cases hrun
                            exact rE_i C hr hlk hQ I (nb01 (Or.inr rfl)) rfl dL_stands_340
                          · have hrun := p_neg hrun c55
                            refine lv_aload_n hx hb dL_stands_313 rfl (lv_at hl 0 rfl) ?_
                            refine lv_iconst (v := 0) hx hb dL_stands_314 rfl ?_
                            refine lv_iconst (v := 4) hx hb dL_stands_315 rfl ?_
                            obtain ⟨r56, h_r56, hrun⟩ := p_bnd hrun
                            refine jVS_i (rest := []) C (c4_table h_r56) gL_stands_X4_table hd4_table hK hN (P_right I.1) rcX rfl ⟨rfl, rfl⟩ ⟨Nat.le_of_ble_eq_true rfl, Nat.le_of_ble_eq_true rfl⟩ rfl hl.1 rfl (Nat.le_of_ble_eq_true rfl) ⟨Nat.le_of_ble_eq_true rfl, Nat.le_of_ble_eq_true rfl⟩ dL_stands_316 ?_
                            refine lv_ldc (v := (-2000000102)) hx hb C.2.2.2.1 (C.2.2.2.2 _ k_stands_68) dL_stands_319 ?_
                            refine lv_icmp_ne (tgt := 339) hx hb dL_stands_321 rfl (fun c57 => ?_) (fun c57 => ?_)
                            · have hrun := p_neg hrun c57
                              refine lv_iconst (v := 0) hx hb dL_stands_339 rfl ?_
                              cases hrun
                              exact rE_i C hr hlk hQ I (nb01 (Or.inl rfl)) rfl dL_stands_340
                            · have hrun := p_pos hrun c57
                              refine lv_aload_n hx hb dL_stands_324 rfl (lv_at hl 0 rfl) ?_
                              refine lv_iconst (v := 0) hx hb dL_stands_325 rfl ?_
                              refine lv_iconst (v := 2) hx hb dL_stands_326 rfl ?_
                              obtain ⟨r58, h_r58, hrun⟩ := p_bnd hrun
                              refine jVS_i (rest := []) C (c4_end h_r58) gL_stands_X4_end hd4_end hK hN (P_right I.1) rcX rfl ⟨rfl, rfl⟩ ⟨Nat.le_of_ble_eq_true rfl, Nat.le_of_ble_eq_true rfl⟩ rfl hl.1 rfl (Nat.le_of_ble_eq_true rfl) ⟨Nat.le_of_ble_eq_true rfl, Nat.le_of_ble_eq_true rfl⟩ dL_stands_327 ?_
                              refine lv_ldc (v := (-2000000102)) hx hb C.2.2.2.1 (C.2.2.2.2 _ k_stands_68) dL_stands_330 ?_
                              refine lv_icmp_ne (tgt := 339) hx hb dL_stands_332 rfl (fun c59 => ?_) (fun c59 => ?_)
                              · have hrun := p_neg hrun c59
                                refine lv_iconst (v := 0) hx hb dL_stands_339 rfl ?_
                                cases hrun
                                exact rE_i C hr hlk hQ I (nb01 (Or.inl rfl)) rfl dL_stands_340
                              · have hrun := p_pos hrun c59
                                refine lv_iconst (v := 1) hx hb dL_stands_335 rfl ?_
                                refine lv_goto (tgt := 340) hx hb dL_stands_336 rfl ?_
                                cases hrun
                                exact rE_i C hr hlk hQ I (nb01 (Or.inr rfl)) rfl dL_stands_340

end Z94
