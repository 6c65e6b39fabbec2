section Z93
variable {l : Launch} {D : va_G} {sz : Nat}
variable {az ad fa ca wad : Nat → Nat} {cI cR cG : ClassId}
variable {v_roadCount v_readings v_psize v_good v_pbits v_letters v_afterLetter v_disc v_rsize v_cycleCount v_closed v_traces v_crossings v_db_bits v_db_size v_db_allBits v_db_a v_db_b v_db_c v_db_d v_dn_bits v_dn_size v_dn_allBits v_dn_a v_dn_b v_dn_c v_dn_d : Int32}
variable {v_s : Int64}
variable {v_zw v_zd v_zt v_codes : Nat → Int32}
variable {v_fo v_cy v_wv : Nat → Nat → Int32}
variable {v_wn : Nat}
abbrev rm_road : Room := { frames := 5, cells := 0, slots := 0, locals := 109 }
theorem k_road_68 : Cond.constant RL 68 (-2000000102) ∈ wsL_road := by decide +kernel
theorem k_road_83 : Cond.constant RL 83 (-2000000103) ∈ wsL_road := by decide +kernel
theorem k_road_84 : Cond.constant RL 84 (-2000000101) ∈ wsL_road := by decide +kernel
theorem k_road_85 : Cond.constantLong RL 85 4 ∈ wsL_road := by decide +kernel
theorem hd_road : okD yL_road 4 := by decide +kernel
set_option maxHeartbeats 8000000 in
set_option maxRecDepth 100000 in
theorem c_road {x1 : Int32} {x2 : Int32} {res : Int32 × (Nat → Int32)} (hrun : P_road v_zt v_roadCount v_wn v_wv x1 x2 = some res) : Met l yL_road wsL_road rm_road (va_Pc [.ref (ad 0), .int x1, .int x2, .ref (az 2)] (PE D (tyX cI cR cG) sz (WZ0 az ad fa ca wad cI cR cG v_wn) (WZ az ad fa ca wad cI cR cG v_zw v_zd v_zt v_roadCount v_readings v_psize v_good v_pbits v_letters v_afterLetter v_codes v_disc v_rsize v_cycleCount v_fo v_cy v_s v_closed v_traces v_crossings v_db_bits v_db_size v_db_allBits v_db_a v_db_b v_db_c v_db_d v_dn_bits v_dn_size v_dn_allBits v_dn_a v_dn_b v_dn_c v_dn_d v_wn v_wv))) (va_Qi (fun (x : Int32) (_ : Unit) => x = res.1) (fun _ t => va_P D vwCl (WZ az ad fa ca wad cI cR cG v_zw v_zd res.2 v_roadCount v_readings v_psize v_good v_pbits v_letters v_afterLetter v_codes v_disc v_rsize v_cycleCount v_fo v_cy v_s v_closed v_traces v_crossings v_db_bits v_db_size v_db_allBits v_db_a v_db_b v_db_c v_db_d v_dn_bits v_dn_size v_dn_allBits v_dn_a v_dn_b v_dn_c v_dn_d v_wn v_wv) t.heap) (va_A (WZ0 az ad fa ca wad cI cR cG v_wn) sz)) 0 0 (va_A (WZ0 az ad fa ca wad cI cR cG v_wn) sz) := by
  refine E_in (cc := cL_road) (maxL := 12) (ret := (some .boolean)) (by decide) rfl (Nat.le_of_ble_eq_true rfl) ?_
  intro p e s m args below meth c ls Q hQ C hr hlk hK hN hD hA I hl
  have C : CallFix p m c cL_road 12 s args wsL_road RL := C
  have hx := C.1
  have hb := C.2.1
  have hl : lv_has ls 12 [(0, .ref (ad 0)), (1, .int x1), (2, .int x2), (3, .ref (az 2))] := hl
  have loop_9 : ∀ (v_zt : Nat → Int32) (x4 : Int32) (n : Nat) (x5 : Int32) (out : Int32), P_road_9 x2 n x5 = some out → (∀ (H : Heap) (locs : List Loc) (ls : Array Slot), IM D (va_A (WZ0 az ad fa ca wad cI cR cG v_wn) sz) s.heap H locs (WZ az ad fa ca wad cI cR cG v_zw v_zd v_zt v_roadCount v_readings v_psize v_good v_pbits v_letters v_afterLetter v_codes v_disc v_rsize v_cycleCount v_fo v_cy v_s v_closed v_traces v_crossings v_db_bits v_db_size v_db_allBits v_db_a v_db_b v_db_c v_db_d v_dn_bits v_dn_size v_dn_allBits v_dn_a v_dn_b v_dn_c v_dn_d v_wn v_wv) → lv_has ls 12 [(0, .ref (ad 0)), (1, .int x1), (2, .int x2), (3, .ref (az 2)), (4, .int x4), (5, .int out)] → W p l e rm_road s m args below meth c H locs 0 0 Q (F0 m 28 ls [])) → ∀ (H : Heap) (locs : List Loc) (ls : Array Slot), IM D (va_A (WZ0 az ad fa ca wad cI cR cG v_wn) sz) s.heap H locs (WZ az ad fa ca wad cI cR cG v_zw v_zd v_zt v_roadCount v_readings v_psize v_good v_pbits v_letters v_afterLetter v_codes v_disc v_rsize v_cycleCount v_fo v_cy v_s v_closed v_traces v_crossings v_db_bits v_db_size v_db_allBits v_db_a v_db_b v_db_c v_db_d v_dn_bits v_dn_size v_dn_allBits v_dn_a v_dn_b v_dn_c v_dn_d v_wn v_wv) → lv_has ls 12 [(0, .ref (ad 0)), (1, .int x1), (2, .int x2), (3, .ref (az 2)), (4, .int x4), (5, .int x5)] → W p l e rm_road s m args below meth c H locs 0 0 Q (F0 m 9 ls []) := by
    intro v_zt x4 n
    induction n with
    | zero =>
      intro x5 out hrun K H locs ls I hl
      cases hrun
    | succ n ih =>
      intro x5 out hrun K H locs ls I hl
      rw [P_road_9] at hrun
      refine lv_iload_n hx hb dL_road_9 rfl (lv_at hl 2 rfl) ?_
      refine lv_iload hx hb dL_road_10 (lv_at hl 5 rfl) ?_
      obtain ⟨r2, h_r2, hrun⟩ := p_bnd hrun
      refine jSS_i (rest := []) C (c_turned h_r2) gL_road_L_turned hd_turned rfl ⟨rfl, rfl⟩ ⟨Nat.le_of_ble_eq_true rfl, Nat.le_of_ble_eq_true rfl⟩ rfl hl.1 rfl (Nat.le_of_ble_eq_true rfl) ⟨Nat.le_of_ble_eq_true rfl, Nat.le_of_ble_eq_true rfl⟩ dL_road_12 ?_
      refine lv_iload_n hx hb dL_road_15 rfl (lv_at hl 2 rfl) ?_
      obtain ⟨r3, h_r3, hrun⟩ := p_bnd hrun
      refine jSS_i (rest := [.int r2]) C (c_least h_r3) gL_road_L_least hd_least rfl ⟨rfl, rfl⟩ ⟨Nat.le_of_ble_eq_true rfl, Nat.le_of_ble_eq_true rfl⟩ rfl hl.1 rfl (Nat.le_of_ble_eq_true rfl) ⟨Nat.le_of_ble_eq_true rfl, Nat.le_of_ble_eq_true rfl⟩ dL_road_16 ?_
      refine lv_icmp_eq (tgt := 28) hx hb dL_road_19 rfl (fun c4 => ?_) (fun c4 => ?_)
      · have hrun := p_pos hrun c4
        cases hrun
        exact K _ _ _ I (lv_sub hl [0, 1, 2, 3, 4, 5] rfl)
      · have hrun := p_neg hrun c4
        refine lv_iinc (v := x5 + 1) (lv' := [(5, .int (x5 + 1)), (0, .ref (ad 0)), (1, .int x1), (2, .int x2), (3, .ref (az 2)), (4, .int x4)]) hx hb dL_road_22 hl (k := 5) rfl rfl (by decide) rfl (fun ls hl => ?_)
        refine lv_goto (tgt := 9) hx hb dL_road_25 rfl ?_
        exact ih (x5 + 1) out hrun K _ _ _ I (lv_sub hl [1, 2, 3, 4, 5, 0] rfl)
  have loop_235 : ∀ (v_zt : Nat → Int32) (x4 : Int32) (n : Nat) (x6 : Int32) (out : (Int32 × (Nat → Int32)) ⊕ (Unit)), P_road_235 v_zt v_roadCount v_wn v_wv x1 x2 x4 n x6 = some out → sK out (fun r9 => r9 = res) (fun o9 => ∀ (H : Heap) (locs : List Loc) (ls : Array Slot), IM D (va_A (WZ0 az ad fa ca wad cI cR cG v_wn) sz) s.heap H locs (WZ az ad fa ca wad cI cR cG v_zw v_zd v_zt v_roadCount v_readings v_psize v_good v_pbits v_letters v_afterLetter v_codes v_disc v_rsize v_cycleCount v_fo v_cy v_s v_closed v_traces v_crossings v_db_bits v_db_size v_db_allBits v_db_a v_db_b v_db_c v_db_d v_dn_bits v_dn_size v_dn_allBits v_dn_a v_dn_b v_dn_c v_dn_d v_wn v_wv) → lv_has ls 12 [(0, .ref (ad 0)), (1, .int x1), (2, .int x2), (3, .ref (az 2)), (4, .int x4)] → W p l e rm_road s m args below meth c H locs 0 0 Q (F0 m 277 ls [])) → ∀ (H : Heap) (locs : List Loc) (ls : Array Slot), IM D (va_A (WZ0 az ad fa ca wad cI cR cG v_wn) sz) s.heap H locs (WZ az ad fa ca wad cI cR cG v_zw v_zd v_zt v_roadCount v_readings v_psize v_good v_pbits v_letters v_afterLetter v_codes v_disc v_rsize v_cycleCount v_fo v_cy v_s v_closed v_traces v_crossings v_db_bits v_db_size v_db_allBits v_db_a v_db_b v_db_c v_db_d v_dn_bits v_dn_size v_dn_allBits v_dn_a v_dn_b v_dn_c v_dn_d v_wn v_wv) → lv_has ls 12 [(0, .ref (ad 0)), (1, .int x1), (2, .int x2), (3, .ref (az 2)), (4, .int x4), (6, .int x6)] → W p l e rm_road s m args below meth c H locs 0 0 Q (F0 m 235 ls []) := by
    intro v_zt x4 n
    induction n with
    | zero =>
      intro x6 out hrun K H locs ls I hl
      cases hrun
    | succ n ih =>
      intro x6 out hrun K H locs ls I hl
      rw [P_road_235] at hrun
      refine lv_iload hx hb dL_road_235 (lv_at hl 5 rfl) ?_
      refine lv_iload hx hb dL_road_237 (lv_at hl 4 rfl) ?_
      refine lv_icmp_ge (tgt := 277) hx hb dL_road_239 rfl (fun c46 => ?_) (fun c46 => ?_)
      · have hrun := p_pos hrun c46
        cases hrun
        exact K _ _ _ I (lv_sub hl [0, 1, 2, 3, 4] rfl)
      · have hrun := p_neg hrun c46
        refine lv_aload_n hx hb dL_road_242 rfl (lv_at hl 0 rfl) ?_
        refine lv_iload_n hx hb dL_road_243 rfl (lv_at hl 1 rfl) ?_
        refine lv_iload hx hb dL_road_244 (lv_at hl 5 rfl) ?_
        obtain ⟨r47, h_r47, hrun⟩ := p_bnd hrun
        refine jVS_i (rest := []) C (c4_sign h_r47) gL_road_X4_sign hd4_sign hK hN (P_right I.1) rcX rfl ⟨rfl, rfl⟩ ⟨Nat.le_of_ble_eq_true rfl, Nat.le_of_ble_eq_true rfl⟩ rfl hl.1 rfl (Nat.le_of_ble_eq_true rfl) ⟨Nat.le_of_ble_eq_true rfl, Nat.le_of_ble_eq_true rfl⟩ dL_road_246 ?_
        refine lv_iload_n hx hb dL_road_249 rfl (lv_at hl 2 rfl) ?_
        refine lv_iload hx hb dL_road_250 (lv_at hl 5 rfl) ?_
        obtain ⟨r48, h_r48, hrun⟩ := p_bnd hrun
        refine jSS_i (rest := [.int r47]) C (c_bit h_r48) gL_road_L_bit hd_bit rfl ⟨rfl, rfl⟩ ⟨Nat.le_of_ble_eq_true rfl, Nat.le_of_ble_eq_true rfl⟩ rfl hl.1 rfl (Nat.le_of_ble_eq_true rfl) ⟨Nat.le_of_ble_eq_true rfl, Nat.le_of_ble_eq_true rfl⟩ dL_road_252 ?_
        refine lv_iconst (v := 1) hx hb dL_road_255 rfl ?_
        refine lv_icmp_ne (tgt := 264) hx hb dL_road_256 rfl (fun c49 => ?_) (fun c49 => ?_)
        · have hrun := p_neg hrun c49
          refine lv_bipush (v := 76) hx hb dL_road_264 rfl ?_
          refine lv_icmp_eq (tgt := 271) hx hb dL_road_266 rfl (fun c50 => ?_) (fun c50 => ?_)
          · have hrun := p_pos hrun c50
            refine lv_iinc (v := x6 + 1) (lv' := [(6, .int (x6 + 1)), (0, .ref (ad 0)), (1, .int x1), (2, .int x2), (3, .ref (az 2)), (4, .int x4)]) hx hb dL_road_271 hl (k := 5) rfl rfl (by decide) rfl (fun ls hl => ?_)
            refine lv_goto (tgt := 235) hx hb dL_road_274 rfl ?_
            exact ih (x6 + 1) out hrun K _ _ _ I (lv_sub hl [1, 2, 3, 4, 5, 0] rfl)
          · have hrun := p_neg hrun c50
            refine lv_iconst (v := 0) hx hb dL_road_269 rfl ?_
            cases hrun
            cases (show _ = res from K)
            exact rE_i C hr hlk hQ I (nb01 (Or.inl rfl)) rfl dL_road_270
        · have hrun := p_pos hrun c49
          refine lv_bipush (v := 82) hx hb dL_road_259 rfl ?_
          refine lv_goto (tgt := 266) hx hb dL_road_261 rfl ?_
          refine lv_icmp_eq (tgt := 271) hx hb dL_road_266 rfl (fun c51 => ?_) (fun c51 => ?_)
          · have hrun := p_pos hrun c51
            refine lv_iinc (v := x6 + 1) (lv' := [(6, .int (x6 + 1)), (0, .ref (ad 0)), (1, .int x1), (2, .int x2), (3, .ref (az 2)), (4, .int x4)]) hx hb dL_road_271 hl (k := 5) rfl rfl (by decide) rfl (fun ls hl => ?_)
            refine lv_goto (tgt := 235) hx hb dL_road_274 rfl ?_
            exact ih (x6 + 1) out hrun K _ _ _ I (lv_sub hl [1, 2, 3, 4, 5, 0] rfl)
          · have hrun := p_neg hrun c51
            refine lv_iconst (v := 0) hx hb dL_road_269 rfl ?_
            cases hrun
            cases (show _ = res from K)
            exact rE_i C hr hlk hQ I (nb01 (Or.inl rfl)) rfl dL_road_270
  have loop_280 : ∀ (v_zt : Nat → Int32) (x4 : Int32) (n : Nat) (x6 : Int32) (out : (Int32 × (Nat → Int32)) ⊕ (Unit)), P_road_280 v_zt v_roadCount v_wn v_wv x1 n x6 = some out → sK out (fun r9 => r9 = res) (fun o9 => ∀ (H : Heap) (locs : List Loc) (ls : Array Slot), IM D (va_A (WZ0 az ad fa ca wad cI cR cG v_wn) sz) s.heap H locs (WZ az ad fa ca wad cI cR cG v_zw v_zd v_zt v_roadCount v_readings v_psize v_good v_pbits v_letters v_afterLetter v_codes v_disc v_rsize v_cycleCount v_fo v_cy v_s v_closed v_traces v_crossings v_db_bits v_db_size v_db_allBits v_db_a v_db_b v_db_c v_db_d v_dn_bits v_dn_size v_dn_allBits v_dn_a v_dn_b v_dn_c v_dn_d v_wn v_wv) → lv_has ls 12 [(0, .ref (ad 0)), (1, .int x1), (2, .int x2), (3, .ref (az 2)), (4, .int x4)] → W p l e rm_road s m args below meth c H locs 0 0 Q (F0 m 308 ls [])) → ∀ (H : Heap) (locs : List Loc) (ls : Array Slot), IM D (va_A (WZ0 az ad fa ca wad cI cR cG v_wn) sz) s.heap H locs (WZ az ad fa ca wad cI cR cG v_zw v_zd v_zt v_roadCount v_readings v_psize v_good v_pbits v_letters v_afterLetter v_codes v_disc v_rsize v_cycleCount v_fo v_cy v_s v_closed v_traces v_crossings v_db_bits v_db_size v_db_allBits v_db_a v_db_b v_db_c v_db_d v_dn_bits v_dn_size v_dn_allBits v_dn_a v_dn_b v_dn_c v_dn_d v_wn v_wv) → lv_has ls 12 [(0, .ref (ad 0)), (1, .int x1), (2, .int x2), (3, .ref (az 2)), (4, .int x4), (6, .int x6)] → W p l e rm_road s m args below meth c H locs 0 0 Q (F0 m 280 ls []) := by
    intro v_zt x4 n
    induction n with
    | zero =>
      intro x6 out hrun K H locs ls I hl
      cases hrun
    | succ n ih =>
      intro x6 out hrun K H locs ls I hl
      rw [P_road_280] at hrun
      refine lv_iload hx hb dL_road_280 (lv_at hl 5 rfl) ?_
      refine lv_iconst (v := 4) hx hb dL_road_282 rfl ?_
      refine lv_icmp_ge (tgt := 308) hx hb dL_road_283 rfl (fun c53 => ?_) (fun c53 => ?_)
      · have hrun := p_pos hrun c53
        cases hrun
        exact K _ _ _ I (lv_sub hl [0, 1, 2, 3, 4] rfl)
      · have hrun := p_neg hrun c53
        refine lv_aload_n hx hb dL_road_286 rfl (lv_at hl 0 rfl) ?_
        refine lv_iload_n hx hb dL_road_287 rfl (lv_at hl 1 rfl) ?_
        refine lv_iload hx hb dL_road_288 (lv_at hl 5 rfl) ?_
        obtain ⟨r54, h_r54, hrun⟩ := p_bnd hrun
        refine jVS_i (rest := []) C (c4_table h_r54) gL_road_X4_table hd4_table hK hN (P_right I.1) rcX rfl ⟨rfl, rfl⟩ ⟨Nat.le_of_ble_eq_true rfl, Nat.le_of_ble_eq_true rfl⟩ rfl hl.1 rfl (Nat.le_of_ble_eq_true rfl) ⟨Nat.le_of_ble_eq_true rfl, Nat.le_of_ble_eq_true rfl⟩ dL_road_290 ?_
        refine lv_aload_n hx hb dL_road_293 rfl (lv_at hl 3 rfl) ?_
        refine lv_iload hx hb dL_road_294 (lv_at hl 5 rfl) ?_
        obtain ⟨b55, hrun⟩ := p_chk hrun
        refine ldZ_zt C hK I.1 b55 dL_road_296 ?_
        refine lv_icmp_eq (tgt := 302) hx hb dL_road_297 rfl (fun c56 => ?_) (fun c56 => ?_)
        · have hrun := p_pos hrun c56
          refine lv_iinc (v := x6 + 1) (lv' := [(6, .int (x6 + 1)), (0, .ref (ad 0)), (1, .int x1), (2, .int x2), (3, .ref (az 2)), (4, .int x4)]) hx hb dL_road_302 hl (k := 5) rfl rfl (by decide) rfl (fun ls hl => ?_)
          refine lv_goto (tgt := 280) hx hb dL_road_305 rfl ?_
          exact ih (x6 + 1) out hrun K _ _ _ I (lv_sub hl [1, 2, 3, 4, 5, 0] rfl)
        · have hrun := p_neg hrun c56
          refine lv_iconst (v := 0) hx hb dL_road_300 rfl ?_
          cases hrun
          cases (show _ = res from K)
          exact rE_i C hr hlk hQ I (nb01 (Or.inl rfl)) rfl dL_road_301
  have join_215 : ∀ (v_zt : Nat → Int32) (x4 : Int32) (s0 : Int32) (s1 : Int32) (H : Heap) (locs : List Loc) (ls : Array Slot), P_road_J215 v_zt v_roadCount v_wn v_wv x1 x2 x4 s0 s1 = some res → IM D (va_A (WZ0 az ad fa ca wad cI cR cG v_wn) sz) s.heap H locs (WZ az ad fa ca wad cI cR cG v_zw v_zd v_zt v_roadCount v_readings v_psize v_good v_pbits v_letters v_afterLetter v_codes v_disc v_rsize v_cycleCount v_fo v_cy v_s v_closed v_traces v_crossings v_db_bits v_db_size v_db_allBits v_db_a v_db_b v_db_c v_db_d v_dn_bits v_dn_size v_dn_allBits v_dn_a v_dn_b v_dn_c v_dn_d v_wn v_wv) → lv_has ls 12 [(0, .ref (ad 0)), (1, .int x1), (2, .int x2), (3, .ref (az 2)), (4, .int x4)] → W p l e rm_road s m args below meth c H locs 0 0 Q (F0 m 215 ls [.int s0, .int s1]) := by
    intro v_zt x4 s0 s1 H locs ls hrun I hl
    unfold P_road_J215 at hrun
    refine lv_icmp_ne (tgt := 230) hx hb dL_road_215 rfl (fun c43 => ?_) (fun c43 => ?_)
    · have hrun := p_neg hrun c43
      refine lv_iconst (v := 0) hx hb dL_road_230 rfl ?_
      cases hrun
      exact rE_i C hr hlk hQ I (nb01 (Or.inl rfl)) rfl dL_road_231
    · have hrun := p_pos hrun c43
      refine lv_aload_n hx hb dL_road_218 rfl (lv_at hl 0 rfl) ?_
      refine lv_iload_n hx hb dL_road_219 rfl (lv_at hl 1 rfl) ?_
      refine lv_bipush (v := 10) hx hb dL_road_220 rfl ?_
      obtain ⟨r44, h_r44, hrun⟩ := p_bnd hrun
      refine jVS_i (rest := []) C (c4_road h_r44) gL_road_X4_road hd4_road hK hN (P_right I.1) rcX rfl ⟨rfl, rfl⟩ ⟨Nat.le_of_ble_eq_true rfl, Nat.le_of_ble_eq_true rfl⟩ rfl hl.1 rfl (Nat.le_of_ble_eq_true rfl) ⟨Nat.le_of_ble_eq_true rfl, Nat.le_of_ble_eq_true rfl⟩ dL_road_222 ?_
      refine lv_ldc (v := (-2000000102)) hx hb C.2.2.2.1 (C.2.2.2.2 _ k_road_68) dL_road_225 ?_
      refine lv_icmp_eq (tgt := 232) hx hb dL_road_227 rfl (fun c45 => ?_) (fun c45 => ?_)
      · have hrun := p_pos hrun c45
        refine lv_iconst (v := 0) hx hb dL_road_232 rfl ?_
        refine lv_istore (lv' := [(6, .int 0), (0, .ref (ad 0)), (1, .int x1), (2, .int x2), (3, .ref (az 2)), (4, .int x4)]) hx hb dL_road_233 hl (by decide) rfl (fun ls hl => ?_)
        obtain ⟨o52, h_o52, hrun⟩ := p_sb0 hrun
        refine loop_235 v_zt x4 FU 0 o52 h_o52 ?_ _ _ _ I (lv_sub hl [1, 2, 3, 4, 5, 0] rfl)
        rcases o52 with r9 | o52
        · exact hrun
        · intro H locs ls I hl
          have hrun : _ = some res := hrun
          refine lv_iconst (v := 0) hx hb dL_road_277 rfl ?_
          refine lv_istore (lv' := [(6, .int 0), (0, .ref (ad 0)), (1, .int x1), (2, .int x2), (3, .ref (az 2)), (4, .int x4)]) hx hb dL_road_278 hl (by decide) rfl (fun ls hl => ?_)
          obtain ⟨o57, h_o57, hrun⟩ := p_sb0 hrun
          refine loop_280 v_zt x4 FU 0 o57 h_o57 ?_ _ _ _ I (lv_sub hl [1, 2, 3, 4, 5, 0] rfl)
          rcases o57 with r9 | o57
          · exact hrun
          · intro H locs ls I hl
            have hrun : _ = some res := hrun
            refine lv_aload_n hx hb dL_road_308 rfl (lv_at hl 3 rfl) ?_
            refine lv_iconst (v := 0) hx hb dL_road_309 rfl ?_
            obtain ⟨b58, hrun⟩ := p_chk hrun
            refine ldZ_zt C hK I.1 b58 dL_road_310 ?_
            refine lv_i2l (v := Int32.toInt64 (v_zt (Int32.toNatClampNeg 0))) hx hb dL_road_311 rfl ?_
            refine lv_aload_n hx hb dL_road_312 rfl (lv_at hl 3 rfl) ?_
            refine lv_iconst (v := 3) hx hb dL_road_313 rfl ?_
            obtain ⟨b59, hrun⟩ := p_chk hrun
            refine ldZ_zt C hK I.1 b59 dL_road_314 ?_
            refine lv_i2l (v := Int32.toInt64 (v_zt (Int32.toNatClampNeg 3))) hx hb dL_road_315 rfl ?_
            refine lv_lmul hx hb dL_road_316 ?_
            refine lv_aload_n hx hb dL_road_317 rfl (lv_at hl 3 rfl) ?_
            refine lv_iconst (v := 1) hx hb dL_road_318 rfl ?_
            obtain ⟨b60, hrun⟩ := p_chk hrun
            refine ldZ_zt C hK I.1 b60 dL_road_319 ?_
            refine lv_i2l (v := Int32.toInt64 (v_zt (Int32.toNatClampNeg 1))) hx hb dL_road_320 rfl ?_
            refine lv_aload_n hx hb dL_road_321 rfl (lv_at hl 3 rfl) ?_
            refine lv_iconst (v := 2) hx hb dL_road_322 rfl ?_
            obtain ⟨b61, hrun⟩ := p_chk hrun
            refine ldZ_zt C hK I.1 b61 dL_road_323 ?_
            refine lv_i2l (v := Int32.toInt64 (v_zt (Int32.toNatClampNeg 2))) hx hb dL_road_324 rfl ?_
            refine lv_lmul hx hb dL_road_325 ?_
            refine lv_lsub hx hb dL_road_326 ?_
            refine lv_lconst (v := 1) hx hb dL_road_327 rfl ?_
            refine W.lcmp hx hb dL_road_328 ?_
            refine lv_if_ne (tgt := 385) hx hb dL_road_329 rfl (fun c62 => ?_) (fun c62 => ?_)
            · have hrun := p_neg hrun c62
              refine lv_iconst (v := 0) hx hb dL_road_385 rfl ?_
              cases hrun
              exact rE_i C hr hlk hQ I (nb01 (Or.inl rfl)) rfl dL_road_386
            · have hrun := p_pos hrun c62
              refine lv_aload_n hx hb dL_road_332 rfl (lv_at hl 0 rfl) ?_
              refine lv_iload_n hx hb dL_road_333 rfl (lv_at hl 1 rfl) ?_
              refine lv_iconst (v := 0) hx hb dL_road_334 rfl ?_
              obtain ⟨r63, h_r63, hrun⟩ := p_bnd hrun
              refine jVS_i (rest := []) C (c4_end h_r63) gL_road_X4_end hd4_end hK hN (P_right I.1) rcX rfl ⟨rfl, rfl⟩ ⟨Nat.le_of_ble_eq_true rfl, Nat.le_of_ble_eq_true rfl⟩ rfl hl.1 rfl (Nat.le_of_ble_eq_true rfl) ⟨Nat.le_of_ble_eq_true rfl, Nat.le_of_ble_eq_true rfl⟩ dL_road_335 ?_
              refine lv_aload_n hx hb dL_road_338 rfl (lv_at hl 3 rfl) ?_
              refine lv_iconst (v := 0) hx hb dL_road_339 rfl ?_
              obtain ⟨b64, hrun⟩ := p_chk hrun
              refine ldZ_zt C hK I.1 b64 dL_road_340 ?_
              refine lv_aload_n hx hb dL_road_341 rfl (lv_at hl 3 rfl) ?_
              refine lv_iconst (v := 1) hx hb dL_road_342 rfl ?_
              obtain ⟨b65, hrun⟩ := p_chk hrun
              refine ldZ_zt C hK I.1 b65 dL_road_343 ?_
              refine lv_iadd hx hb dL_road_344 ?_
              refine lv_icmp_ne (tgt := 385) hx hb dL_road_345 rfl (fun c66 => ?_) (fun c66 => ?_)
              · have hrun := p_neg hrun c66
                refine lv_iconst (v := 0) hx hb dL_road_385 rfl ?_
                cases hrun
                exact rE_i C hr hlk hQ I (nb01 (Or.inl rfl)) rfl dL_road_386
              · have hrun := p_pos hrun c66
                refine lv_aload_n hx hb dL_road_348 rfl (lv_at hl 0 rfl) ?_
                refine lv_iload_n hx hb dL_road_349 rfl (lv_at hl 1 rfl) ?_
                refine lv_iconst (v := 1) hx hb dL_road_350 rfl ?_
                obtain ⟨r67, h_r67, hrun⟩ := p_bnd hrun
                refine jVS_i (rest := []) C (c4_end h_r67) gL_road_X4_end hd4_end hK hN (P_right I.1) rcX rfl ⟨rfl, rfl⟩ ⟨Nat.le_of_ble_eq_true rfl, Nat.le_of_ble_eq_true rfl⟩ rfl hl.1 rfl (Nat.le_of_ble_eq_true rfl) ⟨Nat.le_of_ble_eq_true rfl, Nat.le_of_ble_eq_true rfl⟩ dL_road_351 ?_
                refine lv_aload_n hx hb dL_road_354 rfl (lv_at hl 3 rfl) ?_
                refine lv_iconst (v := 2) hx hb dL_road_355 rfl ?_
                obtain ⟨b68, hrun⟩ := p_chk hrun
                refine ldZ_zt C hK I.1 b68 dL_road_356 ?_
                refine lv_aload_n hx hb dL_road_357 rfl (lv_at hl 3 rfl) ?_
                refine lv_iconst (v := 3) hx hb dL_road_358 rfl ?_
                obtain ⟨b69, hrun⟩ := p_chk hrun
                refine ldZ_zt C hK I.1 b69 dL_road_359 ?_
                refine lv_iadd hx hb dL_road_360 ?_
                refine lv_icmp_ne (tgt := 385) hx hb dL_road_361 rfl (fun c70 => ?_) (fun c70 => ?_)
                · have hrun := p_neg hrun c70
                  refine lv_iconst (v := 0) hx hb dL_road_385 rfl ?_
                  cases hrun
                  exact rE_i C hr hlk hQ I (nb01 (Or.inl rfl)) rfl dL_road_386
                · have hrun := p_pos hrun c70
                  refine lv_aload_n hx hb dL_road_364 rfl (lv_at hl 3 rfl) ?_
                  refine lv_iconst (v := 0) hx hb dL_road_365 rfl ?_
                  obtain ⟨b71, hrun⟩ := p_chk hrun
                  refine ldZ_zt C hK I.1 b71 dL_road_366 ?_
                  refine lv_aload_n hx hb dL_road_367 rfl (lv_at hl 3 rfl) ?_
                  refine lv_iconst (v := 1) hx hb dL_road_368 rfl ?_
                  obtain ⟨b72, hrun⟩ := p_chk hrun
                  refine ldZ_zt C hK I.1 b72 dL_road_369 ?_
                  refine lv_iadd hx hb dL_road_370 ?_
                  refine lv_aload_n hx hb dL_road_371 rfl (lv_at hl 3 rfl) ?_
                  refine lv_iconst (v := 2) hx hb dL_road_372 rfl ?_
                  obtain ⟨b73, hrun⟩ := p_chk hrun
                  refine ldZ_zt C hK I.1 b73 dL_road_373 ?_
                  refine lv_aload_n hx hb dL_road_374 rfl (lv_at hl 3 rfl) ?_
                  refine lv_iconst (v := 3) hx hb dL_road_375 rfl ?_
                  obtain ⟨b74, hrun⟩ := p_chk hrun
                  refine ldZ_zt C hK I.1 b74 dL_road_376 ?_
                  refine lv_iadd hx hb dL_road_377 ?_
                  obtain ⟨r75, h_r75, hrun⟩ := p_bnd hrun
                  refine jSS_i (rest := []) C (c_gcd h_r75) gL_road_L_gcd hd_gcd rfl ⟨rfl, rfl⟩ ⟨Nat.le_of_ble_eq_true rfl, Nat.le_of_ble_eq_true rfl⟩ rfl hl.1 rfl (Nat.le_of_ble_eq_true rfl) ⟨Nat.le_of_ble_eq_true rfl, Nat.le_of_ble_eq_true rfl⟩ dL_road_378 ?_
                  refine lv_iconst (v := 1) hx hb dL_road_381 rfl ?_
                  refine lv_icmp_eq (tgt := 387) hx hb dL_road_382 rfl (fun c76 => ?_) (fun c76 => ?_)
                  · have hrun := p_pos hrun c76
                    refine lv_iload_n hx hb dL_road_387 rfl (lv_at hl 2 rfl) ?_
                    obtain ⟨r77, h_r77, hrun⟩ := p_bnd hrun
                    refine jSS_i (rest := []) C (c_isClosed h_r77) gL_road_L_isClosed hd_isClosed rfl ⟨rfl, rfl⟩ ⟨Nat.le_of_ble_eq_true rfl, Nat.le_of_ble_eq_true rfl⟩ rfl hl.1 rfl (Nat.le_of_ble_eq_true rfl) ⟨Nat.le_of_ble_eq_true rfl, Nat.le_of_ble_eq_true rfl⟩ dL_road_388 ?_
                    refine lv_if_ne (tgt := 445) hx hb dL_road_391 rfl (fun c78 => ?_) (fun c78 => ?_)
                    · have hrun := p_neg hrun c78
                      refine lv_aload_n hx hb dL_road_445 rfl (lv_at hl 3 rfl) ?_
                      refine lv_iconst (v := 2) hx hb dL_road_446 rfl ?_
                      obtain ⟨b79, hrun⟩ := p_chk hrun
                      refine ldZ_zt C hK I.1 b79 dL_road_447 ?_
                      refine lv_aload_n hx hb dL_road_448 rfl (lv_at hl 3 rfl) ?_
                      refine lv_iconst (v := 3) hx hb dL_road_449 rfl ?_
                      obtain ⟨b80, hrun⟩ := p_chk hrun
                      refine ldZ_zt C hK I.1 b80 dL_road_450 ?_
                      refine lv_aload_n hx hb dL_road_451 rfl (lv_at hl 3 rfl) ?_
                      refine lv_iconst (v := 0) hx hb dL_road_452 rfl ?_
                      obtain ⟨b81, hrun⟩ := p_chk hrun
                      refine ldZ_zt C hK I.1 b81 dL_road_453 ?_
                      refine lv_isub hx hb dL_road_454 ?_
                      obtain ⟨r82, h_r82, hrun⟩ := p_bnd hrun
                      refine jSS_i (rest := []) C (c_gcd h_r82) gL_road_L_gcd hd_gcd rfl ⟨rfl, rfl⟩ ⟨Nat.le_of_ble_eq_true rfl, Nat.le_of_ble_eq_true rfl⟩ rfl hl.1 rfl (Nat.le_of_ble_eq_true rfl) ⟨Nat.le_of_ble_eq_true rfl, Nat.le_of_ble_eq_true rfl⟩ dL_road_455 ?_
                      refine lv_aload_n hx hb dL_road_458 rfl (lv_at hl 3 rfl) ?_
                      refine lv_iconst (v := 1) hx hb dL_road_459 rfl ?_
                      obtain ⟨b83, hrun⟩ := p_chk hrun
                      refine ldZ_zt C hK I.1 b83 dL_road_460 ?_
                      obtain ⟨r84, h_r84, hrun⟩ := p_bnd hrun
                      refine jSS_i (rest := []) C (c_gcd h_r84) gL_road_L_gcd hd_gcd rfl ⟨rfl, rfl⟩ ⟨Nat.le_of_ble_eq_true rfl, Nat.le_of_ble_eq_true rfl⟩ rfl hl.1 rfl (Nat.le_of_ble_eq_true rfl) ⟨Nat.le_of_ble_eq_true rfl, Nat.le_of_ble_eq_true rfl⟩ dL_road_461 ?_
                      refine lv_istore (lv' := [(6, .int r84), (0, .ref (ad 0)), (1, .int x1), (2, .int x2), (3, .ref (az 2)), (4, .int x4)]) hx hb dL_road_464 hl (by decide) rfl (fun ls hl => ?_)
                      refine lv_aload_n hx hb dL_road_466 rfl (lv_at hl 4 rfl) ?_
                      refine lv_iconst (v := 2) hx hb dL_road_467 rfl ?_
                      obtain ⟨b85, hrun⟩ := p_chk hrun
                      refine ldZ_zt C hK I.1 b85 dL_road_468 ?_
                      refine lv_iload hx hb dL_road_469 (lv_at hl 0 rfl) ?_
                      obtain ⟨z86, hrun⟩ := p_chk hrun
                      refine lv_idiv hx hb dL_road_471 z86 ?_
                      refine lv_istore (lv' := [(7, .int ((v_zt (Int32.toNatClampNeg 2)) / r84)), (6, .int r84), (0, .ref (ad 0)), (1, .int x1), (2, .int x2), (3, .ref (az 2)), (4, .int x4)]) hx hb dL_road_472 hl (by decide) rfl (fun ls hl => ?_)
                      refine lv_aload_n hx hb dL_road_474 rfl (lv_at hl 5 rfl) ?_
                      refine lv_iconst (v := 3) hx hb dL_road_475 rfl ?_
                      obtain ⟨b87, hrun⟩ := p_chk hrun
                      refine ldZ_zt C hK I.1 b87 dL_road_476 ?_
                      refine lv_aload_n hx hb dL_road_477 rfl (lv_at hl 5 rfl) ?_
                      refine lv_iconst (v := 0) hx hb dL_road_478 rfl ?_
                      obtain ⟨b88, hrun⟩ := p_chk hrun
                      refine ldZ_zt C hK I.1 b88 dL_road_479 ?_
                      refine lv_isub hx hb dL_road_480 ?_
                      refine lv_iload hx hb dL_road_481 (lv_at hl 1 rfl) ?_
                      obtain ⟨z89, hrun⟩ := p_chk hrun
                      refine lv_idiv hx hb dL_road_483 z89 ?_
                      refine lv_istore (lv' := [(8, .int (((v_zt (Int32.toNatClampNeg 3)) - (v_zt (Int32.toNatClampNeg 0))) / r84)), (7, .int ((v_zt (Int32.toNatClampNeg 2)) / r84)), (6, .int r84), (0, .ref (ad 0)), (1, .int x1), (2, .int x2), (3, .ref (az 2)), (4, .int x4)]) hx hb dL_road_484 hl (by decide) rfl (fun ls hl => ?_)
                      refine lv_aload_n hx hb dL_road_486 rfl (lv_at hl 6 rfl) ?_
                      refine lv_iconst (v := 1) hx hb dL_road_487 rfl ?_
                      obtain ⟨b90, hrun⟩ := p_chk hrun
                      refine ldZ_zt C hK I.1 b90 dL_road_488 ?_
                      refine lv_ineg hx hb dL_road_489 ?_
                      refine lv_iload hx hb dL_road_490 (lv_at hl 2 rfl) ?_
                      obtain ⟨z91, hrun⟩ := p_chk hrun
                      refine lv_idiv hx hb dL_road_492 z91 ?_
                      refine lv_istore (lv' := [(9, .int ((-(v_zt (Int32.toNatClampNeg 1))) / r84)), (8, .int (((v_zt (Int32.toNatClampNeg 3)) - (v_zt (Int32.toNatClampNeg 0))) / r84)), (7, .int ((v_zt (Int32.toNatClampNeg 2)) / r84)), (6, .int r84), (0, .ref (ad 0)), (1, .int x1), (2, .int x2), (3, .ref (az 2)), (4, .int x4)]) hx hb dL_road_493 hl (by decide) rfl (fun ls hl => ?_)
                      refine lv_aload_n hx hb dL_road_495 rfl (lv_at hl 7 rfl) ?_
                      refine lv_iconst (v := 0) hx hb dL_road_496 rfl ?_
                      obtain ⟨b92, hrun⟩ := p_chk hrun
                      refine ldZ_zt C hK I.1 b92 dL_road_497 ?_
                      refine lv_aload_n hx hb dL_road_498 rfl (lv_at hl 7 rfl) ?_
                      refine lv_iconst (v := 3) hx hb dL_road_499 rfl ?_
                      obtain ⟨b93, hrun⟩ := p_chk hrun
                      refine ldZ_zt C hK I.1 b93 dL_road_500 ?_
                      refine lv_iadd hx hb dL_road_501 ?_
                      refine lv_i2l (v := Int32.toInt64 ((v_zt (Int32.toNatClampNeg 0)) + (v_zt (Int32.toNatClampNeg 3)))) hx hb dL_road_502 rfl ?_
                      refine lv_lstore (lv' := [(10, .long (Int32.toInt64 ((v_zt (Int32.toNatClampNeg 0)) + (v_zt (Int32.toNatClampNeg 3))))), (9, .int ((-(v_zt (Int32.toNatClampNeg 1))) / r84)), (8, .int (((v_zt (Int32.toNatClampNeg 3)) - (v_zt (Int32.toNatClampNeg 0))) / r84)), (7, .int ((v_zt (Int32.toNatClampNeg 2)) / r84)), (6, .int r84), (0, .ref (ad 0)), (1, .int x1), (2, .int x2), (3, .ref (az 2)), (4, .int x4)]) hx hb dL_road_503 hl (by decide) rfl (fun ls hl => ?_)
                      refine lv_aload_n hx hb dL_road_505 rfl (lv_at hl 5 rfl) ?_
                      refine lv_iload_n hx hb dL_road_506 rfl (lv_at hl 6 rfl) ?_
                      refine lv_iconst (v := 0) hx hb dL_road_507 rfl ?_
                      obtain ⟨r94, h_r94, hrun⟩ := p_bnd hrun
                      refine jVS_i (rest := []) C (c4_form h_r94) gL_road_X4_form hd4_form hK hN (P_right I.1) rcX rfl ⟨rfl, rfl⟩ ⟨Nat.le_of_ble_eq_true rfl, Nat.le_of_ble_eq_true rfl⟩ rfl hl.1 rfl (Nat.le_of_ble_eq_true rfl) ⟨Nat.le_of_ble_eq_true rfl, Nat.le_of_ble_eq_true rfl⟩ dL_road_508 ?_
                      refine lv_iload hx hb dL_road_511 (lv_at hl 3 rfl) ?_
                      refine lv_icmp_ne (tgt := 632) hx hb dL_road_513 rfl (fun c95 => ?_) (fun c95 => ?_)
                      · have hrun := p_neg hrun c95
                        refine lv_iconst (v := 0) hx hb dL_road_632 rfl ?_
                        cases hrun
                        exact rE_i C hr hlk hQ I (nb01 (Or.inl rfl)) rfl dL_road_633
                      · have hrun := p_pos hrun c95
                        refine lv_aload_n hx hb dL_road_516 rfl (lv_at hl 5 rfl) ?_
                        refine lv_iload_n hx hb dL_road_517 rfl (lv_at hl 6 rfl) ?_
                        refine lv_iconst (v := 1) hx hb dL_road_518 rfl ?_
                        obtain ⟨r96, h_r96, hrun⟩ := p_bnd hrun
                        refine jVS_i (rest := []) C (c4_form h_r96) gL_road_X4_form hd4_form hK hN (P_right I.1) rcX rfl ⟨rfl, rfl⟩ ⟨Nat.le_of_ble_eq_true rfl, Nat.le_of_ble_eq_true rfl⟩ rfl hl.1 rfl (Nat.le_of_ble_eq_true rfl) ⟨Nat.le_of_ble_eq_true rfl, Nat.le_of_ble_eq_true rfl⟩ dL_road_519 ?_
                        refine lv_iload hx hb dL_road_522 (lv_at hl 2 rfl) ?_
                        refine lv_icmp_ne (tgt := 632) hx hb dL_road_524 rfl (fun c97 => ?_) (fun c97 => ?_)
                        · have hrun := p_neg hrun c97
                          refine lv_iconst (v := 0) hx hb dL_road_632 rfl ?_
                          cases hrun
                          exact rE_i C hr hlk hQ I (nb01 (Or.inl rfl)) rfl dL_road_633
                        · have hrun := p_pos hrun c97
                          refine lv_aload_n hx hb dL_road_527 rfl (lv_at hl 5 rfl) ?_
                          refine lv_iload_n hx hb dL_road_528 rfl (lv_at hl 6 rfl) ?_
                          refine lv_iconst (v := 2) hx hb dL_road_529 rfl ?_
                          obtain ⟨r98, h_r98, hrun⟩ := p_bnd hrun
                          refine jVS_i (rest := []) C (c4_form h_r98) gL_road_X4_form hd4_form hK hN (P_right I.1) rcX rfl ⟨rfl, rfl⟩ ⟨Nat.le_of_ble_eq_true rfl, Nat.le_of_ble_eq_true rfl⟩ rfl hl.1 rfl (Nat.le_of_ble_eq_true rfl) ⟨Nat.le_of_ble_eq_true rfl, Nat.le_of_ble_eq_true rfl⟩ dL_road_530 ?_
                          refine lv_iload hx hb dL_road_533 (lv_at hl 1 rfl) ?_
                          refine lv_icmp_ne (tgt := 632) hx hb dL_road_535 rfl (fun c99 => ?_) (fun c99 => ?_)
                          · have hrun := p_neg hrun c99
                            refine lv_iconst (v := 0) hx hb dL_road_632 rfl ?_
                            cases hrun
                            exact rE_i C hr hlk hQ I (nb01 (Or.inl rfl)) rfl dL_road_633
                          · have hrun := p_pos hrun c99
                            refine lv_aload_n hx hb dL_road_538 rfl (lv_at hl 5 rfl) ?_
                            refine lv_iload_n hx hb dL_road_539 rfl (lv_at hl 6 rfl) ?_
                            refine lv_iconst (v := 3) hx hb dL_road_540 rfl ?_
                            obtain ⟨r100, h_r100, hrun⟩ := p_bnd hrun
                            refine jVS_i (rest := []) C (c4_form h_r100) gL_road_X4_form hd4_form hK hN (P_right I.1) rcX rfl ⟨rfl, rfl⟩ ⟨Nat.le_of_ble_eq_true rfl, Nat.le_of_ble_eq_true rfl⟩ rfl hl.1 rfl (Nat.le_of_ble_eq_true rfl) ⟨Nat.le_of_ble_eq_true rfl, Nat.le_of_ble_eq_true rfl⟩ dL_road_541 ?_
                            refine lv_iload hx hb dL_road_544 (lv_at hl 4 rfl) ?_
                            refine lv_icmp_ne (tgt := 632) hx hb dL_road_546 rfl (fun c101 => ?_) (fun c101 => ?_)
                            · have hrun := p_neg hrun c101
                              refine lv_iconst (v := 0) hx hb dL_road_632 rfl ?_
                              cases hrun
                              exact rE_i C hr hlk hQ I (nb01 (Or.inl rfl)) rfl dL_road_633
                            · have hrun := p_pos hrun c101
                              refine lv_aload_n hx hb dL_road_549 rfl (lv_at hl 5 rfl) ?_
                              refine lv_iload_n hx hb dL_road_550 rfl (lv_at hl 6 rfl) ?_
                              refine lv_iconst (v := 4) hx hb dL_road_551 rfl ?_
                              obtain ⟨r102, h_r102, hrun⟩ := p_bnd hrun
                              refine jVS_i (rest := []) C (c4_form h_r102) gL_road_X4_form hd4_form hK hN (P_right I.1) rcX rfl ⟨rfl, rfl⟩ ⟨Nat.le_of_ble_eq_true rfl, Nat.le_of_ble_eq_true rfl⟩ rfl hl.1 rfl (Nat.le_of_ble_eq_true rfl) ⟨Nat.le_of_ble_eq_true rfl, Nat.le_of_ble_eq_true rfl⟩ dL_road_552 ?_
                              refine lv_iload hx hb dL_road_555 (lv_at hl 2 rfl) ?_
                              refine lv_iload hx hb dL_road_557 (lv_at hl 2 rfl) ?_
                              refine lv_imul hx hb dL_road_559 ?_
                              refine lv_iconst (v := 4) hx hb dL_road_560 rfl ?_
                              refine lv_iload hx hb dL_road_561 (lv_at hl 3 rfl) ?_
                              refine lv_imul hx hb dL_road_563 ?_
                              refine lv_iload hx hb dL_road_564 (lv_at hl 1 rfl) ?_
                              refine lv_imul hx hb dL_road_566 ?_
                              refine lv_isub hx hb dL_road_567 ?_
                              refine lv_icmp_ne (tgt := 632) hx hb dL_road_568 rfl (fun c103 => ?_) (fun c103 => ?_)
                              · have hrun := p_neg hrun c103
                                refine lv_iconst (v := 0) hx hb dL_road_632 rfl ?_
                                cases hrun
                                exact rE_i C hr hlk hQ I (nb01 (Or.inl rfl)) rfl dL_road_633
                              · have hrun := p_pos hrun c103
                                refine lv_iload hx hb dL_road_571 (lv_at hl 3 rfl) ?_
                                refine lv_if_le (tgt := 632) hx hb dL_road_573 rfl (fun c104 => ?_) (fun c104 => ?_)
                                · have hrun := p_pos hrun c104
                                  refine lv_iconst (v := 0) hx hb dL_road_632 rfl ?_
                                  cases hrun
                                  exact rE_i C hr hlk hQ I (nb01 (Or.inl rfl)) rfl dL_road_633
                                · have hrun := p_neg hrun c104
                                  refine lv_iload hx hb dL_road_576 (lv_at hl 1 rfl) ?_
                                  refine lv_if_ge (tgt := 632) hx hb dL_road_578 rfl (fun c105 => ?_) (fun c105 => ?_)
                                  · have hrun := p_pos hrun c105
                                    refine lv_iconst (v := 0) hx hb dL_road_632 rfl ?_
                                    cases hrun
                                    exact rE_i C hr hlk hQ I (nb01 (Or.inl rfl)) rfl dL_road_633
                                  · have hrun := p_neg hrun c105
                                    refine lv_lload hx hb dL_road_581 (lv_at hl 0 rfl) ?_
                                    refine lv_lload hx hb dL_road_583 (lv_at hl 0 rfl) ?_
                                    refine lv_lmul hx hb dL_road_585 ?_
                                    refine lv_ldc2 (v := 4) hx hb C.2.2.2.1 (C.2.2.2.2 _ k_road_85) dL_road_586 ?_
                                    refine lv_lsub hx hb dL_road_589 ?_
                                    refine lv_iload hx hb dL_road_590 (lv_at hl 4 rfl) ?_
                                    refine lv_i2l (v := Int32.toInt64 r84) hx hb dL_road_592 rfl ?_
                                    refine lv_iload hx hb dL_road_593 (lv_at hl 4 rfl) ?_
                                    refine lv_i2l (v := Int32.toInt64 r84) hx hb dL_road_595 rfl ?_
                                    refine lv_lmul hx hb dL_road_596 ?_
                                    refine lv_iload hx hb dL_road_597 (lv_at hl 2 rfl) ?_
                                    refine lv_iload hx hb dL_road_599 (lv_at hl 2 rfl) ?_
                                    refine lv_imul hx hb dL_road_601 ?_
                                    refine lv_iconst (v := 4) hx hb dL_road_602 rfl ?_
                                    refine lv_iload hx hb dL_road_603 (lv_at hl 3 rfl) ?_
                                    refine lv_imul hx hb dL_road_605 ?_
                                    refine lv_iload hx hb dL_road_606 (lv_at hl 1 rfl) ?_
                                    refine lv_imul hx hb dL_road_608 ?_
                                    refine lv_isub hx hb dL_road_609 ?_
                                    refine lv_i2l (v := Int32.toInt64 (((((v_zt (Int32.toNatClampNeg 3)) - (v_zt (Int32.toNatClampNeg 0))) / r84) * (((v_zt (Int32.toNatClampNeg 3)) - (v_zt (Int32.toNatClampNeg 0))) / r84)) - ((4 * ((v_zt (Int32.toNatClampNeg 2)) / r84)) * ((-(v_zt (Int32.toNatClampNeg 1))) / r84)))) hx hb dL_road_610 rfl ?_
                                    refine lv_lmul hx hb dL_road_611 ?_
                                    refine W.lcmp hx hb dL_road_612 ?_
                                    refine lv_if_ne (tgt := 632) hx hb dL_road_613 rfl (fun c106 => ?_) (fun c106 => ?_)
                                    · have hrun := p_neg hrun c106
                                      refine lv_iconst (v := 0) hx hb dL_road_632 rfl ?_
                                      cases hrun
                                      exact rE_i C hr hlk hQ I (nb01 (Or.inl rfl)) rfl dL_road_633
                                    · have hrun := p_pos hrun c106
                                      refine lv_aload_n hx hb dL_road_616 rfl (lv_at hl 5 rfl) ?_
                                      refine lv_iload_n hx hb dL_road_617 rfl (lv_at hl 6 rfl) ?_
                                      refine lv_iload hx hb dL_road_618 (lv_at hl 9 rfl) ?_
                                      obtain ⟨r107, h_r107, hrun⟩ := p_bnd hrun
                                      refine jVS_i (rest := []) C (c4_sign h_r107) gL_road_X4_sign hd4_sign hK hN (P_right I.1) rcX rfl ⟨rfl, rfl⟩ ⟨Nat.le_of_ble_eq_true rfl, Nat.le_of_ble_eq_true rfl⟩ rfl hl.1 rfl (Nat.le_of_ble_eq_true rfl) ⟨Nat.le_of_ble_eq_true rfl, Nat.le_of_ble_eq_true rfl⟩ dL_road_620 ?_
                                      refine lv_ldc (v := (-2000000101)) hx hb C.2.2.2.1 (C.2.2.2.2 _ k_road_84) dL_road_623 ?_
                                      refine lv_icmp_ne (tgt := 632) hx hb dL_road_625 rfl (fun c108 => ?_) (fun c108 => ?_)
                                      · have hrun := p_neg hrun c108
                                        refine lv_iconst (v := 0) hx hb dL_road_632 rfl ?_
                                        cases hrun
                                        exact rE_i C hr hlk hQ I (nb01 (Or.inl rfl)) rfl dL_road_633
                                      · have hrun := p_pos hrun c108
                                        refine lv_iconst (v := 1) hx hb dL_road_628 rfl ?_
                                        refine lv_goto (tgt := 633) hx hb dL_road_629 rfl ?_
                                        cases hrun
                                        exact rE_i C hr hlk hQ I (nb01 (Or.inr rfl)) rfl dL_road_633
                    · have hrun := p_pos hrun c78
                      refine lv_aload_n hx hb dL_road_394 rfl (lv_at hl 0 rfl) ?_
                      refine lv_iload_n hx hb dL_road_395 rfl (lv_at hl 1 rfl) ?_
                      refine lv_iconst (v := 0) hx hb dL_road_396 rfl ?_
                      obtain ⟨r109, h_r109, hrun⟩ := p_bnd hrun
                      refine jVS_i (rest := []) C (c4_form h_r109) gL_road_X4_form hd4_form hK hN (P_right I.1) rcX rfl ⟨rfl, rfl⟩ ⟨Nat.le_of_ble_eq_true rfl, Nat.le_of_ble_eq_true rfl⟩ rfl hl.1 rfl (Nat.le_of_ble_eq_true rfl) ⟨Nat.le_of_ble_eq_true rfl, Nat.le_of_ble_eq_true rfl⟩ dL_road_397 ?_
                      refine lv_ldc (v := (-2000000103)) hx hb C.2.2.2.1 (C.2.2.2.2 _ k_road_83) dL_road_400 ?_
                      refine lv_icmp_ne (tgt := 443) hx hb dL_road_402 rfl (fun c110 => ?_) (fun c110 => ?_)
                      · have hrun := p_neg hrun c110
                        refine lv_iconst (v := 0) hx hb dL_road_443 rfl ?_
                        cases hrun
                        exact rE_i C hr hlk hQ I (nb01 (Or.inl rfl)) rfl dL_road_444
                      · have hrun := p_pos hrun c110
                        refine lv_aload_n hx hb dL_road_405 rfl (lv_at hl 0 rfl) ?_
                        refine lv_iload_n hx hb dL_road_406 rfl (lv_at hl 1 rfl) ?_
                        refine lv_iconst (v := 5) hx hb dL_road_407 rfl ?_
                        obtain ⟨r111, h_r111, hrun⟩ := p_bnd hrun
                        refine jVS_i (rest := []) C (c4_form h_r111) gL_road_X4_form hd4_form hK hN (P_right I.1) rcX rfl ⟨rfl, rfl⟩ ⟨Nat.le_of_ble_eq_true rfl, Nat.le_of_ble_eq_true rfl⟩ rfl hl.1 rfl (Nat.le_of_ble_eq_true rfl) ⟨Nat.le_of_ble_eq_true rfl, Nat.le_of_ble_eq_true rfl⟩ dL_road_408 ?_
                        refine lv_ldc (v := (-2000000102)) hx hb C.2.2.2.1 (C.2.2.2.2 _ k_road_68) dL_road_411 ?_
                        refine lv_icmp_ne (tgt := 443) hx hb dL_road_413 rfl (fun c112 => ?_) (fun c112 => ?_)
                        · have hrun := p_neg hrun c112
                          refine lv_iconst (v := 0) hx hb dL_road_443 rfl ?_
                          cases hrun
                          exact rE_i C hr hlk hQ I (nb01 (Or.inl rfl)) rfl dL_road_444
                        · have hrun := p_pos hrun c112
                          refine lv_aload_n hx hb dL_road_416 rfl (lv_at hl 0 rfl) ?_
                          refine lv_iload_n hx hb dL_road_417 rfl (lv_at hl 1 rfl) ?_
                          refine lv_iload hx hb dL_road_418 (lv_at hl 4 rfl) ?_
                          obtain ⟨r113, h_r113, hrun⟩ := p_bnd hrun
                          refine jVS_i (rest := []) C (c4_sign h_r113) gL_road_X4_sign hd4_sign hK hN (P_right I.1) rcX rfl ⟨rfl, rfl⟩ ⟨Nat.le_of_ble_eq_true rfl, Nat.le_of_ble_eq_true rfl⟩ rfl hl.1 rfl (Nat.le_of_ble_eq_true rfl) ⟨Nat.le_of_ble_eq_true rfl, Nat.le_of_ble_eq_true rfl⟩ dL_road_420 ?_
                          refine lv_ldc (v := (-2000000101)) hx hb C.2.2.2.1 (C.2.2.2.2 _ k_road_84) dL_road_423 ?_
                          refine lv_icmp_ne (tgt := 443) hx hb dL_road_425 rfl (fun c114 => ?_) (fun c114 => ?_)
                          · have hrun := p_neg hrun c114
                            refine lv_iconst (v := 0) hx hb dL_road_443 rfl ?_
                            cases hrun
                            exact rE_i C hr hlk hQ I (nb01 (Or.inl rfl)) rfl dL_road_444
                          · have hrun := p_pos hrun c114
                            refine lv_aload_n hx hb dL_road_428 rfl (lv_at hl 0 rfl) ?_
                            refine lv_iload_n hx hb dL_road_429 rfl (lv_at hl 1 rfl) ?_
                            refine lv_iconst (v := (-1)) hx hb dL_road_430 rfl ?_
                            obtain ⟨r115, h_r115, hrun⟩ := p_bnd hrun
                            refine jVS_i (rest := []) C (c4_sign h_r115) gL_road_X4_sign hd4_sign hK hN (P_right I.1) rcX rfl ⟨rfl, rfl⟩ ⟨Nat.le_of_ble_eq_true rfl, Nat.le_of_ble_eq_true rfl⟩ rfl hl.1 rfl (Nat.le_of_ble_eq_true rfl) ⟨Nat.le_of_ble_eq_true rfl, Nat.le_of_ble_eq_true rfl⟩ dL_road_431 ?_
                            refine lv_ldc (v := (-2000000101)) hx hb C.2.2.2.1 (C.2.2.2.2 _ k_road_84) dL_road_434 ?_
                            refine lv_icmp_ne (tgt := 443) hx hb dL_road_436 rfl (fun c116 => ?_) (fun c116 => ?_)
                            · have hrun := p_neg hrun c116
                              refine lv_iconst (v := 0) hx hb dL_road_443 rfl ?_
                              cases hrun
                              exact rE_i C hr hlk hQ I (nb01 (Or.inl rfl)) rfl dL_road_444
                            · have hrun := p_pos hrun c116
                              refine lv_iconst (v := 1) hx hb dL_road_439 rfl ?_
                              refine lv_goto (tgt := 444) hx hb dL_road_440 rfl ?_
                              cases hrun
                              exact rE_i C hr hlk hQ I (nb01 (Or.inr rfl)) rfl dL_road_444
                  · have hrun := p_neg hrun c76
                    refine lv_iconst (v := 0) hx hb dL_road_385 rfl ?_
                    cases hrun
                    exact rE_i C hr hlk hQ I (nb01 (Or.inl rfl)) rfl dL_road_386
      · have hrun := p_neg hrun c45
        refine lv_iconst (v := 0) hx hb dL_road_230 rfl ?_
        cases hrun
        exact rE_i C hr hlk hQ I (nb01 (Or.inl rfl)) rfl dL_road_231
  have join_186 : ∀ (v_zt : Nat → Int32) (x4 : Int32) (s0 : Int32) (s1 : Int32) (H : Heap) (locs : List Loc) (ls : Array Slot), P_road_J186 v_zt v_roadCount v_wn v_wv x1 x2 x4 s0 s1 = some res → IM D (va_A (WZ0 az ad fa ca wad cI cR cG v_wn) sz) s.heap H locs (WZ az ad fa ca wad cI cR cG v_zw v_zd v_zt v_roadCount v_readings v_psize v_good v_pbits v_letters v_afterLetter v_codes v_disc v_rsize v_cycleCount v_fo v_cy v_s v_closed v_traces v_crossings v_db_bits v_db_size v_db_allBits v_db_a v_db_b v_db_c v_db_d v_dn_bits v_dn_size v_dn_allBits v_dn_a v_dn_b v_dn_c v_dn_d v_wn v_wv) → lv_has ls 12 [(0, .ref (ad 0)), (1, .int x1), (2, .int x2), (3, .ref (az 2)), (4, .int x4)] → W p l e rm_road s m args below meth c H locs 0 0 Q (F0 m 186 ls [.int s0, .int s1]) := by
    intro v_zt x4 s0 s1 H locs ls hrun I hl
    unfold P_road_J186 at hrun
    refine lv_icmp_ne (tgt := 230) hx hb dL_road_186 rfl (fun c37 => ?_) (fun c37 => ?_)
    · have hrun := p_neg hrun c37
      refine lv_iconst (v := 0) hx hb dL_road_230 rfl ?_
      cases hrun
      exact rE_i C hr hlk hQ I (nb01 (Or.inl rfl)) rfl dL_road_231
    · have hrun := p_pos hrun c37
      refine lv_aload_n hx hb dL_road_189 rfl (lv_at hl 0 rfl) ?_
      refine lv_iload_n hx hb dL_road_190 rfl (lv_at hl 1 rfl) ?_
      refine lv_bipush (v := 9) hx hb dL_road_191 rfl ?_
      obtain ⟨r38, h_r38, hrun⟩ := p_bnd hrun
      refine jVS_i (rest := []) C (c4_road h_r38) gL_road_X4_road hd4_road hK hN (P_right I.1) rcX rfl ⟨rfl, rfl⟩ ⟨Nat.le_of_ble_eq_true rfl, Nat.le_of_ble_eq_true rfl⟩ rfl hl.1 rfl (Nat.le_of_ble_eq_true rfl) ⟨Nat.le_of_ble_eq_true rfl, Nat.le_of_ble_eq_true rfl⟩ dL_road_193 ?_
      refine lv_iload_n hx hb dL_road_196 rfl (lv_at hl 2 rfl) ?_
      refine lv_iload_n hx hb dL_road_197 rfl (lv_at hl 2 rfl) ?_
      obtain ⟨r39, h_r39, hrun⟩ := p_bnd hrun
      refine jSS_i (rest := [.int x2, .int r38]) C (c_mirror h_r39) gL_road_L_mirror hd_mirror rfl ⟨rfl, rfl⟩ ⟨Nat.le_of_ble_eq_true rfl, Nat.le_of_ble_eq_true rfl⟩ rfl hl.1 rfl (Nat.le_of_ble_eq_true rfl) ⟨Nat.le_of_ble_eq_true rfl, Nat.le_of_ble_eq_true rfl⟩ dL_road_198 ?_
      obtain ⟨r40, h_r40, hrun⟩ := p_bnd hrun
      refine jSS_i (rest := [.int x2, .int r38]) C (c_back h_r40) gL_road_L_back hd_back rfl ⟨rfl, rfl⟩ ⟨Nat.le_of_ble_eq_true rfl, Nat.le_of_ble_eq_true rfl⟩ rfl hl.1 rfl (Nat.le_of_ble_eq_true rfl) ⟨Nat.le_of_ble_eq_true rfl, Nat.le_of_ble_eq_true rfl⟩ dL_road_201 ?_
      obtain ⟨r41, h_r41, hrun⟩ := p_bnd hrun
      refine jSS_i (rest := [.int r38]) C (c_alike h_r41) gL_road_L_alike hd_alike rfl ⟨rfl, rfl⟩ ⟨Nat.le_of_ble_eq_true rfl, Nat.le_of_ble_eq_true rfl⟩ rfl hl.1 rfl (Nat.le_of_ble_eq_true rfl) ⟨Nat.le_of_ble_eq_true rfl, Nat.le_of_ble_eq_true rfl⟩ dL_road_204 ?_
      refine lv_if_eq (tgt := 214) hx hb dL_road_207 rfl (fun c42 => ?_) (fun c42 => ?_)
      · have hrun := p_pos hrun c42
        refine lv_iconst (v := 0) hx hb dL_road_214 rfl ?_
        exact join_215 v_zt x4 0 r38 _ _ _ hrun I (lv_sub hl [0, 1, 2, 3, 4] rfl)
      · have hrun := p_neg hrun c42
        refine lv_iconst (v := 1) hx hb dL_road_210 rfl ?_
        refine lv_goto (tgt := 215) hx hb dL_road_211 rfl ?_
        exact join_215 v_zt x4 1 r38 _ _ _ hrun I (lv_sub hl [0, 1, 2, 3, 4] rfl)
  have join_160 : ∀ (v_zt : Nat → Int32) (x4 : Int32) (s0 : Int32) (s1 : Int32) (H : Heap) (locs : List Loc) (ls : Array Slot), P_road_J160 v_zt v_roadCount v_wn v_wv x1 x2 x4 s0 s1 = some res → IM D (va_A (WZ0 az ad fa ca wad cI cR cG v_wn) sz) s.heap H locs (WZ az ad fa ca wad cI cR cG v_zw v_zd v_zt v_roadCount v_readings v_psize v_good v_pbits v_letters v_afterLetter v_codes v_disc v_rsize v_cycleCount v_fo v_cy v_s v_closed v_traces v_crossings v_db_bits v_db_size v_db_allBits v_db_a v_db_b v_db_c v_db_d v_dn_bits v_dn_size v_dn_allBits v_dn_a v_dn_b v_dn_c v_dn_d v_wn v_wv) → lv_has ls 12 [(0, .ref (ad 0)), (1, .int x1), (2, .int x2), (3, .ref (az 2)), (4, .int x4)] → W p l e rm_road s m args below meth c H locs 0 0 Q (F0 m 160 ls [.int s0, .int s1]) := by
    intro v_zt x4 s0 s1 H locs ls hrun I hl
    unfold P_road_J160 at hrun
    refine lv_icmp_ne (tgt := 230) hx hb dL_road_160 rfl (fun c32 => ?_) (fun c32 => ?_)
    · have hrun := p_neg hrun c32
      refine lv_iconst (v := 0) hx hb dL_road_230 rfl ?_
      cases hrun
      exact rE_i C hr hlk hQ I (nb01 (Or.inl rfl)) rfl dL_road_231
    · have hrun := p_pos hrun c32
      refine lv_aload_n hx hb dL_road_163 rfl (lv_at hl 0 rfl) ?_
      refine lv_iload_n hx hb dL_road_164 rfl (lv_at hl 1 rfl) ?_
      refine lv_bipush (v := 8) hx hb dL_road_165 rfl ?_
      obtain ⟨r33, h_r33, hrun⟩ := p_bnd hrun
      refine jVS_i (rest := []) C (c4_road h_r33) gL_road_X4_road hd4_road hK hN (P_right I.1) rcX rfl ⟨rfl, rfl⟩ ⟨Nat.le_of_ble_eq_true rfl, Nat.le_of_ble_eq_true rfl⟩ rfl hl.1 rfl (Nat.le_of_ble_eq_true rfl) ⟨Nat.le_of_ble_eq_true rfl, Nat.le_of_ble_eq_true rfl⟩ dL_road_167 ?_
      refine lv_iload_n hx hb dL_road_170 rfl (lv_at hl 2 rfl) ?_
      refine lv_iload_n hx hb dL_road_171 rfl (lv_at hl 2 rfl) ?_
      obtain ⟨r34, h_r34, hrun⟩ := p_bnd hrun
      refine jSS_i (rest := [.int x2, .int r33]) C (c_mirror h_r34) gL_road_L_mirror hd_mirror rfl ⟨rfl, rfl⟩ ⟨Nat.le_of_ble_eq_true rfl, Nat.le_of_ble_eq_true rfl⟩ rfl hl.1 rfl (Nat.le_of_ble_eq_true rfl) ⟨Nat.le_of_ble_eq_true rfl, Nat.le_of_ble_eq_true rfl⟩ dL_road_172 ?_
      obtain ⟨r35, h_r35, hrun⟩ := p_bnd hrun
      refine jSS_i (rest := [.int r33]) C (c_alike h_r35) gL_road_L_alike hd_alike rfl ⟨rfl, rfl⟩ ⟨Nat.le_of_ble_eq_true rfl, Nat.le_of_ble_eq_true rfl⟩ rfl hl.1 rfl (Nat.le_of_ble_eq_true rfl) ⟨Nat.le_of_ble_eq_true rfl, Nat.le_of_ble_eq_true rfl⟩ dL_road_175 ?_
      refine lv_if_eq (tgt := 185) hx hb dL_road_178 rfl (fun c36 => ?_) (fun c36 => ?_)
      · have hrun := p_pos hrun c36
        refine lv_iconst (v := 0) hx hb dL_road_185 rfl ?_
        exact join_186 v_zt x4 0 r33 _ _ _ hrun I (lv_sub hl [0, 1, 2, 3, 4] rfl)
      · have hrun := p_neg hrun c36
        refine lv_iconst (v := 1) hx hb dL_road_181 rfl ?_
        refine lv_goto (tgt := 186) hx hb dL_road_182 rfl ?_
        exact join_186 v_zt x4 1 r33 _ _ _ hrun I (lv_sub hl [0, 1, 2, 3, 4] rfl)
  have join_132 : ∀ (v_zt : Nat → Int32) (x4 : Int32) (s0 : Int32) (s1 : Int32) (H : Heap) (locs : List Loc) (ls : Array Slot), P_road_J132 v_zt v_roadCount v_wn v_wv x1 x2 x4 s0 s1 = some res → IM D (va_A (WZ0 az ad fa ca wad cI cR cG v_wn) sz) s.heap H locs (WZ az ad fa ca wad cI cR cG v_zw v_zd v_zt v_roadCount v_readings v_psize v_good v_pbits v_letters v_afterLetter v_codes v_disc v_rsize v_cycleCount v_fo v_cy v_s v_closed v_traces v_crossings v_db_bits v_db_size v_db_allBits v_db_a v_db_b v_db_c v_db_d v_dn_bits v_dn_size v_dn_allBits v_dn_a v_dn_b v_dn_c v_dn_d v_wn v_wv) → lv_has ls 12 [(0, .ref (ad 0)), (1, .int x1), (2, .int x2), (3, .ref (az 2)), (4, .int x4)] → W p l e rm_road s m args below meth c H locs 0 0 Q (F0 m 132 ls [.int s0, .int s1]) := by
    intro v_zt x4 s0 s1 H locs ls hrun I hl
    unfold P_road_J132 at hrun
    refine lv_icmp_eq (tgt := 137) hx hb dL_road_132 rfl (fun c27 => ?_) (fun c27 => ?_)
    · have hrun := p_pos hrun c27
      refine lv_aload_n hx hb dL_road_137 rfl (lv_at hl 0 rfl) ?_
      refine lv_iload_n hx hb dL_road_138 rfl (lv_at hl 1 rfl) ?_
      refine lv_bipush (v := 7) hx hb dL_road_139 rfl ?_
      obtain ⟨r28, h_r28, hrun⟩ := p_bnd hrun
      refine jVS_i (rest := []) C (c4_road h_r28) gL_road_X4_road hd4_road hK hN (P_right I.1) rcX rfl ⟨rfl, rfl⟩ ⟨Nat.le_of_ble_eq_true rfl, Nat.le_of_ble_eq_true rfl⟩ rfl hl.1 rfl (Nat.le_of_ble_eq_true rfl) ⟨Nat.le_of_ble_eq_true rfl, Nat.le_of_ble_eq_true rfl⟩ dL_road_141 ?_
      refine lv_iload_n hx hb dL_road_144 rfl (lv_at hl 2 rfl) ?_
      refine lv_iload_n hx hb dL_road_145 rfl (lv_at hl 2 rfl) ?_
      obtain ⟨r29, h_r29, hrun⟩ := p_bnd hrun
      refine jSS_i (rest := [.int x2, .int r28]) C (c_back h_r29) gL_road_L_back hd_back rfl ⟨rfl, rfl⟩ ⟨Nat.le_of_ble_eq_true rfl, Nat.le_of_ble_eq_true rfl⟩ rfl hl.1 rfl (Nat.le_of_ble_eq_true rfl) ⟨Nat.le_of_ble_eq_true rfl, Nat.le_of_ble_eq_true rfl⟩ dL_road_146 ?_
      obtain ⟨r30, h_r30, hrun⟩ := p_bnd hrun
      refine jSS_i (rest := [.int r28]) C (c_alike h_r30) gL_road_L_alike hd_alike rfl ⟨rfl, rfl⟩ ⟨Nat.le_of_ble_eq_true rfl, Nat.le_of_ble_eq_true rfl⟩ rfl hl.1 rfl (Nat.le_of_ble_eq_true rfl) ⟨Nat.le_of_ble_eq_true rfl, Nat.le_of_ble_eq_true rfl⟩ dL_road_149 ?_
      refine lv_if_eq (tgt := 159) hx hb dL_road_152 rfl (fun c31 => ?_) (fun c31 => ?_)
      · have hrun := p_pos hrun c31
        refine lv_iconst (v := 0) hx hb dL_road_159 rfl ?_
        exact join_160 v_zt x4 0 r28 _ _ _ hrun I (lv_sub hl [0, 1, 2, 3, 4] rfl)
      · have hrun := p_neg hrun c31
        refine lv_iconst (v := 1) hx hb dL_road_155 rfl ?_
        refine lv_goto (tgt := 160) hx hb dL_road_156 rfl ?_
        exact join_160 v_zt x4 1 r28 _ _ _ hrun I (lv_sub hl [0, 1, 2, 3, 4] rfl)
    · have hrun := p_neg hrun c27
      refine lv_iconst (v := 0) hx hb dL_road_135 rfl ?_
      cases hrun
      exact rE_i C hr hlk hQ I (nb01 (Or.inl rfl)) rfl dL_road_136
  unfold P_road at hrun
  refine lv_iload_n hx hb dL_road_0 rfl (lv_at hl 2 rfl) ?_
  obtain ⟨r1, h_r1, hrun⟩ := p_bnd hrun
  refine jSS_i (rest := []) C (c_size h_r1) gL_road_L_size hd_size rfl ⟨rfl, rfl⟩ ⟨Nat.le_of_ble_eq_true rfl, Nat.le_of_ble_eq_true rfl⟩ rfl hl.1 rfl (Nat.le_of_ble_eq_true rfl) ⟨Nat.le_of_ble_eq_true rfl, Nat.le_of_ble_eq_true rfl⟩ dL_road_1 ?_
  refine lv_istore (lv' := [(4, .int r1), (0, .ref (ad 0)), (1, .int x1), (2, .int x2), (3, .ref (az 2))]) hx hb dL_road_4 hl (by decide) rfl (fun ls hl => ?_)
  refine lv_iconst (v := 0) hx hb dL_road_6 rfl ?_
  refine lv_istore (lv' := [(5, .int 0), (4, .int r1), (0, .ref (ad 0)), (1, .int x1), (2, .int x2), (3, .ref (az 2))]) hx hb dL_road_7 hl (by decide) rfl (fun ls hl => ?_)
  obtain ⟨o5, h_o5, hrun⟩ := p_bnd hrun
  refine loop_9 v_zt r1 FU 0 o5 h_o5 (fun H locs ls I hl => ?_) _ _ _ I (lv_sub hl [2, 3, 4, 5, 1, 0] rfl)
  refine lv_iload_n hx hb dL_road_28 rfl (lv_at hl 2 rfl) ?_
  refine lv_aload_n hx hb dL_road_29 rfl (lv_at hl 3 rfl) ?_
  obtain ⟨r6, h_r6, hrun⟩ := p_bnd hrun
  refine jTE_v (rest := []) C (c_table h_r6) gL_road_L_table hd_table hK hN hD hA I rfl ⟨rfl, rfl⟩ ⟨Nat.le_of_ble_eq_true rfl, Nat.le_of_ble_eq_true rfl⟩ rfl hl.1 rfl (Nat.le_of_ble_eq_true rfl) ⟨Nat.le_of_ble_eq_true rfl, Nat.le_of_ble_eq_true rfl⟩ dL_road_30 (fun H locs I => ?_)
  refine lv_aload_n hx hb dL_road_33 rfl (lv_at hl 0 rfl) ?_
  refine lv_iload_n hx hb dL_road_34 rfl (lv_at hl 1 rfl) ?_
  refine lv_iconst (v := 0) hx hb dL_road_35 rfl ?_
  obtain ⟨r7, h_r7, hrun⟩ := p_bnd hrun
  refine jVS_i (rest := []) C (c4_road h_r7) gL_road_X4_road hd4_road hK hN (P_right I.1) rcX rfl ⟨rfl, rfl⟩ ⟨Nat.le_of_ble_eq_true rfl, Nat.le_of_ble_eq_true rfl⟩ rfl hl.1 rfl (Nat.le_of_ble_eq_true rfl) ⟨Nat.le_of_ble_eq_true rfl, Nat.le_of_ble_eq_true rfl⟩ dL_road_36 ?_
  refine lv_iload hx hb dL_road_39 (lv_at hl 4 rfl) ?_
  refine lv_icmp_ne (tgt := 135) hx hb dL_road_41 rfl (fun c8 => ?_) (fun c8 => ?_)
  · have hrun := p_neg hrun c8
    refine lv_iconst (v := 0) hx hb dL_road_135 rfl ?_
    cases hrun
    exact rE_i C hr hlk hQ I (nb01 (Or.inl rfl)) rfl dL_road_136
  · have hrun := p_pos hrun c8
    refine lv_aload_n hx hb dL_road_44 rfl (lv_at hl 0 rfl) ?_
    refine lv_iload_n hx hb dL_road_45 rfl (lv_at hl 1 rfl) ?_
    refine lv_iconst (v := 1) hx hb dL_road_46 rfl ?_
    obtain ⟨r9, h_r9, hrun⟩ := p_bnd hrun
    refine jVS_i (rest := []) C (c4_road h_r9) gL_road_X4_road hd4_road hK hN (P_right I.1) rcX rfl ⟨rfl, rfl⟩ ⟨Nat.le_of_ble_eq_true rfl, Nat.le_of_ble_eq_true rfl⟩ rfl hl.1 rfl (Nat.le_of_ble_eq_true rfl) ⟨Nat.le_of_ble_eq_true rfl, Nat.le_of_ble_eq_true rfl⟩ dL_road_47 ?_
    refine lv_iload hx hb dL_road_50 (lv_at hl 4 rfl) ?_
    refine lv_iload_n hx hb dL_road_52 rfl (lv_at hl 2 rfl) ?_
    obtain ⟨r10, h_r10, hrun⟩ := p_bnd hrun
    refine jSS_i (rest := [.int r1, .int r9]) C (c_rights h_r10) gL_road_L_rights hd_rights rfl ⟨rfl, rfl⟩ ⟨Nat.le_of_ble_eq_true rfl, Nat.le_of_ble_eq_true rfl⟩ rfl hl.1 rfl (Nat.le_of_ble_eq_true rfl) ⟨Nat.le_of_ble_eq_true rfl, Nat.le_of_ble_eq_true rfl⟩ dL_road_53 ?_
    refine lv_isub hx hb dL_road_56 ?_
    refine lv_icmp_ne (tgt := 135) hx hb dL_road_57 rfl (fun c11 => ?_) (fun c11 => ?_)
    · have hrun := p_neg hrun c11
      refine lv_iconst (v := 0) hx hb dL_road_135 rfl ?_
      cases hrun
      exact rE_i C hr hlk hQ I (nb01 (Or.inl rfl)) rfl dL_road_136
    · have hrun := p_pos hrun c11
      refine lv_aload_n hx hb dL_road_60 rfl (lv_at hl 0 rfl) ?_
      refine lv_iload_n hx hb dL_road_61 rfl (lv_at hl 1 rfl) ?_
      refine lv_iconst (v := 2) hx hb dL_road_62 rfl ?_
      obtain ⟨r12, h_r12, hrun⟩ := p_bnd hrun
      refine jVS_i (rest := []) C (c4_road h_r12) gL_road_X4_road hd4_road hK hN (P_right I.1) rcX rfl ⟨rfl, rfl⟩ ⟨Nat.le_of_ble_eq_true rfl, Nat.le_of_ble_eq_true rfl⟩ rfl hl.1 rfl (Nat.le_of_ble_eq_true rfl) ⟨Nat.le_of_ble_eq_true rfl, Nat.le_of_ble_eq_true rfl⟩ dL_road_63 ?_
      refine lv_iload_n hx hb dL_road_66 rfl (lv_at hl 2 rfl) ?_
      obtain ⟨r13, h_r13, hrun⟩ := p_bnd hrun
      refine jSS_i (rest := [.int r12]) C (c_rights h_r13) gL_road_L_rights hd_rights rfl ⟨rfl, rfl⟩ ⟨Nat.le_of_ble_eq_true rfl, Nat.le_of_ble_eq_true rfl⟩ rfl hl.1 rfl (Nat.le_of_ble_eq_true rfl) ⟨Nat.le_of_ble_eq_true rfl, Nat.le_of_ble_eq_true rfl⟩ dL_road_67 ?_
      refine lv_icmp_ne (tgt := 135) hx hb dL_road_70 rfl (fun c14 => ?_) (fun c14 => ?_)
      · have hrun := p_neg hrun c14
        refine lv_iconst (v := 0) hx hb dL_road_135 rfl ?_
        cases hrun
        exact rE_i C hr hlk hQ I (nb01 (Or.inl rfl)) rfl dL_road_136
      · have hrun := p_pos hrun c14
        refine lv_aload_n hx hb dL_road_73 rfl (lv_at hl 0 rfl) ?_
        refine lv_iload_n hx hb dL_road_74 rfl (lv_at hl 1 rfl) ?_
        refine lv_iconst (v := 3) hx hb dL_road_75 rfl ?_
        obtain ⟨r15, h_r15, hrun⟩ := p_bnd hrun
        refine jVS_i (rest := []) C (c4_road h_r15) gL_road_X4_road hd4_road hK hN (P_right I.1) rcX rfl ⟨rfl, rfl⟩ ⟨Nat.le_of_ble_eq_true rfl, Nat.le_of_ble_eq_true rfl⟩ rfl hl.1 rfl (Nat.le_of_ble_eq_true rfl) ⟨Nat.le_of_ble_eq_true rfl, Nat.le_of_ble_eq_true rfl⟩ dL_road_76 ?_
        refine lv_iload_n hx hb dL_road_79 rfl (lv_at hl 2 rfl) ?_
        obtain ⟨r16, h_r16, hrun⟩ := p_bnd hrun
        refine jSS_i (rest := [.int r15]) C (c_period h_r16) gL_road_L_period hd_period rfl ⟨rfl, rfl⟩ ⟨Nat.le_of_ble_eq_true rfl, Nat.le_of_ble_eq_true rfl⟩ rfl hl.1 rfl (Nat.le_of_ble_eq_true rfl) ⟨Nat.le_of_ble_eq_true rfl, Nat.le_of_ble_eq_true rfl⟩ dL_road_80 ?_
        refine lv_icmp_ne (tgt := 135) hx hb dL_road_83 rfl (fun c17 => ?_) (fun c17 => ?_)
        · have hrun := p_neg hrun c17
          refine lv_iconst (v := 0) hx hb dL_road_135 rfl ?_
          cases hrun
          exact rE_i C hr hlk hQ I (nb01 (Or.inl rfl)) rfl dL_road_136
        · have hrun := p_pos hrun c17
          refine lv_aload_n hx hb dL_road_86 rfl (lv_at hl 0 rfl) ?_
          refine lv_iload_n hx hb dL_road_87 rfl (lv_at hl 1 rfl) ?_
          refine lv_iconst (v := 4) hx hb dL_road_88 rfl ?_
          obtain ⟨r18, h_r18, hrun⟩ := p_bnd hrun
          refine jVS_i (rest := []) C (c4_road h_r18) gL_road_X4_road hd4_road hK hN (P_right I.1) rcX rfl ⟨rfl, rfl⟩ ⟨Nat.le_of_ble_eq_true rfl, Nat.le_of_ble_eq_true rfl⟩ rfl hl.1 rfl (Nat.le_of_ble_eq_true rfl) ⟨Nat.le_of_ble_eq_true rfl, Nat.le_of_ble_eq_true rfl⟩ dL_road_89 ?_
          refine lv_iload hx hb dL_road_92 (lv_at hl 5 rfl) ?_
          refine lv_icmp_ne (tgt := 135) hx hb dL_road_94 rfl (fun c19 => ?_) (fun c19 => ?_)
          · have hrun := p_neg hrun c19
            refine lv_iconst (v := 0) hx hb dL_road_135 rfl ?_
            cases hrun
            exact rE_i C hr hlk hQ I (nb01 (Or.inl rfl)) rfl dL_road_136
          · have hrun := p_pos hrun c19
            refine lv_aload_n hx hb dL_road_97 rfl (lv_at hl 0 rfl) ?_
            refine lv_iload_n hx hb dL_road_98 rfl (lv_at hl 1 rfl) ?_
            refine lv_iconst (v := 5) hx hb dL_road_99 rfl ?_
            obtain ⟨r20, h_r20, hrun⟩ := p_bnd hrun
            refine jVS_i (rest := []) C (c4_road h_r20) gL_road_X4_road hd4_road hK hN (P_right I.1) rcX rfl ⟨rfl, rfl⟩ ⟨Nat.le_of_ble_eq_true rfl, Nat.le_of_ble_eq_true rfl⟩ rfl hl.1 rfl (Nat.le_of_ble_eq_true rfl) ⟨Nat.le_of_ble_eq_true rfl, Nat.le_of_ble_eq_true rfl⟩ dL_road_100 ?_
            refine lv_aload_n hx hb dL_road_103 rfl (lv_at hl 3 rfl) ?_
            refine lv_iconst (v := 0) hx hb dL_road_104 rfl ?_
            obtain ⟨b21, hrun⟩ := p_chk hrun
            refine ldZ_zt C hK I.1 b21 dL_road_105 ?_
            refine lv_aload_n hx hb dL_road_106 rfl (lv_at hl 3 rfl) ?_
            refine lv_iconst (v := 3) hx hb dL_road_107 rfl ?_
            obtain ⟨b22, hrun⟩ := p_chk hrun
            refine ldZ_zt C hK I.1 b22 dL_road_108 ?_
            refine lv_iadd hx hb dL_road_109 ?_
            refine lv_icmp_ne (tgt := 135) hx hb dL_road_110 rfl (fun c23 => ?_) (fun c23 => ?_)
            · have hrun := p_neg hrun c23
              refine lv_iconst (v := 0) hx hb dL_road_135 rfl ?_
              cases hrun
              exact rE_i C hr hlk hQ I (nb01 (Or.inl rfl)) rfl dL_road_136
            · have hrun := p_pos hrun c23
              refine lv_aload_n hx hb dL_road_113 rfl (lv_at hl 0 rfl) ?_
              refine lv_iload_n hx hb dL_road_114 rfl (lv_at hl 1 rfl) ?_
              refine lv_bipush (v := 6) hx hb dL_road_115 rfl ?_
              obtain ⟨r24, h_r24, hrun⟩ := p_bnd hrun
              refine jVS_i (rest := []) C (c4_road h_r24) gL_road_X4_road hd4_road hK hN (P_right I.1) rcX rfl ⟨rfl, rfl⟩ ⟨Nat.le_of_ble_eq_true rfl, Nat.le_of_ble_eq_true rfl⟩ rfl hl.1 rfl (Nat.le_of_ble_eq_true rfl) ⟨Nat.le_of_ble_eq_true rfl, Nat.le_of_ble_eq_true rfl⟩ dL_road_117 ?_
              refine lv_iload_n hx hb dL_road_120 rfl (lv_at hl 2 rfl) ?_
              obtain ⟨r25, h_r25, hrun⟩ := p_bnd hrun
              refine jSS_i (rest := [.int r24]) C (c_isClosed h_r25) gL_road_L_isClosed hd_isClosed rfl ⟨rfl, rfl⟩ ⟨Nat.le_of_ble_eq_true rfl, Nat.le_of_ble_eq_true rfl⟩ rfl hl.1 rfl (Nat.le_of_ble_eq_true rfl) ⟨Nat.le_of_ble_eq_true rfl, Nat.le_of_ble_eq_true rfl⟩ dL_road_121 ?_
              refine lv_if_eq (tgt := 131) hx hb dL_road_124 rfl (fun c26 => ?_) (fun c26 => ?_)
              · have hrun := p_pos hrun c26
                refine lv_iconst (v := 0) hx hb dL_road_131 rfl ?_
                exact join_132 r6 r1 0 r24 _ _ _ hrun I (lv_sub hl [0, 1, 2, 3, 4] rfl)
              · have hrun := p_neg hrun c26
                refine lv_iconst (v := 1) hx hb dL_road_127 rfl ?_
                refine lv_goto (tgt := 132) hx hb dL_road_128 rfl ?_
                exact join_132 r6 r1 1 r24 _ _ _ hrun I (lv_sub hl [0, 1, 2, 3, 4] rfl)

end Z93
