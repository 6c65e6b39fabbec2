section X95
variable {l : Launch} {D : va_G} {sz : Nat}
variable {ad fa ca wad : Nat → Nat} {cI cR cG : ClassId}
variable {v_roadCount v_readings v_psize v_good v_pbits v_letters v_afterLetter v_disc v_rsize v_cycleCount v_closed v_traces v_crossings v_db_bits v_db_size v_db_allBits v_db_a v_db_b v_db_c v_db_d v_dn_bits v_dn_size v_dn_allBits v_dn_a v_dn_b v_dn_c v_dn_d : Int32}
variable {v_s : Int64}
variable {v_codes : Nat → Int32}
variable {v_fo v_cy v_wv : Nat → Nat → Int32}
variable {v_wn : Nat}
abbrev rm4_drawn : Room := { frames := 5, cells := 0, slots := 0, locals := 114 }
theorem fl4_drawn_32 : Cond.fieldLink RX4 32 "RiverWords" "draw" "LRiverWords$Draw;" ∈ wsX4_drawn := by decide +kernel
theorem fl4_drawn_201 : Cond.fieldLink RX4 201 "RiverWords$Draw" "closed" "I" ∈ wsX4_drawn := by decide +kernel
theorem fl4_drawn_204 : Cond.fieldLink RX4 204 "RiverWords$Draw" "traces" "I" ∈ wsX4_drawn := by decide +kernel
theorem fl4_drawn_207 : Cond.fieldLink RX4 207 "RiverWords$Draw" "crossings" "I" ∈ wsX4_drawn := by decide +kernel
theorem fl4_drawn_209 : Cond.fieldLink RX4 209 "RiverWords$Draw" "s" "J" ∈ wsX4_drawn := by decide +kernel
theorem k4_drawn_36 : Cond.constant RX4 36 (-2000000102) ∈ wsX4_drawn := by decide +kernel
theorem inm4_drawn_X0 : ∀ w ∈ wsX00, w ∈ wsX4_drawn := by decide +kernel
theorem inm4_drawn_X4 : ∀ w ∈ wsX40, w ∈ wsX4_drawn := by decide +kernel
theorem hd4_drawn : okD yX4_drawn 3 := by decide +kernel
set_option maxHeartbeats 8000000 in
set_option maxRecDepth 100000 in
theorem c4_drawn {x1 : Int32} {x2 : Int32} {x3 : Int32} {res : Int32 × Int64 × Int32 × Int32 × Int32 × Int32 × Int32 × Int32 × Int32 × Int32 × Int32 × Int32 × Int32 × Int32 × Int32 × Int32 × Int32 × Int32 × Int32} (hrun : P4_drawn v_s v_closed v_traces v_crossings v_db_bits v_db_size v_db_allBits v_db_a v_db_b v_db_c v_db_d v_dn_bits v_dn_size v_dn_allBits v_dn_a v_dn_b v_dn_c v_dn_d x1 x2 x3 = some res) : Met l yX4_drawn wsX4_drawn rm4_drawn (va_Pc [.ref (ad 0), .int x1, .int x2, .int x3] (PE D (tyX cI cR cG) sz (WX0 ad fa ca wad cI cR cG v_wn) (WX ad fa ca wad cI cR cG v_roadCount v_readings v_psize v_good v_pbits v_letters v_afterLetter v_codes v_disc v_rsize v_cycleCount v_fo v_cy v_s v_closed v_traces v_crossings v_db_bits v_db_size v_db_allBits v_db_a v_db_b v_db_c v_db_d v_dn_bits v_dn_size v_dn_allBits v_dn_a v_dn_b v_dn_c v_dn_d v_wn v_wv))) (va_Qi (fun (x : Int32) (_ : Unit) => x = res.1) (fun _ t => va_P D vwCl (WX ad fa ca wad cI cR cG v_roadCount v_readings v_psize v_good v_pbits v_letters v_afterLetter v_codes v_disc v_rsize v_cycleCount v_fo v_cy res.2.1 res.2.2.1 res.2.2.2.1 res.2.2.2.2.1 res.2.2.2.2.2.1 res.2.2.2.2.2.2.1 res.2.2.2.2.2.2.2.1 res.2.2.2.2.2.2.2.2.1 res.2.2.2.2.2.2.2.2.2.1 res.2.2.2.2.2.2.2.2.2.2.1 res.2.2.2.2.2.2.2.2.2.2.2.1 res.2.2.2.2.2.2.2.2.2.2.2.2.1 res.2.2.2.2.2.2.2.2.2.2.2.2.2.1 res.2.2.2.2.2.2.2.2.2.2.2.2.2.2.1 res.2.2.2.2.2.2.2.2.2.2.2.2.2.2.2.1 res.2.2.2.2.2.2.2.2.2.2.2.2.2.2.2.2.1 res.2.2.2.2.2.2.2.2.2.2.2.2.2.2.2.2.2.1 res.2.2.2.2.2.2.2.2.2.2.2.2.2.2.2.2.2.2 v_wn v_wv) t.heap) (va_A (WX0 ad fa ca wad cI cR cG v_wn) sz)) 0 0 (va_A (WX0 ad fa ca wad cI cR cG v_wn) sz) := by
  refine E_in (cc := cX4_drawn) (maxL := 4) (ret := (some .int)) (by decide) rfl (Nat.le_of_ble_eq_true rfl) ?_
  intro p e s m args below meth c ls Q hQ C hr hlk hK hN hD hA I hl
  have C : CallFix p m c cX4_drawn 4 s args wsX4_drawn RX4 := C
  have hx := C.1
  have hb := C.2.1
  have hl : lv_has ls 4 [(0, .ref (ad 0)), (1, .int x1), (2, .int x2), (3, .int x3)] := hl
  unfold P4_drawn at hrun
  refine lv_iload_n hx hb dX4_drawn_0 rfl (lv_at hl 1 rfl) ?_
  refine lv_iconst (v := 1) hx hb dX4_drawn_1 rfl ?_
  refine lv_icmp_lt (tgt := 24) hx hb dX4_drawn_2 rfl (fun c1 => ?_) (fun c1 => ?_)
  · have hrun := p_pos hrun c1
    refine lv_ldc (v := (-2000000102)) hx hb C.2.2.2.1 (C.2.2.2.2 _ k4_drawn_36) dX4_drawn_24 ?_
    cases hrun
    exact rE_i C hr hlk hQ I (nbi _) rfl dX4_drawn_26
  · have hrun := p_neg hrun c1
    refine lv_iload_n hx hb dX4_drawn_5 rfl (lv_at hl 1 rfl) ?_
    refine lv_bipush (v := 40) hx hb dX4_drawn_6 rfl ?_
    refine lv_icmp_gt (tgt := 24) hx hb dX4_drawn_8 rfl (fun c2 => ?_) (fun c2 => ?_)
    · have hrun := p_pos hrun c2
      refine lv_ldc (v := (-2000000102)) hx hb C.2.2.2.1 (C.2.2.2.2 _ k4_drawn_36) dX4_drawn_24 ?_
      cases hrun
      exact rE_i C hr hlk hQ I (nbi _) rfl dX4_drawn_26
    · have hrun := p_neg hrun c2
      refine lv_iload_n hx hb dX4_drawn_11 rfl (lv_at hl 2 rfl) ?_
      refine lv_if_lt (tgt := 24) hx hb dX4_drawn_12 rfl (fun c3 => ?_) (fun c3 => ?_)
      · have hrun := p_pos hrun c3
        refine lv_ldc (v := (-2000000102)) hx hb C.2.2.2.1 (C.2.2.2.2 _ k4_drawn_36) dX4_drawn_24 ?_
        cases hrun
        exact rE_i C hr hlk hQ I (nbi _) rfl dX4_drawn_26
      · have hrun := p_neg hrun c3
        refine lv_iload_n hx hb dX4_drawn_15 rfl (lv_at hl 3 rfl) ?_
        refine lv_if_lt (tgt := 24) hx hb dX4_drawn_16 rfl (fun c4 => ?_) (fun c4 => ?_)
        · have hrun := p_pos hrun c4
          refine lv_ldc (v := (-2000000102)) hx hb C.2.2.2.1 (C.2.2.2.2 _ k4_drawn_36) dX4_drawn_24 ?_
          cases hrun
          exact rE_i C hr hlk hQ I (nbi _) rfl dX4_drawn_26
        · have hrun := p_neg hrun c4
          refine lv_iload_n hx hb dX4_drawn_19 rfl (lv_at hl 3 rfl) ?_
          refine lv_iconst (v := 4) hx hb dX4_drawn_20 rfl ?_
          refine lv_icmp_lt (tgt := 27) hx hb dX4_drawn_21 rfl (fun c5 => ?_) (fun c5 => ?_)
          · have hrun := p_pos hrun c5
            refine lv_aload_n hx hb dX4_drawn_27 rfl (lv_at hl 0 rfl) ?_
            refine gX_X_draw C inm4_drawn_X4 hK I.1 fl4_drawn_32 dX4_drawn_28 ?_
            refine lv_iload_n hx hb dX4_drawn_31 rfl (lv_at hl 1 rfl) ?_
            refine lv_iload_n hx hb dX4_drawn_32 rfl (lv_at hl 2 rfl) ?_
            obtain ⟨r6, h_r6, hrun⟩ := p_bnd hrun
            refine jVE_v (rest := []) C (c0_run h_r6) gX4_drawn_X0_run hd0_run hK hN hD hA I rcD rfl ⟨rfl, rfl⟩ ⟨Nat.le_of_ble_eq_true rfl, Nat.le_of_ble_eq_true rfl⟩ rfl hl.1 rfl (Nat.le_of_ble_eq_true rfl) ⟨Nat.le_of_ble_eq_true rfl, Nat.le_of_ble_eq_true rfl⟩ dX4_drawn_33 (fun H locs I => ?_)
            refine lv_iload_n hx hb dX4_drawn_36 rfl (lv_at hl 3 rfl) ?_
            by_cases c7 : x3 = 0
            · have hrun := p_pos hrun c7
              refine j_tswIn  (tgt := 64) hx hb 0 c7 dX4_drawn_37 (by decide) (by decide) rfl rfl ?_
              refine lv_aload_n hx hb dX4_drawn_64 rfl (lv_at hl 0 rfl) ?_
              refine gX_X_draw C inm4_drawn_X4 hK I.1 fl4_drawn_32 dX4_drawn_65 ?_
              refine gX_D_closed C inm4_drawn_X0 hK I.1 fl4_drawn_201 dX4_drawn_68 ?_
              cases hrun
              exact rE_i C hr hlk hQ I (nbi _) rfl dX4_drawn_71
            · have hrun := p_neg hrun c7
              by_cases c8 : x3 = 1
              · have hrun := p_pos hrun c8
                refine j_tswIn  (tgt := 72) hx hb 1 c8 dX4_drawn_37 (by decide) (by decide) rfl rfl ?_
                refine lv_aload_n hx hb dX4_drawn_72 rfl (lv_at hl 0 rfl) ?_
                refine gX_X_draw C inm4_drawn_X4 hK I.1 fl4_drawn_32 dX4_drawn_73 ?_
                refine gX_D_traces C inm4_drawn_X0 hK I.1 fl4_drawn_204 dX4_drawn_76 ?_
                cases hrun
                exact rE_i C hr hlk hQ I (nbi _) rfl dX4_drawn_79
              · have hrun := p_neg hrun c8
                by_cases c9 : x3 = 2
                · have hrun := p_pos hrun c9
                  refine j_tswIn  (tgt := 80) hx hb 2 c9 dX4_drawn_37 (by decide) (by decide) rfl rfl ?_
                  refine lv_aload_n hx hb dX4_drawn_80 rfl (lv_at hl 0 rfl) ?_
                  refine gX_X_draw C inm4_drawn_X4 hK I.1 fl4_drawn_32 dX4_drawn_81 ?_
                  refine gX_D_crossings C inm4_drawn_X0 hK I.1 fl4_drawn_207 dX4_drawn_84 ?_
                  cases hrun
                  exact rE_i C hr hlk hQ I (nbi _) rfl dX4_drawn_87
                · have hrun := p_neg hrun c9
                  refine lv_tableOut (tgt := 88) hx hb dX4_drawn_37 (j_tswOut (lo := 0) (hi := 2) [0, 1, 2] (by decide) (fun k hk => by simp only [List.mem_cons, List.not_mem_nil, or_false] at hk; rcases hk with rfl | rfl | rfl <;> assumption)) rfl ?_
                  refine lv_aload_n hx hb dX4_drawn_88 rfl (lv_at hl 0 rfl) ?_
                  refine gX_X_draw C inm4_drawn_X4 hK I.1 fl4_drawn_32 dX4_drawn_89 ?_
                  refine gX_D_s C inm4_drawn_X0 hK I.1 fl4_drawn_209 dX4_drawn_92 ?_
                  refine lv_l2i (v := Int64.toInt32 r6.1) hx hb dX4_drawn_95 rfl ?_
                  cases hrun
                  exact rE_i C hr hlk hQ I (nbi _) rfl dX4_drawn_96
          · have hrun := p_neg hrun c5
            refine lv_ldc (v := (-2000000102)) hx hb C.2.2.2.1 (C.2.2.2.2 _ k4_drawn_36) dX4_drawn_24 ?_
            cases hrun
            exact rE_i C hr hlk hQ I (nbi _) rfl dX4_drawn_26

abbrev rm4_isClosedRoad : Room := { frames := 1, cells := 0, slots := 0, locals := 21 }
theorem hd4_isClosedRoad : okD yX4_isClosedRoad 1 := by decide +kernel
set_option maxHeartbeats 8000000 in
set_option maxRecDepth 100000 in
theorem c4_isClosedRoad {x1 : Int32} {res : Int32} (hrun : P4_isClosedRoad v_roadCount v_wn v_wv x1 = some res) : Met l yX4_isClosedRoad wsX4_isClosedRoad rm4_isClosedRoad (va_Pc [.ref (ad 0), .int x1] (PS D (tyX cI cR cG) (WX ad fa ca wad cI cR cG v_roadCount v_readings v_psize v_good v_pbits v_letters v_afterLetter v_codes v_disc v_rsize v_cycleCount v_fo v_cy v_s v_closed v_traces v_crossings v_db_bits v_db_size v_db_allBits v_db_a v_db_b v_db_c v_db_d v_dn_bits v_dn_size v_dn_allBits v_dn_a v_dn_b v_dn_c v_dn_d v_wn v_wv))) (vp_Si (fun x => x = res)) 0 0 (fun _ => False) := by
  refine S_in (cc := cX4_isClosedRoad) (maxL := 3) (ret := (some .boolean)) (by decide) rfl (Nat.le_of_ble_eq_true rfl) ?_
  intro p e s m args below meth c ls Q hQ C hr hlk hK hN hP hl
  have C : CallFix p m c cX4_isClosedRoad 3 s args wsX4_isClosedRoad RX4 := C
  have hx := C.1
  have hb := C.2.1
  have hl : lv_has ls 3 [(0, .ref (ad 0)), (1, .int x1)] := hl
  unfold P4_isClosedRoad at hrun
  refine lv_aload_n hx hb dX4_isClosedRoad_0 rfl (lv_at hl 0 rfl) ?_
  refine lv_iload_n hx hb dX4_isClosedRoad_1 rfl (lv_at hl 1 rfl) ?_
  obtain ⟨r1, h_r1, hrun⟩ := p_bnd hrun
  refine jVS_q (rest := []) C (c4_roadAt h_r1) gX4_isClosedRoad_X4_roadAt hd4_roadAt hK hN hP rcX rfl ⟨rfl, rfl⟩ ⟨Nat.le_of_ble_eq_true rfl, Nat.le_of_ble_eq_true rfl⟩ rfl hl.1 rfl (Nat.le_of_ble_eq_true rfl) ⟨Nat.le_of_ble_eq_true rfl, Nat.le_of_ble_eq_true rfl⟩ dX4_isClosedRoad_2 ?_
  rcases r1 with _ | j2
  · refine W.eq (g2 := F0 m 5 ls (.null :: [])) rfl ?_
    refine lv_astore_nN (lv' := [(2, .null), (0, .ref (ad 0)), (1, .int x1)]) hx hb dX4_isClosedRoad_5 rfl hl (by decide) rfl (fun ls hl => ?_)
    refine lv_aload_nN hx hb dX4_isClosedRoad_6 rfl (lv_at hl 0 rfl) ?_
    refine lv_ifnullN (tgt := 21) hx hb dX4_isClosedRoad_7 rfl ?_
    refine lv_iconst (v := 0) hx hb dX4_isClosedRoad_21 rfl ?_
    cases hrun
    exact rS_i C hr hlk hQ (nb01 (Or.inl rfl)) rfl dX4_isClosedRoad_22
  · have hj2 := P4_roadAt_lt h_r1
    refine W.eq (g2 := F0 m 5 ls (.ref (wad j2) :: [])) rfl ?_
    refine lv_astore_n (lv' := [(2, .ref (wad j2)), (0, .ref (ad 0)), (1, .int x1)]) hx hb dX4_isClosedRoad_5 rfl hl (by decide) rfl (fun ls hl => ?_)
    refine lv_aload_n hx hb dX4_isClosedRoad_6 rfl (lv_at hl 0 rfl) ?_
    refine lv_ifnull hx hb dX4_isClosedRoad_7 ?_
    refine lv_aload_n hx hb dX4_isClosedRoad_10 rfl (lv_at hl 0 rfl) ?_
    obtain ⟨r3, h_r3, hrun⟩ := p_bnd hrun
    refine jVS_i (rest := []) C (c3_isClosed (WX_word hj2) h_r3) gX4_isClosedRoad_X3_isClosed hd3_isClosed hK hN hP ⟨_, 3, _, _, (WX_word hj2), rfl, rfl⟩ rfl ⟨rfl, rfl⟩ ⟨Nat.le_of_ble_eq_true rfl, Nat.le_of_ble_eq_true rfl⟩ rfl hl.1 rfl (Nat.le_of_ble_eq_true rfl) ⟨Nat.le_of_ble_eq_true rfl, Nat.le_of_ble_eq_true rfl⟩ dX4_isClosedRoad_11 ?_
    refine lv_if_eq (tgt := 21) hx hb dX4_isClosedRoad_14 rfl (fun c4 => ?_) (fun c4 => ?_)
    · have hrun := p_pos hrun c4
      refine lv_iconst (v := 0) hx hb dX4_isClosedRoad_21 rfl ?_
      cases hrun
      exact rS_i C hr hlk hQ (nb01 (Or.inl rfl)) rfl dX4_isClosedRoad_22
    · have hrun := p_neg hrun c4
      refine lv_iconst (v := 1) hx hb dX4_isClosedRoad_17 rfl ?_
      refine lv_goto (tgt := 22) hx hb dX4_isClosedRoad_18 rfl ?_
      cases hrun
      exact rS_i C hr hlk hQ (nb01 (Or.inr rfl)) rfl dX4_isClosedRoad_22

abbrev rm4_closedRoads : Room := { frames := 2, cells := 0, slots := 0, locals := 43 }
theorem fl4_closedRoads_148 : Cond.fieldLink RX4 148 "RiverWords" "roadCount" "I" ∈ wsX4_closedRoads := by decide +kernel
theorem inm4_closedRoads_X4 : ∀ w ∈ wsX40, w ∈ wsX4_closedRoads := by decide +kernel
theorem hd4_closedRoads : okD yX4_closedRoads 0 := by decide +kernel
set_option maxHeartbeats 8000000 in
set_option maxRecDepth 100000 in
theorem c4_closedRoads {res : Int32} (hrun : P4_closedRoads v_roadCount v_wn v_wv = some res) : Met l yX4_closedRoads wsX4_closedRoads rm4_closedRoads (va_Pc [.ref (ad 0)] (PS D (tyX cI cR cG) (WX ad fa ca wad cI cR cG v_roadCount v_readings v_psize v_good v_pbits v_letters v_afterLetter v_codes v_disc v_rsize v_cycleCount v_fo v_cy v_s v_closed v_traces v_crossings v_db_bits v_db_size v_db_allBits v_db_a v_db_b v_db_c v_db_d v_dn_bits v_dn_size v_dn_allBits v_dn_a v_dn_b v_dn_c v_dn_d v_wn v_wv))) (vp_Si (fun x => x = res)) 0 0 (fun _ => False) := by
  refine S_in (cc := cX4_closedRoads) (maxL := 3) (ret := (some .int)) (by decide) rfl (Nat.le_of_ble_eq_true rfl) ?_
  intro p e s m args below meth c ls Q hQ C hr hlk hK hN hP hl
  have C : CallFix p m c cX4_closedRoads 3 s args wsX4_closedRoads RX4 := C
  have hx := C.1
  have hb := C.2.1
  have hl : lv_has ls 3 [(0, .ref (ad 0))] := hl
  have loop_4 : ∀ (n : Nat) (x1 : Int32) (x2 : Int32) (out : Int32), P4_closedRoads_4 v_roadCount v_wn v_wv n x1 x2 = some out → (∀ (ls : Array Slot), lv_has ls 3 [(1, .int out)] → W p l e rm4_closedRoads s m args below meth c s.heap [] 0 0 Q (F0 m 29 ls [])) → ∀ (ls : Array Slot), lv_has ls 3 [(0, .ref (ad 0)), (1, .int x1), (2, .int x2)] → W p l e rm4_closedRoads s m args below meth c s.heap [] 0 0 Q (F0 m 4 ls []) := by
    intro n
    induction n with
    | zero =>
      intro x1 x2 out hrun K ls hl
      cases hrun
    | succ n ih =>
      intro x1 x2 out hrun K ls hl
      rw [P4_closedRoads_4] at hrun
      refine lv_iload_n hx hb dX4_closedRoads_4 rfl (lv_at hl 2 rfl) ?_
      refine lv_aload_n hx hb dX4_closedRoads_5 rfl (lv_at hl 0 rfl) ?_
      refine gX_X_roadCount C inm4_closedRoads_X4 hK hP fl4_closedRoads_148 dX4_closedRoads_6 ?_
      refine lv_icmp_ge (tgt := 29) hx hb dX4_closedRoads_9 rfl (fun c1 => ?_) (fun c1 => ?_)
      · have hrun := p_pos hrun c1
        cases hrun
        exact K _ (lv_sub hl [1] rfl)
      · have hrun := p_neg hrun c1
        refine lv_aload_n hx hb dX4_closedRoads_12 rfl (lv_at hl 0 rfl) ?_
        refine lv_iload_n hx hb dX4_closedRoads_13 rfl (lv_at hl 2 rfl) ?_
        obtain ⟨r2, h_r2, hrun⟩ := p_bnd hrun
        refine jVS_i (rest := []) C (c4_isClosedRoad h_r2) gX4_closedRoads_X4_isClosedRoad hd4_isClosedRoad hK hN hP rcX rfl ⟨rfl, rfl⟩ ⟨Nat.le_of_ble_eq_true rfl, Nat.le_of_ble_eq_true rfl⟩ rfl hl.1 rfl (Nat.le_of_ble_eq_true rfl) ⟨Nat.le_of_ble_eq_true rfl, Nat.le_of_ble_eq_true rfl⟩ dX4_closedRoads_14 ?_
        refine lv_if_eq (tgt := 23) hx hb dX4_closedRoads_17 rfl (fun c3 => ?_) (fun c3 => ?_)
        · have hrun := p_pos hrun c3
          refine lv_iinc (v := x2 + 1) (lv' := [(2, .int (x2 + 1)), (0, .ref (ad 0)), (1, .int x1)]) hx hb dX4_closedRoads_23 hl (k := 2) rfl rfl (by decide) rfl (fun ls hl => ?_)
          refine lv_goto (tgt := 4) hx hb dX4_closedRoads_26 rfl ?_
          exact ih x1 (x2 + 1) out hrun K _ (lv_sub hl [1, 2, 0] rfl)
        · have hrun := p_neg hrun c3
          refine lv_iinc (v := x1 + 1) (lv' := [(1, .int (x1 + 1)), (0, .ref (ad 0)), (2, .int x2)]) hx hb dX4_closedRoads_20 hl (k := 1) rfl rfl (by decide) rfl (fun ls hl => ?_)
          refine lv_iinc (v := x2 + 1) (lv' := [(2, .int (x2 + 1)), (1, .int (x1 + 1)), (0, .ref (ad 0))]) hx hb dX4_closedRoads_23 hl (k := 2) rfl rfl (by decide) rfl (fun ls hl => ?_)
          refine lv_goto (tgt := 4) hx hb dX4_closedRoads_26 rfl ?_
          exact ih (x1 + 1) (x2 + 1) out hrun K _ (lv_sub hl [2, 1, 0] rfl)
  unfold P4_closedRoads at hrun
  refine lv_iconst (v := 0) hx hb dX4_closedRoads_0 rfl ?_
  refine lv_istore_n (lv' := [(1, .int 0), (0, .ref (ad 0))]) hx hb dX4_closedRoads_1 rfl hl (by decide) rfl (fun ls hl => ?_)
  refine lv_iconst (v := 0) hx hb dX4_closedRoads_2 rfl ?_
  refine lv_istore_n (lv' := [(2, .int 0), (1, .int 0), (0, .ref (ad 0))]) hx hb dX4_closedRoads_3 rfl hl (by decide) rfl (fun ls hl => ?_)
  obtain ⟨o4, h_o4, hrun⟩ := p_bnd hrun
  refine loop_4 FU 0 0 o4 h_o4 (fun ls hl => ?_) _ (lv_sub hl [2, 1, 0] rfl)
  refine lv_iload_n hx hb dX4_closedRoads_29 rfl (lv_at hl 0 rfl) ?_
  cases hrun
  exact rS_i C hr hlk hQ (nbi _) rfl dX4_closedRoads_30

abbrev rm4_isFirstOfClass : Room := { frames := 3, cells := 0, slots := 0, locals := 68 }
theorem hd4_isFirstOfClass : okD yX4_isFirstOfClass 1 := by decide +kernel
set_option maxHeartbeats 8000000 in
set_option maxRecDepth 100000 in
theorem c4_isFirstOfClass {x1 : Int32} {res : Int32} (hrun : P4_isFirstOfClass v_roadCount v_wn v_wv x1 = some res) : Met l yX4_isFirstOfClass wsX4_isFirstOfClass rm4_isFirstOfClass (va_Pc [.ref (ad 0), .int x1] (PS D (tyX cI cR cG) (WX ad fa ca wad cI cR cG v_roadCount v_readings v_psize v_good v_pbits v_letters v_afterLetter v_codes v_disc v_rsize v_cycleCount v_fo v_cy v_s v_closed v_traces v_crossings v_db_bits v_db_size v_db_allBits v_db_a v_db_b v_db_c v_db_d v_dn_bits v_dn_size v_dn_allBits v_dn_a v_dn_b v_dn_c v_dn_d v_wn v_wv))) (vp_Si (fun x => x = res)) 0 0 (fun _ => False) := by
  refine S_in (cc := cX4_isFirstOfClass) (maxL := 3) (ret := (some .boolean)) (by decide) rfl (Nat.le_of_ble_eq_true rfl) ?_
  intro p e s m args below meth c ls Q hQ C hr hlk hK hN hP hl
  have C : CallFix p m c cX4_isFirstOfClass 3 s args wsX4_isFirstOfClass RX4 := C
  have hx := C.1
  have hb := C.2.1
  have hl : lv_has ls 3 [(0, .ref (ad 0)), (1, .int x1)] := hl
  have loop_2 : ∀ (n : Nat) (x2 : Int32), P4_isFirstOfClass_2 v_roadCount v_wn v_wv x1 n x2 = some res → ∀ (ls : Array Slot), lv_has ls 3 [(0, .ref (ad 0)), (1, .int x1), (2, .int x2)] → W p l e rm4_isFirstOfClass s m args below meth c s.heap [] 0 0 Q (F0 m 2 ls []) := by
    intro n
    induction n with
    | zero =>
      intro x2 hrun ls hl
      cases hrun
    | succ n ih =>
      intro x2 hrun ls hl
      rw [P4_isFirstOfClass_2] at hrun
      refine lv_iload_n hx hb dX4_isFirstOfClass_2 rfl (lv_at hl 2 rfl) ?_
      refine lv_iload_n hx hb dX4_isFirstOfClass_3 rfl (lv_at hl 1 rfl) ?_
      refine lv_icmp_ge (tgt := 24) hx hb dX4_isFirstOfClass_4 rfl (fun c1 => ?_) (fun c1 => ?_)
      · have hrun := p_pos hrun c1
        refine lv_iconst (v := 1) hx hb dX4_isFirstOfClass_24 rfl ?_
        cases hrun
        exact rS_i C hr hlk hQ (nb01 (Or.inr rfl)) rfl dX4_isFirstOfClass_25
      · have hrun := p_neg hrun c1
        refine lv_aload_n hx hb dX4_isFirstOfClass_7 rfl (lv_at hl 0 rfl) ?_
        refine lv_iload_n hx hb dX4_isFirstOfClass_8 rfl (lv_at hl 2 rfl) ?_
        refine lv_iload_n hx hb dX4_isFirstOfClass_9 rfl (lv_at hl 1 rfl) ?_
        obtain ⟨r2, h_r2, hrun⟩ := p_bnd hrun
        refine jVS_i (rest := []) C (c4_alike h_r2) gX4_isFirstOfClass_X4_alike hd4_alike hK hN hP rcX rfl ⟨rfl, rfl⟩ ⟨Nat.le_of_ble_eq_true rfl, Nat.le_of_ble_eq_true rfl⟩ rfl hl.1 rfl (Nat.le_of_ble_eq_true rfl) ⟨Nat.le_of_ble_eq_true rfl, Nat.le_of_ble_eq_true rfl⟩ dX4_isFirstOfClass_10 ?_
        refine lv_if_lt (tgt := 18) hx hb dX4_isFirstOfClass_13 rfl (fun c3 => ?_) (fun c3 => ?_)
        · have hrun := p_pos hrun c3
          refine lv_iinc (v := x2 + 1) (lv' := [(2, .int (x2 + 1)), (0, .ref (ad 0)), (1, .int x1)]) hx hb dX4_isFirstOfClass_18 hl (k := 2) rfl rfl (by decide) rfl (fun ls hl => ?_)
          refine lv_goto (tgt := 2) hx hb dX4_isFirstOfClass_21 rfl ?_
          exact ih (x2 + 1) hrun _ (lv_sub hl [1, 2, 0] rfl)
        · have hrun := p_neg hrun c3
          refine lv_iconst (v := 0) hx hb dX4_isFirstOfClass_16 rfl ?_
          cases hrun
          exact rS_i C hr hlk hQ (nb01 (Or.inl rfl)) rfl dX4_isFirstOfClass_17
  unfold P4_isFirstOfClass at hrun
  refine lv_iconst (v := 0) hx hb dX4_isFirstOfClass_0 rfl ?_
  refine lv_istore_n (lv' := [(2, .int 0), (0, .ref (ad 0)), (1, .int x1)]) hx hb dX4_isFirstOfClass_1 rfl hl (by decide) rfl (fun ls hl => ?_)
  exact loop_2 FU 0 hrun _ (lv_sub hl [1, 2, 0] rfl)

abbrev rm4_roadClasses : Room := { frames := 4, cells := 0, slots := 0, locals := 90 }
theorem fl4_roadClasses_148 : Cond.fieldLink RX4 148 "RiverWords" "roadCount" "I" ∈ wsX4_roadClasses := by decide +kernel
theorem inm4_roadClasses_X4 : ∀ w ∈ wsX40, w ∈ wsX4_roadClasses := by decide +kernel
theorem hd4_roadClasses : okD yX4_roadClasses 0 := by decide +kernel
set_option maxHeartbeats 8000000 in
set_option maxRecDepth 100000 in
theorem c4_roadClasses {res : Int32} (hrun : P4_roadClasses v_roadCount v_wn v_wv = some res) : Met l yX4_roadClasses wsX4_roadClasses rm4_roadClasses (va_Pc [.ref (ad 0)] (PS D (tyX cI cR cG) (WX ad fa ca wad cI cR cG v_roadCount v_readings v_psize v_good v_pbits v_letters v_afterLetter v_codes v_disc v_rsize v_cycleCount v_fo v_cy v_s v_closed v_traces v_crossings v_db_bits v_db_size v_db_allBits v_db_a v_db_b v_db_c v_db_d v_dn_bits v_dn_size v_dn_allBits v_dn_a v_dn_b v_dn_c v_dn_d v_wn v_wv))) (vp_Si (fun x => x = res)) 0 0 (fun _ => False) := by
  refine S_in (cc := cX4_roadClasses) (maxL := 3) (ret := (some .int)) (by decide) rfl (Nat.le_of_ble_eq_true rfl) ?_
  intro p e s m args below meth c ls Q hQ C hr hlk hK hN hP hl
  have C : CallFix p m c cX4_roadClasses 3 s args wsX4_roadClasses RX4 := C
  have hx := C.1
  have hb := C.2.1
  have hl : lv_has ls 3 [(0, .ref (ad 0))] := hl
  have loop_4 : ∀ (n : Nat) (x1 : Int32) (x2 : Int32) (out : Int32), P4_roadClasses_4 v_roadCount v_wn v_wv n x1 x2 = some out → (∀ (ls : Array Slot), lv_has ls 3 [(1, .int out)] → W p l e rm4_roadClasses s m args below meth c s.heap [] 0 0 Q (F0 m 29 ls [])) → ∀ (ls : Array Slot), lv_has ls 3 [(0, .ref (ad 0)), (1, .int x1), (2, .int x2)] → W p l e rm4_roadClasses s m args below meth c s.heap [] 0 0 Q (F0 m 4 ls []) := by
    intro n
    induction n with
    | zero =>
      intro x1 x2 out hrun K ls hl
      cases hrun
    | succ n ih =>
      intro x1 x2 out hrun K ls hl
      rw [P4_roadClasses_4] at hrun
      refine lv_iload_n hx hb dX4_roadClasses_4 rfl (lv_at hl 2 rfl) ?_
      refine lv_aload_n hx hb dX4_roadClasses_5 rfl (lv_at hl 0 rfl) ?_
      refine gX_X_roadCount C inm4_roadClasses_X4 hK hP fl4_roadClasses_148 dX4_roadClasses_6 ?_
      refine lv_icmp_ge (tgt := 29) hx hb dX4_roadClasses_9 rfl (fun c1 => ?_) (fun c1 => ?_)
      · have hrun := p_pos hrun c1
        cases hrun
        exact K _ (lv_sub hl [1] rfl)
      · have hrun := p_neg hrun c1
        refine lv_aload_n hx hb dX4_roadClasses_12 rfl (lv_at hl 0 rfl) ?_
        refine lv_iload_n hx hb dX4_roadClasses_13 rfl (lv_at hl 2 rfl) ?_
        obtain ⟨r2, h_r2, hrun⟩ := p_bnd hrun
        refine jVS_i (rest := []) C (c4_isFirstOfClass h_r2) gX4_roadClasses_X4_isFirstOfClass hd4_isFirstOfClass hK hN hP rcX rfl ⟨rfl, rfl⟩ ⟨Nat.le_of_ble_eq_true rfl, Nat.le_of_ble_eq_true rfl⟩ rfl hl.1 rfl (Nat.le_of_ble_eq_true rfl) ⟨Nat.le_of_ble_eq_true rfl, Nat.le_of_ble_eq_true rfl⟩ dX4_roadClasses_14 ?_
        refine lv_if_eq (tgt := 23) hx hb dX4_roadClasses_17 rfl (fun c3 => ?_) (fun c3 => ?_)
        · have hrun := p_pos hrun c3
          refine lv_iinc (v := x2 + 1) (lv' := [(2, .int (x2 + 1)), (0, .ref (ad 0)), (1, .int x1)]) hx hb dX4_roadClasses_23 hl (k := 2) rfl rfl (by decide) rfl (fun ls hl => ?_)
          refine lv_goto (tgt := 4) hx hb dX4_roadClasses_26 rfl ?_
          exact ih x1 (x2 + 1) out hrun K _ (lv_sub hl [1, 2, 0] rfl)
        · have hrun := p_neg hrun c3
          refine lv_iinc (v := x1 + 1) (lv' := [(1, .int (x1 + 1)), (0, .ref (ad 0)), (2, .int x2)]) hx hb dX4_roadClasses_20 hl (k := 1) rfl rfl (by decide) rfl (fun ls hl => ?_)
          refine lv_iinc (v := x2 + 1) (lv' := [(2, .int (x2 + 1)), (1, .int (x1 + 1)), (0, .ref (ad 0))]) hx hb dX4_roadClasses_23 hl (k := 2) rfl rfl (by decide) rfl (fun ls hl => ?_)
          refine lv_goto (tgt := 4) hx hb dX4_roadClasses_26 rfl ?_
          exact ih (x1 + 1) (x2 + 1) out hrun K _ (lv_sub hl [2, 1, 0] rfl)
  unfold P4_roadClasses at hrun
  refine lv_iconst (v := 0) hx hb dX4_roadClasses_0 rfl ?_
  refine lv_istore_n (lv' := [(1, .int 0), (0, .ref (ad 0))]) hx hb dX4_roadClasses_1 rfl hl (by decide) rfl (fun ls hl => ?_)
  refine lv_iconst (v := 0) hx hb dX4_roadClasses_2 rfl ?_
  refine lv_istore_n (lv' := [(2, .int 0), (1, .int 0), (0, .ref (ad 0))]) hx hb dX4_roadClasses_3 rfl hl (by decide) rfl (fun ls hl => ?_)
  obtain ⟨o4, h_o4, hrun⟩ := p_bnd hrun
  refine loop_4 FU 0 0 o4 h_o4 (fun ls hl => ?_) _ (lv_sub hl [2, 1, 0] rfl)
  refine lv_iload_n hx hb dX4_roadClasses_29 rfl (lv_at hl 0 rfl) ?_
  cases hrun
  exact rS_i C hr hlk hQ (nbi _) rfl dX4_roadClasses_30

abbrev rm4_count : Room := { frames := 5, cells := 0, slots := 0, locals := 112 }
theorem fl4_count_10 : Cond.fieldLink RX4 10 "RiverWords" "page" "LRiverWords$Page;" ∈ wsX4_count := by decide +kernel
theorem fl4_count_25 : Cond.fieldLink RX4 25 "RiverWords" "river" "LRiverWords$River;" ∈ wsX4_count := by decide +kernel
theorem fl4_count_37 : Cond.fieldLink RX4 37 "RiverWords$Page" "size" "I" ∈ wsX4_count := by decide +kernel
theorem fl4_count_67 : Cond.fieldLink RX4 67 "RiverWords" "readings" "I" ∈ wsX4_count := by decide +kernel
theorem fl4_count_148 : Cond.fieldLink RX4 148 "RiverWords" "roadCount" "I" ∈ wsX4_count := by decide +kernel
theorem fl4_count_156 : Cond.fieldLink RX4 156 "RiverWords$River" "size" "I" ∈ wsX4_count := by decide +kernel
theorem fl4_count_219 : Cond.fieldLink RX4 219 "RiverWords$River" "cycleCount" "I" ∈ wsX4_count := by decide +kernel
theorem k4_count_36 : Cond.constant RX4 36 (-2000000102) ∈ wsX4_count := by decide +kernel
theorem inm4_count_X1 : ∀ w ∈ wsX10, w ∈ wsX4_count := by decide +kernel
theorem inm4_count_X2 : ∀ w ∈ wsX20, w ∈ wsX4_count := by decide +kernel
theorem inm4_count_X4 : ∀ w ∈ wsX40, w ∈ wsX4_count := by decide +kernel
theorem hd4_count : okD yX4_count 1 := by decide +kernel
set_option maxHeartbeats 8000000 in
set_option maxRecDepth 100000 in
theorem c4_count {x1 : Int32} {res : Int32} (hrun : P4_count v_roadCount v_readings v_psize v_rsize v_cycleCount v_wn v_wv x1 = some res) : Met l yX4_count wsX4_count rm4_count (va_Pc [.ref (ad 0), .int x1] (PS D (tyX cI cR cG) (WX ad fa ca wad cI cR cG v_roadCount v_readings v_psize v_good v_pbits v_letters v_afterLetter v_codes v_disc v_rsize v_cycleCount v_fo v_cy v_s v_closed v_traces v_crossings v_db_bits v_db_size v_db_allBits v_db_a v_db_b v_db_c v_db_d v_dn_bits v_dn_size v_dn_allBits v_dn_a v_dn_b v_dn_c v_dn_d v_wn v_wv))) (vp_Si (fun x => x = res)) 0 0 (fun _ => False) := by
  refine S_in (cc := cX4_count) (maxL := 2) (ret := (some .int)) (by decide) rfl (Nat.le_of_ble_eq_true rfl) ?_
  intro p e s m args below meth c ls Q hQ C hr hlk hK hN hP hl
  have C : CallFix p m c cX4_count 2 s args wsX4_count RX4 := C
  have hx := C.1
  have hb := C.2.1
  have hl : lv_has ls 2 [(0, .ref (ad 0)), (1, .int x1)] := hl
  unfold P4_count at hrun
  refine lv_iload_n hx hb dX4_count_0 rfl (lv_at hl 1 rfl) ?_
  by_cases c1 : x1 = 0
  · have hrun := p_pos hrun c1
    refine j_tswIn  (tgt := 44) hx hb 0 c1 dX4_count_1 (by decide) (by decide) rfl rfl ?_
    refine lv_aload_n hx hb dX4_count_44 rfl (lv_at hl 0 rfl) ?_
    refine gX_X_roadCount C inm4_count_X4 hK hP fl4_count_148 dX4_count_45 ?_
    cases hrun
    exact rS_i C hr hlk hQ (nbi _) rfl dX4_count_48
  · have hrun := p_neg hrun c1
    by_cases c2 : x1 = 1
    · have hrun := p_pos hrun c2
      refine j_tswIn  (tgt := 49) hx hb 1 c2 dX4_count_1 (by decide) (by decide) rfl rfl ?_
      refine lv_aload_n hx hb dX4_count_49 rfl (lv_at hl 0 rfl) ?_
      obtain ⟨r3, h_r3, hrun⟩ := p_bnd hrun
      refine jVS_i (rest := []) C (c4_closedRoads h_r3) gX4_count_X4_closedRoads hd4_closedRoads hK hN hP rcX rfl ⟨rfl, rfl⟩ ⟨Nat.le_of_ble_eq_true rfl, Nat.le_of_ble_eq_true rfl⟩ rfl hl.1 rfl (Nat.le_of_ble_eq_true rfl) ⟨Nat.le_of_ble_eq_true rfl, Nat.le_of_ble_eq_true rfl⟩ dX4_count_50 ?_
      cases hrun
      exact rS_i C hr hlk hQ (nbi _) rfl dX4_count_53
    · have hrun := p_neg hrun c2
      by_cases c4 : x1 = 2
      · have hrun := p_pos hrun c4
        refine j_tswIn  (tgt := 54) hx hb 2 c4 dX4_count_1 (by decide) (by decide) rfl rfl ?_
        refine lv_aload_n hx hb dX4_count_54 rfl (lv_at hl 0 rfl) ?_
        obtain ⟨r5, h_r5, hrun⟩ := p_bnd hrun
        refine jVS_i (rest := []) C (c4_roadClasses h_r5) gX4_count_X4_roadClasses hd4_roadClasses hK hN hP rcX rfl ⟨rfl, rfl⟩ ⟨Nat.le_of_ble_eq_true rfl, Nat.le_of_ble_eq_true rfl⟩ rfl hl.1 rfl (Nat.le_of_ble_eq_true rfl) ⟨Nat.le_of_ble_eq_true rfl, Nat.le_of_ble_eq_true rfl⟩ dX4_count_55 ?_
        cases hrun
        exact rS_i C hr hlk hQ (nbi _) rfl dX4_count_58
      · have hrun := p_neg hrun c4
        by_cases c6 : x1 = 3
        · have hrun := p_pos hrun c6
          refine j_tswIn  (tgt := 59) hx hb 3 c6 dX4_count_1 (by decide) (by decide) rfl rfl ?_
          refine lv_aload_n hx hb dX4_count_59 rfl (lv_at hl 0 rfl) ?_
          refine gX_X_page C inm4_count_X4 hK hP fl4_count_10 dX4_count_60 ?_
          refine gX_P_size C inm4_count_X1 hK hP fl4_count_37 dX4_count_63 ?_
          cases hrun
          exact rS_i C hr hlk hQ (nbi _) rfl dX4_count_66
        · have hrun := p_neg hrun c6
          by_cases c7 : x1 = 4
          · have hrun := p_pos hrun c7
            refine j_tswIn  (tgt := 67) hx hb 4 c7 dX4_count_1 (by decide) (by decide) rfl rfl ?_
            refine lv_aload_n hx hb dX4_count_67 rfl (lv_at hl 0 rfl) ?_
            refine gX_X_readings C inm4_count_X4 hK hP fl4_count_67 dX4_count_68 ?_
            cases hrun
            exact rS_i C hr hlk hQ (nbi _) rfl dX4_count_71
          · have hrun := p_neg hrun c7
            by_cases c8 : x1 = 5
            · have hrun := p_pos hrun c8
              refine j_tswIn  (tgt := 72) hx hb 5 c8 dX4_count_1 (by decide) (by decide) rfl rfl ?_
              refine lv_aload_n hx hb dX4_count_72 rfl (lv_at hl 0 rfl) ?_
              refine gX_X_river C inm4_count_X4 hK hP fl4_count_25 dX4_count_73 ?_
              refine gX_R_size C inm4_count_X2 hK hP fl4_count_156 dX4_count_76 ?_
              cases hrun
              exact rS_i C hr hlk hQ (nbi _) rfl dX4_count_79
            · have hrun := p_neg hrun c8
              by_cases c9 : x1 = 6
              · have hrun := p_pos hrun c9
                refine j_tswIn  (tgt := 80) hx hb 6 c9 dX4_count_1 (by decide) (by decide) rfl rfl ?_
                refine lv_aload_n hx hb dX4_count_80 rfl (lv_at hl 0 rfl) ?_
                refine gX_X_river C inm4_count_X4 hK hP fl4_count_25 dX4_count_81 ?_
                refine gX_R_cycleCount C inm4_count_X2 hK hP fl4_count_219 dX4_count_84 ?_
                cases hrun
                exact rS_i C hr hlk hQ (nbi _) rfl dX4_count_87
              · have hrun := p_neg hrun c9
                refine lv_tableOut (tgt := 88) hx hb dX4_count_1 (j_tswOut (lo := 0) (hi := 6) [0, 1, 2, 3, 4, 5, 6] (by decide) (fun k hk => by simp only [List.mem_cons, List.not_mem_nil, or_false] at hk; rcases hk with rfl | rfl | rfl | rfl | rfl | rfl | rfl <;> assumption)) rfl ?_
                refine lv_ldc (v := (-2000000102)) hx hb C.2.2.2.1 (C.2.2.2.2 _ k4_count_36) dX4_count_88 ?_
                cases hrun
                exact rS_i C hr hlk hQ (nbi _) rfl dX4_count_90

end X95
