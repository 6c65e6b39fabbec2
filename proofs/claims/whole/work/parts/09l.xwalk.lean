section X911
variable {l : Launch} {D : va_G} {sz : Nat}
variable {ad fa ca wad : Nat → Nat} {cI cR cG : ClassId}
variable {v_roadCount v_readings v_psize v_good v_pbits v_letters v_afterLetter v_disc v_rsize v_cycleCount v_closed v_traces v_crossings v_db_bits v_db_size v_db_allBits v_db_a v_db_b v_db_c v_db_d v_dn_bits v_dn_size v_dn_allBits v_dn_a v_dn_b v_dn_c v_dn_d : Int32}
variable {v_s : Int64}
variable {v_codes : Nat → Int32}
variable {v_fo v_cy v_wv : Nat → Nat → Int32}
variable {v_wn : Nat}
abbrev rm4_count : Room := { frames := 5, cells := 0, slots := 0, locals := 112 }
theorem fl4_count_10 : Cond.fieldLink RX4 10 "RiverWords" "page" "LRiverWords$Page;" ∈ wsX4_count := by decide +kernel
theorem fl4_count_25 : Cond.fieldLink RX4 25 "RiverWords" "river" "LRiverWords$River;" ∈ wsX4_count := by decide +kernel
theorem fl4_count_37 : Cond.fieldLink RX4 37 "RiverWords$Page" "size" "I" ∈ wsX4_count := by decide +kernel
theorem fl4_count_67 : Cond.fieldLink RX4 67 "RiverWords" "readings" "I" ∈ wsX4_count := by decide +kernel
theorem fl4_count_148 : Cond.fieldLink RX4 148 "RiverWords" "roadCount" "I" ∈ wsX4_count := by decide +kernel
theorem fl4_count_156 : Cond.fieldLink RX4 156 "RiverWords$River" "size" "I" ∈ wsX4_count := by decide +kernel
theorem fl4_count_219 : Cond.fieldLink RX4 219 "RiverWords$River" "cycleCount" "I" ∈ wsX4_count := by decide +kernel
theorem k4_count_36 : Cond.constant RX4 36 (-2000000102) ∈ wsX4_count := by decide +kernel
theorem inm4_count_X1 : ∀ w ∈ wsX10, w ∈ wsX4_count := by decide +kernel
theorem inm4_count_X2 : ∀ w ∈ wsX20, w ∈ wsX4_count := by decide +kernel
theorem inm4_count_X4 : ∀ w ∈ wsX40, w ∈ wsX4_count := by decide +kernel
theorem hd4_count : okD yX4_count 1 := by decide +kernel
set_option maxHeartbeats 8000000 in
set_option maxRecDepth 100000 in
theorem c4_count {x1 : Int32} {res : Int32} (hrun : P4_count v_roadCount v_readings v_psize v_rsize v_cycleCount v_wn v_wv x1 = some res) : Met l yX4_count wsX4_count rm4_count (va_Pc [.ref (ad 0), .int x1] (PS D (tyX cI cR cG) (WX ad fa ca wad cI cR cG v_roadCount v_readings v_psize v_good v_pbits v_letters v_afterLetter v_codes v_disc v_rsize v_cycleCount v_fo v_cy v_s v_closed v_traces v_crossings v_db_bits v_db_size v_db_allBits v_db_a v_db_b v_db_c v_db_d v_dn_bits v_dn_size v_dn_allBits v_dn_a v_dn_b v_dn_c v_dn_d v_wn v_wv))) (vp_Si (fun x => x = res)) 0 0 (fun _ => False) := by
  refine S_in (cc := cX4_count) (maxL := 2) (ret := (some .int)) (by decide) rfl (Nat.le_of_ble_eq_true rfl) ?_
  intro p e s m args below meth c ls Q hQ C hr hlk hK hN hP hl
  have C : CallFix p m c cX4_count 2 s args wsX4_count RX4 := C
  have hx := C.1
  have hb := C.2.1
  have hl : lv_has ls 2 [(0, .ref (ad 0)), (1, .int x1)] := hl
  unfold P4_count at hrun
  refine lv_iload_n hx hb dX4_count_0 rfl (lv_at hl 1 rfl) ?_
  by_cases c1 : x1 = 0
  · have hrun := p_pos hrun c1
    refine j_tswIn  (tgt := 44) hx hb 0 c1 dX4_count_1 (by decide) (by decide) rfl rfl ?_
    refine lv_aload_n hx hb dX4_count_44 rfl (lv_at hl 0 rfl) ?_
    refine gX_X_roadCount C inm4_count_X4 hK hP fl4_count_148 dX4_count_45 ?_
    cases hrun
    exact rS_i C hr hlk hQ (nbi _) rfl dX4_count_48
  · have hrun := p_neg hrun c1
    by_cases c2 : x1 = 1
    · have hrun := p_pos hrun c2
      refine j_tswIn  (tgt := 49) hx hb 1 c2 dX4_count_1 (by decide) (by decide) rfl rfl ?_
      refine lv_aload_n hx hb dX4_count_49 rfl (lv_at hl 0 rfl) ?_
      obtain ⟨r3, h_r3, hrun⟩ := p_bnd hrun
      refine jVS_i (rest := []) C (c4_closedRoads h_r3) gX4_count_X4_closedRoads hd4_closedRoads hK hN hP rcX rfl ⟨rfl, rfl⟩ ⟨Nat.le_of_ble_eq_true rfl, Nat.le_of_ble_eq_true rfl⟩ rfl hl.1 rfl (Nat.le_of_ble_eq_true rfl) ⟨Nat.le_of_ble_eq_true rfl, Nat.le_of_ble_eq_true rfl⟩ dX4_count_50 ?_
      cases hrun
      exact rS_i C hr hlk hQ (nbi _) rfl dX4_count_53
    · have hrun := p_neg hrun c2
      by_cases c4 : x1 = 2
      · have hrun := p_pos hrun c4
        refine j_tswIn  (tgt := 54) hx hb 2 c4 dX4_count_1 (by decide) (by decide) rfl rfl ?_
        refine lv_aload_n hx hb dX4_count_54 rfl (lv_at hl 0 rfl) ?_
        obtain ⟨r5, h_r5, hrun⟩ := p_bnd hrun
        refine jVS_i (rest := []) C (c4_roadClasses h_r5) gX4_count_X4_roadClasses hd4_roadClasses hK hN hP rcX rfl ⟨rfl, rfl⟩ ⟨Nat.le_of_ble_eq_true rfl, Nat.le_of_ble_eq_true rfl⟩ rfl hl.1 rfl (Nat.le_of_ble_eq_true rfl) ⟨Nat.le_of_ble_eq_true rfl, Nat.le_of_ble_eq_true rfl⟩ dX4_count_55 ?_
        cases hrun
        exact rS_i C hr hlk hQ (nbi _) rfl dX4_count_58
      · have hrun := p_neg hrun c4
        by_cases c6 : x1 = 3
        · have hrun := p_pos hrun c6
          refine j_tswIn  (tgt := 59) hx hb 3 c6 dX4_count_1 (by decide) (by decide) rfl rfl ?_
          refine lv_aload_n hx hb dX4_count_59 rfl (lv_at hl 0 rfl) ?_
          refine gX_X_page C inm4_count_X4 hK hP fl4_count_10 dX4_count_60 ?_
          refine gX_P_size C inm4_count_X1 hK hP fl4_count_37 dX4_count_63 ?_
          cases hrun
          exact rS_i C hr hlk hQ (nbi _) rfl dX4_count_66
        · have hrun := p_neg hrun c6
          by_cases c7 : x1 = 4
          · have hrun := p_pos hrun c7
            refine j_tswIn  (tgt := 67) hx hb 4 c7 dX4_count_1 (by decide) (by decide) rfl rfl ?_
            refine lv_aload_n hx hb dX4_count_67 rfl (lv_at hl 0 rfl) ?_
            refine gX_X_readings C inm4_count_X4 hK hP fl4_count_67 dX4_count_68 ?_
            cases hrun
            exact rS_i C hr hlk hQ (nbi _) rfl dX4_count_71
          · have hrun := p_neg hrun c7
            by_cases c8 : x1 = 5
            · have hrun := p_pos hrun c8
              refine j_tswIn  (tgt := 72) hx hb 5 c8 dX4_count_1 (by decide) (by decide) rfl rfl ?_
              refine lv_aload_n hx hb dX4_count_72 rfl (lv_at hl 0 rfl) ?_
              refine gX_X_river C inm4_count_X4 hK hP fl4_count_25 dX4_count_73 ?_
              refine gX_R_size C inm4_count_X2 hK hP fl4_count_156 dX4_count_76 ?_
              cases hrun
              exact rS_i C hr hlk hQ (nbi _) rfl dX4_count_79
            · have hrun := p_neg hrun c8
              by_cases c9 : x1 = 6
              · have hrun := p_pos hrun c9
                refine j_tswIn  (tgt := 80) hx hb 6 c9 dX4_count_1 (by decide) (by decide) rfl rfl ?_
                refine lv_aload_n hx hb dX4_count_80 rfl (lv_at hl 0 rfl) ?_
                refine gX_X_river C inm4_count_X4 hK hP fl4_count_25 dX4_count_81 ?_
                refine gX_R_cycleCount C inm4_count_X2 hK hP fl4_count_219 dX4_count_84 ?_
                cases hrun
                exact rS_i C hr hlk hQ (nbi _) rfl dX4_count_87
              · have hrun := p_neg hrun c9
                refine lv_tableOut (tgt := 88) hx hb dX4_count_1 (j_tswOut (lo := 0) (hi := 6) [0, 1, 2, 3, 4, 5, 6] (by decide) (fun k hk => by simp only [List.mem_cons, List.not_mem_nil, or_false] at hk; rcases hk with rfl | rfl | rfl | rfl | rfl | rfl | rfl <;> assumption)) rfl ?_
                refine lv_ldc (v := (-2000000102)) hx hb C.2.2.2.1 (C.2.2.2.2 _ k4_count_36) dX4_count_88 ?_
                cases hrun
                exact rS_i C hr hlk hQ (nbi _) rfl dX4_count_90

abbrev rm4_hashRoad : Room := { frames := 4, cells := 0, slots := 0, locals := 94 }
theorem hd4_hashRoad : okD yX4_hashRoad 2 := by decide +kernel
set_option maxHeartbeats 8000000 in
set_option maxRecDepth 100000 in
theorem c4_hashRoad {l1 : Int64} {x3 : Int32} {res : Int64} (hrun : P4_hashRoad v_roadCount v_wn v_wv l1 x3 = some res) : Met l yX4_hashRoad wsX4_hashRoad rm4_hashRoad (va_Pc [.ref (ad 0), .long l1, .int x3] (PS D (tyX cI cR cG) (WX ad fa ca wad cI cR cG v_roadCount v_readings v_psize v_good v_pbits v_letters v_afterLetter v_codes v_disc v_rsize v_cycleCount v_fo v_cy v_s v_closed v_traces v_crossings v_db_bits v_db_size v_db_allBits v_db_a v_db_b v_db_c v_db_d v_dn_bits v_dn_size v_dn_allBits v_dn_a v_dn_b v_dn_c v_dn_d v_wn v_wv))) (vp_Sl (fun x => x = res)) 0 0 (fun _ => False) := by
  refine S_in (cc := cX4_hashRoad) (maxL := 8) (ret := (some .long)) (by decide) rfl (Nat.le_of_ble_eq_true rfl) ?_
  intro p e s m args below meth c ls Q hQ C hr hlk hK hN hP hl
  have C : CallFix p m c cX4_hashRoad 8 s args wsX4_hashRoad RX4 := C
  have hx := C.1
  have hb := C.2.1
  have hl : lv_has ls 8 [(0, .ref (ad 0)), (1, .long l1), (3, .int x3)] := hl
  have loop_6 : ∀ (n : Nat) (l4 : Int64) (x6 : Int32) (out : Int64), P4_hashRoad_6 v_roadCount v_wn v_wv x3 n l4 x6 = some out → (∀ (ls : Array Slot), lv_has ls 8 [(0, .ref (ad 0)), (3, .int x3), (4, .long out)] → W p l e rm4_hashRoad s m args below meth c s.heap [] 0 0 Q (F0 m 33 ls [])) → ∀ (ls : Array Slot), lv_has ls 8 [(0, .ref (ad 0)), (3, .int x3), (4, .long l4), (6, .int x6)] → W p l e rm4_hashRoad s m args below meth c s.heap [] 0 0 Q (F0 m 6 ls []) := by
    intro n
    induction n with
    | zero =>
      intro l4 x6 out hrun K ls hl
      cases hrun
    | succ n ih =>
      intro l4 x6 out hrun K ls hl
      rw [P4_hashRoad_6] at hrun
      refine lv_iload hx hb dX4_hashRoad_6 (lv_at hl 3 rfl) ?_
      refine lv_bipush (v := 10) hx hb dX4_hashRoad_8 rfl ?_
      refine lv_icmp_ge (tgt := 33) hx hb dX4_hashRoad_10 rfl (fun c1 => ?_) (fun c1 => ?_)
      · have hrun := p_pos hrun c1
        cases hrun
        exact K _ (lv_sub hl [0, 1, 2] rfl)
      · have hrun := p_neg hrun c1
        refine lv_lload hx hb dX4_hashRoad_13 (lv_at hl 2 rfl) ?_
        refine lv_aload_n hx hb dX4_hashRoad_15 rfl (lv_at hl 0 rfl) ?_
        refine lv_iload_n hx hb dX4_hashRoad_16 rfl (lv_at hl 1 rfl) ?_
        refine lv_iload hx hb dX4_hashRoad_17 (lv_at hl 3 rfl) ?_
        obtain ⟨r2, h_r2, hrun⟩ := p_bnd hrun
        refine jVS_i (rest := [.long l4]) C (c4_road h_r2) gX4_hashRoad_X4_road hd4_road hK hN hP rcX rfl ⟨rfl, rfl⟩ ⟨Nat.le_of_ble_eq_true rfl, Nat.le_of_ble_eq_true rfl⟩ rfl hl.1 rfl (Nat.le_of_ble_eq_true rfl) ⟨Nat.le_of_ble_eq_true rfl, Nat.le_of_ble_eq_true rfl⟩ dX4_hashRoad_19 ?_
        obtain ⟨r3, h_r3, hrun⟩ := p_bnd hrun
        refine jSS_l (rest := []) C (c4_mix h_r3) gX4_hashRoad_X4_mix hd4_mix rfl ⟨rfl, rfl⟩ ⟨Nat.le_of_ble_eq_true rfl, Nat.le_of_ble_eq_true rfl⟩ rfl hl.1 rfl (Nat.le_of_ble_eq_true rfl) ⟨Nat.le_of_ble_eq_true rfl, Nat.le_of_ble_eq_true rfl⟩ dX4_hashRoad_22 ?_
        refine lv_lstore (lv' := [(4, .long r3), (0, .ref (ad 0)), (3, .int x3), (6, .int x6)]) hx hb dX4_hashRoad_25 hl (by decide) rfl (fun ls hl => ?_)
        refine lv_iinc (v := x6 + 1) (lv' := [(6, .int (x6 + 1)), (4, .long r3), (0, .ref (ad 0)), (3, .int x3)]) hx hb dX4_hashRoad_27 hl (k := 3) rfl rfl (by decide) rfl (fun ls hl => ?_)
        refine lv_goto (tgt := 6) hx hb dX4_hashRoad_30 rfl ?_
        exact ih r3 (x6 + 1) out hrun K _ (lv_sub hl [2, 3, 1, 0] rfl)
  have loop_44 : ∀ (x6 : Int32) (n : Nat) (l4 : Int64) (x7 : Int32) (out : Int64), P4_hashRoad_44 v_roadCount v_wn v_wv x3 x6 n l4 x7 = some out → (∀ (ls : Array Slot), lv_has ls 8 [(0, .ref (ad 0)), (3, .int x3), (4, .long out)] → W p l e rm4_hashRoad s m args below meth c s.heap [] 0 0 Q (F0 m 71 ls [])) → ∀ (ls : Array Slot), lv_has ls 8 [(0, .ref (ad 0)), (3, .int x3), (4, .long l4), (6, .int x6), (7, .int x7)] → W p l e rm4_hashRoad s m args below meth c s.heap [] 0 0 Q (F0 m 44 ls []) := by
    intro x6 n
    induction n with
    | zero =>
      intro l4 x7 out hrun K ls hl
      cases hrun
    | succ n ih =>
      intro l4 x7 out hrun K ls hl
      rw [P4_hashRoad_44] at hrun
      refine lv_iload hx hb dX4_hashRoad_44 (lv_at hl 4 rfl) ?_
      refine lv_iload hx hb dX4_hashRoad_46 (lv_at hl 3 rfl) ?_
      refine lv_icmp_ge (tgt := 71) hx hb dX4_hashRoad_48 rfl (fun c6 => ?_) (fun c6 => ?_)
      · have hrun := p_pos hrun c6
        cases hrun
        exact K _ (lv_sub hl [0, 1, 2] rfl)
      · have hrun := p_neg hrun c6
        refine lv_lload hx hb dX4_hashRoad_51 (lv_at hl 2 rfl) ?_
        refine lv_aload_n hx hb dX4_hashRoad_53 rfl (lv_at hl 0 rfl) ?_
        refine lv_iload_n hx hb dX4_hashRoad_54 rfl (lv_at hl 1 rfl) ?_
        refine lv_iload hx hb dX4_hashRoad_55 (lv_at hl 4 rfl) ?_
        obtain ⟨r7, h_r7, hrun⟩ := p_bnd hrun
        refine jVS_i (rest := [.long l4]) C (c4_sign h_r7) gX4_hashRoad_X4_sign hd4_sign hK hN hP rcX rfl ⟨rfl, rfl⟩ ⟨Nat.le_of_ble_eq_true rfl, Nat.le_of_ble_eq_true rfl⟩ rfl hl.1 rfl (Nat.le_of_ble_eq_true rfl) ⟨Nat.le_of_ble_eq_true rfl, Nat.le_of_ble_eq_true rfl⟩ dX4_hashRoad_57 ?_
        obtain ⟨r8, h_r8, hrun⟩ := p_bnd hrun
        refine jSS_l (rest := []) C (c4_mix h_r8) gX4_hashRoad_X4_mix hd4_mix rfl ⟨rfl, rfl⟩ ⟨Nat.le_of_ble_eq_true rfl, Nat.le_of_ble_eq_true rfl⟩ rfl hl.1 rfl (Nat.le_of_ble_eq_true rfl) ⟨Nat.le_of_ble_eq_true rfl, Nat.le_of_ble_eq_true rfl⟩ dX4_hashRoad_60 ?_
        refine lv_lstore (lv' := [(4, .long r8), (0, .ref (ad 0)), (3, .int x3), (6, .int x6), (7, .int x7)]) hx hb dX4_hashRoad_63 hl (by decide) rfl (fun ls hl => ?_)
        refine lv_iinc (v := x7 + 1) (lv' := [(7, .int (x7 + 1)), (4, .long r8), (0, .ref (ad 0)), (3, .int x3), (6, .int x6)]) hx hb dX4_hashRoad_65 hl (k := 4) rfl rfl (by decide) rfl (fun ls hl => ?_)
        refine lv_goto (tgt := 44) hx hb dX4_hashRoad_68 rfl ?_
        exact ih r8 (x7 + 1) out hrun K _ (lv_sub hl [2, 3, 1, 4, 0] rfl)
  have loop_74 : ∀ (n : Nat) (l4 : Int64) (x7 : Int32) (out : Int64), P4_hashRoad_74 v_roadCount v_wn v_wv x3 n l4 x7 = some out → (∀ (ls : Array Slot), lv_has ls 8 [(0, .ref (ad 0)), (3, .int x3), (4, .long out)] → W p l e rm4_hashRoad s m args below meth c s.heap [] 0 0 Q (F0 m 100 ls [])) → ∀ (ls : Array Slot), lv_has ls 8 [(0, .ref (ad 0)), (3, .int x3), (4, .long l4), (7, .int x7)] → W p l e rm4_hashRoad s m args below meth c s.heap [] 0 0 Q (F0 m 74 ls []) := by
    intro n
    induction n with
    | zero =>
      intro l4 x7 out hrun K ls hl
      cases hrun
    | succ n ih =>
      intro l4 x7 out hrun K ls hl
      rw [P4_hashRoad_74] at hrun
      refine lv_iload hx hb dX4_hashRoad_74 (lv_at hl 3 rfl) ?_
      refine lv_iconst (v := 4) hx hb dX4_hashRoad_76 rfl ?_
      refine lv_icmp_ge (tgt := 100) hx hb dX4_hashRoad_77 rfl (fun c10 => ?_) (fun c10 => ?_)
      · have hrun := p_pos hrun c10
        cases hrun
        exact K _ (lv_sub hl [0, 1, 2] rfl)
      · have hrun := p_neg hrun c10
        refine lv_lload hx hb dX4_hashRoad_80 (lv_at hl 2 rfl) ?_
        refine lv_aload_n hx hb dX4_hashRoad_82 rfl (lv_at hl 0 rfl) ?_
        refine lv_iload_n hx hb dX4_hashRoad_83 rfl (lv_at hl 1 rfl) ?_
        refine lv_iload hx hb dX4_hashRoad_84 (lv_at hl 3 rfl) ?_
        obtain ⟨r11, h_r11, hrun⟩ := p_bnd hrun
        refine jVS_i (rest := [.long l4]) C (c4_table h_r11) gX4_hashRoad_X4_table hd4_table hK hN hP rcX rfl ⟨rfl, rfl⟩ ⟨Nat.le_of_ble_eq_true rfl, Nat.le_of_ble_eq_true rfl⟩ rfl hl.1 rfl (Nat.le_of_ble_eq_true rfl) ⟨Nat.le_of_ble_eq_true rfl, Nat.le_of_ble_eq_true rfl⟩ dX4_hashRoad_86 ?_
        obtain ⟨r12, h_r12, hrun⟩ := p_bnd hrun
        refine jSS_l (rest := []) C (c4_mix h_r12) gX4_hashRoad_X4_mix hd4_mix rfl ⟨rfl, rfl⟩ ⟨Nat.le_of_ble_eq_true rfl, Nat.le_of_ble_eq_true rfl⟩ rfl hl.1 rfl (Nat.le_of_ble_eq_true rfl) ⟨Nat.le_of_ble_eq_true rfl, Nat.le_of_ble_eq_true rfl⟩ dX4_hashRoad_89 ?_
        refine lv_lstore (lv' := [(4, .long r12), (0, .ref (ad 0)), (3, .int x3), (7, .int x7)]) hx hb dX4_hashRoad_92 hl (by decide) rfl (fun ls hl => ?_)
        refine lv_iinc (v := x7 + 1) (lv' := [(7, .int (x7 + 1)), (4, .long r12), (0, .ref (ad 0)), (3, .int x3)]) hx hb dX4_hashRoad_94 hl (k := 3) rfl rfl (by decide) rfl (fun ls hl => ?_)
        refine lv_goto (tgt := 74) hx hb dX4_hashRoad_97 rfl ?_
        exact ih r12 (x7 + 1) out hrun K _ (lv_sub hl [2, 3, 1, 0] rfl)
  have loop_103 : ∀ (n : Nat) (l4 : Int64) (x7 : Int32) (out : Int64), P4_hashRoad_103 v_roadCount v_wn v_wv x3 n l4 x7 = some out → (∀ (ls : Array Slot), lv_has ls 8 [(0, .ref (ad 0)), (3, .int x3), (4, .long out)] → W p l e rm4_hashRoad s m args below meth c s.heap [] 0 0 Q (F0 m 129 ls [])) → ∀ (ls : Array Slot), lv_has ls 8 [(0, .ref (ad 0)), (3, .int x3), (4, .long l4), (7, .int x7)] → W p l e rm4_hashRoad s m args below meth c s.heap [] 0 0 Q (F0 m 103 ls []) := by
    intro n
    induction n with
    | zero =>
      intro l4 x7 out hrun K ls hl
      cases hrun
    | succ n ih =>
      intro l4 x7 out hrun K ls hl
      rw [P4_hashRoad_103] at hrun
      refine lv_iload hx hb dX4_hashRoad_103 (lv_at hl 3 rfl) ?_
      refine lv_iconst (v := 2) hx hb dX4_hashRoad_105 rfl ?_
      refine lv_icmp_ge (tgt := 129) hx hb dX4_hashRoad_106 rfl (fun c14 => ?_) (fun c14 => ?_)
      · have hrun := p_pos hrun c14
        cases hrun
        exact K _ (lv_sub hl [0, 1, 2] rfl)
      · have hrun := p_neg hrun c14
        refine lv_lload hx hb dX4_hashRoad_109 (lv_at hl 2 rfl) ?_
        refine lv_aload_n hx hb dX4_hashRoad_111 rfl (lv_at hl 0 rfl) ?_
        refine lv_iload_n hx hb dX4_hashRoad_112 rfl (lv_at hl 1 rfl) ?_
        refine lv_iload hx hb dX4_hashRoad_113 (lv_at hl 3 rfl) ?_
        obtain ⟨r15, h_r15, hrun⟩ := p_bnd hrun
        refine jVS_i (rest := [.long l4]) C (c4_end h_r15) gX4_hashRoad_X4_end hd4_end hK hN hP rcX rfl ⟨rfl, rfl⟩ ⟨Nat.le_of_ble_eq_true rfl, Nat.le_of_ble_eq_true rfl⟩ rfl hl.1 rfl (Nat.le_of_ble_eq_true rfl) ⟨Nat.le_of_ble_eq_true rfl, Nat.le_of_ble_eq_true rfl⟩ dX4_hashRoad_115 ?_
        obtain ⟨r16, h_r16, hrun⟩ := p_bnd hrun
        refine jSS_l (rest := []) C (c4_mix h_r16) gX4_hashRoad_X4_mix hd4_mix rfl ⟨rfl, rfl⟩ ⟨Nat.le_of_ble_eq_true rfl, Nat.le_of_ble_eq_true rfl⟩ rfl hl.1 rfl (Nat.le_of_ble_eq_true rfl) ⟨Nat.le_of_ble_eq_true rfl, Nat.le_of_ble_eq_true rfl⟩ dX4_hashRoad_118 ?_
        refine lv_lstore (lv' := [(4, .long r16), (0, .ref (ad 0)), (3, .int x3), (7, .int x7)]) hx hb dX4_hashRoad_121 hl (by decide) rfl (fun ls hl => ?_)
        refine lv_iinc (v := x7 + 1) (lv' := [(7, .int (x7 + 1)), (4, .long r16), (0, .ref (ad 0)), (3, .int x3)]) hx hb dX4_hashRoad_123 hl (k := 3) rfl rfl (by decide) rfl (fun ls hl => ?_)
        refine lv_goto (tgt := 103) hx hb dX4_hashRoad_126 rfl ?_
        exact ih r16 (x7 + 1) out hrun K _ (lv_sub hl [2, 3, 1, 0] rfl)
  have loop_132 : ∀ (n : Nat) (l4 : Int64) (x7 : Int32) (out : Int64), P4_hashRoad_132 v_roadCount v_wn v_wv x3 n l4 x7 = some out → (∀ (ls : Array Slot), lv_has ls 8 [(4, .long out)] → W p l e rm4_hashRoad s m args below meth c s.heap [] 0 0 Q (F0 m 166 ls [])) → ∀ (ls : Array Slot), lv_has ls 8 [(0, .ref (ad 0)), (3, .int x3), (4, .long l4), (7, .int x7)] → W p l e rm4_hashRoad s m args below meth c s.heap [] 0 0 Q (F0 m 132 ls []) := by
    intro n
    induction n with
    | zero =>
      intro l4 x7 out hrun K ls hl
      cases hrun
    | succ n ih =>
      intro l4 x7 out hrun K ls hl
      rw [P4_hashRoad_132] at hrun
      refine lv_iload hx hb dX4_hashRoad_132 (lv_at hl 3 rfl) ?_
      refine lv_iconst (v := 5) hx hb dX4_hashRoad_134 rfl ?_
      refine lv_icmp_ge (tgt := 166) hx hb dX4_hashRoad_135 rfl (fun c18 => ?_) (fun c18 => ?_)
      · have hrun := p_pos hrun c18
        cases hrun
        exact K _ (lv_sub hl [2] rfl)
      · have hrun := p_neg hrun c18
        refine lv_aload_n hx hb dX4_hashRoad_138 rfl (lv_at hl 0 rfl) ?_
        refine lv_iload_n hx hb dX4_hashRoad_139 rfl (lv_at hl 1 rfl) ?_
        obtain ⟨r19, h_r19, hrun⟩ := p_bnd hrun
        refine jVS_i (rest := []) C (c4_isClosedRoad h_r19) gX4_hashRoad_X4_isClosedRoad hd4_isClosedRoad hK hN hP rcX rfl ⟨rfl, rfl⟩ ⟨Nat.le_of_ble_eq_true rfl, Nat.le_of_ble_eq_true rfl⟩ rfl hl.1 rfl (Nat.le_of_ble_eq_true rfl) ⟨Nat.le_of_ble_eq_true rfl, Nat.le_of_ble_eq_true rfl⟩ dX4_hashRoad_140 ?_
        refine lv_if_eq (tgt := 166) hx hb dX4_hashRoad_143 rfl (fun c20 => ?_) (fun c20 => ?_)
        · have hrun := p_pos hrun c20
          cases hrun
          exact K _ (lv_sub hl [2] rfl)
        · have hrun := p_neg hrun c20
          refine lv_lload hx hb dX4_hashRoad_146 (lv_at hl 2 rfl) ?_
          refine lv_aload_n hx hb dX4_hashRoad_148 rfl (lv_at hl 0 rfl) ?_
          refine lv_iload_n hx hb dX4_hashRoad_149 rfl (lv_at hl 1 rfl) ?_
          refine lv_iload hx hb dX4_hashRoad_150 (lv_at hl 3 rfl) ?_
          obtain ⟨r21, h_r21, hrun⟩ := p_bnd hrun
          refine jVS_i (rest := [.long l4]) C (c4_form h_r21) gX4_hashRoad_X4_form hd4_form hK hN hP rcX rfl ⟨rfl, rfl⟩ ⟨Nat.le_of_ble_eq_true rfl, Nat.le_of_ble_eq_true rfl⟩ rfl hl.1 rfl (Nat.le_of_ble_eq_true rfl) ⟨Nat.le_of_ble_eq_true rfl, Nat.le_of_ble_eq_true rfl⟩ dX4_hashRoad_152 ?_
          obtain ⟨r22, h_r22, hrun⟩ := p_bnd hrun
          refine jSS_l (rest := []) C (c4_mix h_r22) gX4_hashRoad_X4_mix hd4_mix rfl ⟨rfl, rfl⟩ ⟨Nat.le_of_ble_eq_true rfl, Nat.le_of_ble_eq_true rfl⟩ rfl hl.1 rfl (Nat.le_of_ble_eq_true rfl) ⟨Nat.le_of_ble_eq_true rfl, Nat.le_of_ble_eq_true rfl⟩ dX4_hashRoad_155 ?_
          refine lv_lstore (lv' := [(4, .long r22), (0, .ref (ad 0)), (3, .int x3), (7, .int x7)]) hx hb dX4_hashRoad_158 hl (by decide) rfl (fun ls hl => ?_)
          refine lv_iinc (v := x7 + 1) (lv' := [(7, .int (x7 + 1)), (4, .long r22), (0, .ref (ad 0)), (3, .int x3)]) hx hb dX4_hashRoad_160 hl (k := 3) rfl rfl (by decide) rfl (fun ls hl => ?_)
          refine lv_goto (tgt := 132) hx hb dX4_hashRoad_163 rfl ?_
          exact ih r22 (x7 + 1) out hrun K _ (lv_sub hl [2, 3, 1, 0] rfl)
  unfold P4_hashRoad at hrun
  refine lv_lload_n hx hb dX4_hashRoad_0 rfl (lv_at hl 1 rfl) ?_
  refine lv_lstore (lv' := [(4, .long l1), (0, .ref (ad 0)), (1, .long l1), (3, .int x3)]) hx hb dX4_hashRoad_1 hl (by decide) rfl (fun ls hl => ?_)
  refine lv_iconst (v := 0) hx hb dX4_hashRoad_3 rfl ?_
  refine lv_istore (lv' := [(6, .int 0), (4, .long l1), (0, .ref (ad 0)), (1, .long l1), (3, .int x3)]) hx hb dX4_hashRoad_4 hl (by decide) rfl (fun ls hl => ?_)
  obtain ⟨o4, h_o4, hrun⟩ := p_bnd hrun
  refine loop_6 FU l1 0 o4 h_o4 (fun ls hl => ?_) _ (lv_sub hl [2, 4, 1, 0] rfl)
  refine lv_aload_n hx hb dX4_hashRoad_33 rfl (lv_at hl 0 rfl) ?_
  refine lv_iload_n hx hb dX4_hashRoad_34 rfl (lv_at hl 1 rfl) ?_
  refine lv_iconst (v := 0) hx hb dX4_hashRoad_35 rfl ?_
  obtain ⟨r5, h_r5, hrun⟩ := p_bnd hrun
  refine jVS_i (rest := []) C (c4_road h_r5) gX4_hashRoad_X4_road hd4_road hK hN hP rcX rfl ⟨rfl, rfl⟩ ⟨Nat.le_of_ble_eq_true rfl, Nat.le_of_ble_eq_true rfl⟩ rfl hl.1 rfl (Nat.le_of_ble_eq_true rfl) ⟨Nat.le_of_ble_eq_true rfl, Nat.le_of_ble_eq_true rfl⟩ dX4_hashRoad_36 ?_
  refine lv_istore (lv' := [(6, .int r5), (0, .ref (ad 0)), (3, .int x3), (4, .long o4)]) hx hb dX4_hashRoad_39 hl (by decide) rfl (fun ls hl => ?_)
  refine lv_iconst (v := 0) hx hb dX4_hashRoad_41 rfl ?_
  refine lv_istore (lv' := [(7, .int 0), (6, .int r5), (0, .ref (ad 0)), (3, .int x3), (4, .long o4)]) hx hb dX4_hashRoad_42 hl (by decide) rfl (fun ls hl => ?_)
  obtain ⟨o9, h_o9, hrun⟩ := p_bnd hrun
  refine loop_44 r5 FU o4 0 o9 h_o9 (fun ls hl => ?_) _ (lv_sub hl [2, 3, 4, 1, 0] rfl)
  refine lv_iconst (v := 0) hx hb dX4_hashRoad_71 rfl ?_
  refine lv_istore (lv' := [(7, .int 0), (0, .ref (ad 0)), (3, .int x3), (4, .long o9)]) hx hb dX4_hashRoad_72 hl (by decide) rfl (fun ls hl => ?_)
  obtain ⟨o13, h_o13, hrun⟩ := p_bnd hrun
  refine loop_74 FU o9 0 o13 h_o13 (fun ls hl => ?_) _ (lv_sub hl [1, 2, 3, 0] rfl)
  refine lv_iconst (v := 0) hx hb dX4_hashRoad_100 rfl ?_
  refine lv_istore (lv' := [(7, .int 0), (0, .ref (ad 0)), (3, .int x3), (4, .long o13)]) hx hb dX4_hashRoad_101 hl (by decide) rfl (fun ls hl => ?_)
  obtain ⟨o17, h_o17, hrun⟩ := p_bnd hrun
  refine loop_103 FU o13 0 o17 h_o17 (fun ls hl => ?_) _ (lv_sub hl [1, 2, 3, 0] rfl)
  refine lv_iconst (v := 0) hx hb dX4_hashRoad_129 rfl ?_
  refine lv_istore (lv' := [(7, .int 0), (0, .ref (ad 0)), (3, .int x3), (4, .long o17)]) hx hb dX4_hashRoad_130 hl (by decide) rfl (fun ls hl => ?_)
  obtain ⟨o23, h_o23, hrun⟩ := p_bnd hrun
  refine loop_132 FU o17 0 o23 h_o23 (fun ls hl => ?_) _ (lv_sub hl [1, 2, 3, 0] rfl)
  refine lv_lload hx hb dX4_hashRoad_166 (lv_at hl 0 rfl) ?_
  cases hrun
  exact rS_l C hr hlk hQ rfl dX4_hashRoad_168

abbrev rm4_hashRoads : Room := { frames := 5, cells := 0, slots := 0, locals := 121 }
theorem fl4_hashRoads_148 : Cond.fieldLink RX4 148 "RiverWords" "roadCount" "I" ∈ wsX4_hashRoads := by decide +kernel
theorem inm4_hashRoads_X4 : ∀ w ∈ wsX40, w ∈ wsX4_hashRoads := by decide +kernel
theorem hd4_hashRoads : okD yX4_hashRoads 1 := by decide +kernel
set_option maxHeartbeats 8000000 in
set_option maxRecDepth 100000 in
theorem c4_hashRoads {l1 : Int64} {res : Int64} (hrun : P4_hashRoads v_roadCount v_wn v_wv l1 = some res) : Met l yX4_hashRoads wsX4_hashRoads rm4_hashRoads (va_Pc [.ref (ad 0), .long l1] (PS D (tyX cI cR cG) (WX ad fa ca wad cI cR cG v_roadCount v_readings v_psize v_good v_pbits v_letters v_afterLetter v_codes v_disc v_rsize v_cycleCount v_fo v_cy v_s v_closed v_traces v_crossings v_db_bits v_db_size v_db_allBits v_db_a v_db_b v_db_c v_db_d v_dn_bits v_dn_size v_dn_allBits v_dn_a v_dn_b v_dn_c v_dn_d v_wn v_wv))) (vp_Sl (fun x => x = res)) 0 0 (fun _ => False) := by
  refine S_in (cc := cX4_hashRoads) (maxL := 6) (ret := (some .long)) (by decide) rfl (Nat.le_of_ble_eq_true rfl) ?_
  intro p e s m args below meth c ls Q hQ C hr hlk hK hN hP hl
  have C : CallFix p m c cX4_hashRoads 6 s args wsX4_hashRoads RX4 := C
  have hx := C.1
  have hb := C.2.1
  have hl : lv_has ls 6 [(0, .ref (ad 0)), (1, .long l1)] := hl
  have loop_5 : ∀ (n : Nat) (l3 : Int64) (x5 : Int32) (out : Int64), P4_hashRoads_5 v_roadCount v_wn v_wv n l3 x5 = some out → (∀ (ls : Array Slot), lv_has ls 6 [(3, .long out)] → W p l e rm4_hashRoads s m args below meth c s.heap [] 0 0 Q (F0 m 28 ls [])) → ∀ (ls : Array Slot), lv_has ls 6 [(0, .ref (ad 0)), (3, .long l3), (5, .int x5)] → W p l e rm4_hashRoads s m args below meth c s.heap [] 0 0 Q (F0 m 5 ls []) := by
    intro n
    induction n with
    | zero =>
      intro l3 x5 out hrun K ls hl
      cases hrun
    | succ n ih =>
      intro l3 x5 out hrun K ls hl
      rw [P4_hashRoads_5] at hrun
      refine lv_iload hx hb dX4_hashRoads_5 (lv_at hl 2 rfl) ?_
      refine lv_aload_n hx hb dX4_hashRoads_7 rfl (lv_at hl 0 rfl) ?_
      refine gX_X_roadCount C inm4_hashRoads_X4 hK hP fl4_hashRoads_148 dX4_hashRoads_8 ?_
      refine lv_icmp_ge (tgt := 28) hx hb dX4_hashRoads_11 rfl (fun c1 => ?_) (fun c1 => ?_)
      · have hrun := p_pos hrun c1
        cases hrun
        exact K _ (lv_sub hl [1] rfl)
      · have hrun := p_neg hrun c1
        refine lv_aload_n hx hb dX4_hashRoads_14 rfl (lv_at hl 0 rfl) ?_
        refine lv_lload_n hx hb dX4_hashRoads_15 rfl (lv_at hl 1 rfl) ?_
        refine lv_iload hx hb dX4_hashRoads_16 (lv_at hl 2 rfl) ?_
        obtain ⟨r2, h_r2, hrun⟩ := p_bnd hrun
        refine jVS_l (rest := []) C (c4_hashRoad h_r2) gX4_hashRoads_X4_hashRoad hd4_hashRoad hK hN hP rcX rfl ⟨rfl, rfl⟩ ⟨Nat.le_of_ble_eq_true rfl, Nat.le_of_ble_eq_true rfl⟩ rfl hl.1 rfl (Nat.le_of_ble_eq_true rfl) ⟨Nat.le_of_ble_eq_true rfl, Nat.le_of_ble_eq_true rfl⟩ dX4_hashRoads_18 ?_
        refine lv_lstore_n (lv' := [(3, .long r2), (0, .ref (ad 0)), (5, .int x5)]) hx hb dX4_hashRoads_21 rfl hl (by decide) rfl (fun ls hl => ?_)
        refine lv_iinc (v := x5 + 1) (lv' := [(5, .int (x5 + 1)), (3, .long r2), (0, .ref (ad 0))]) hx hb dX4_hashRoads_22 hl (k := 2) rfl rfl (by decide) rfl (fun ls hl => ?_)
        refine lv_goto (tgt := 5) hx hb dX4_hashRoads_25 rfl ?_
        exact ih r2 (x5 + 1) out hrun K _ (lv_sub hl [2, 1, 0] rfl)
  unfold P4_hashRoads at hrun
  refine lv_lload_n hx hb dX4_hashRoads_0 rfl (lv_at hl 1 rfl) ?_
  refine lv_lstore_n (lv' := [(3, .long l1), (0, .ref (ad 0)), (1, .long l1)]) hx hb dX4_hashRoads_1 rfl hl (by decide) rfl (fun ls hl => ?_)
  refine lv_iconst (v := 0) hx hb dX4_hashRoads_2 rfl ?_
  refine lv_istore (lv' := [(5, .int 0), (3, .long l1), (0, .ref (ad 0)), (1, .long l1)]) hx hb dX4_hashRoads_3 hl (by decide) rfl (fun ls hl => ?_)
  obtain ⟨o3, h_o3, hrun⟩ := p_bnd hrun
  refine loop_5 FU l1 0 o3 h_o3 (fun ls hl => ?_) _ (lv_sub hl [2, 1, 0] rfl)
  refine lv_lload_n hx hb dX4_hashRoads_28 rfl (lv_at hl 0 rfl) ?_
  cases hrun
  exact rS_l C hr hlk hQ rfl dX4_hashRoads_29

abbrev rm4_hashCrossings : Room := { frames := 4, cells := 0, slots := 0, locals := 95 }
theorem fl4_hashCrossings_148 : Cond.fieldLink RX4 148 "RiverWords" "roadCount" "I" ∈ wsX4_hashCrossings := by decide +kernel
theorem inm4_hashCrossings_X4 : ∀ w ∈ wsX40, w ∈ wsX4_hashCrossings := by decide +kernel
theorem hd4_hashCrossings : okD yX4_hashCrossings 1 := by decide +kernel
set_option maxHeartbeats 8000000 in
set_option maxRecDepth 100000 in
theorem c4_hashCrossings {l1 : Int64} {res : Int64} (hrun : P4_hashCrossings v_roadCount v_wn v_wv l1 = some res) : Met l yX4_hashCrossings wsX4_hashCrossings rm4_hashCrossings (va_Pc [.ref (ad 0), .long l1] (PS D (tyX cI cR cG) (WX ad fa ca wad cI cR cG v_roadCount v_readings v_psize v_good v_pbits v_letters v_afterLetter v_codes v_disc v_rsize v_cycleCount v_fo v_cy v_s v_closed v_traces v_crossings v_db_bits v_db_size v_db_allBits v_db_a v_db_b v_db_c v_db_d v_dn_bits v_dn_size v_dn_allBits v_dn_a v_dn_b v_dn_c v_dn_d v_wn v_wv))) (vp_Sl (fun x => x = res)) 0 0 (fun _ => False) := by
  refine S_in (cc := cX4_hashCrossings) (maxL := 7) (ret := (some .long)) (by decide) rfl (Nat.le_of_ble_eq_true rfl) ?_
  intro p e s m args below meth c ls Q hQ C hr hlk hK hN hP hl
  have C : CallFix p m c cX4_hashCrossings 7 s args wsX4_hashCrossings RX4 := C
  have hx := C.1
  have hb := C.2.1
  have hl : lv_has ls 7 [(0, .ref (ad 0)), (1, .long l1)] := hl
  have loop_18 : ∀ (x5 : Int32) (n : Nat) (l3 : Int64) (x6 : Int32) (out : Int64), P4_hashCrossings_18 v_roadCount v_wn v_wv x5 n l3 x6 = some out → (∀ (ls : Array Slot), lv_has ls 7 [(0, .ref (ad 0)), (3, .long out), (5, .int x5)] → W p l e rm4_hashCrossings s m args below meth c s.heap [] 0 0 Q (F0 m 64 ls [])) → ∀ (ls : Array Slot), lv_has ls 7 [(0, .ref (ad 0)), (3, .long l3), (5, .int x5), (6, .int x6)] → W p l e rm4_hashCrossings s m args below meth c s.heap [] 0 0 Q (F0 m 18 ls []) := by
    intro x5 n
    induction n with
    | zero =>
      intro l3 x6 out hrun K ls hl
      cases hrun
    | succ n ih =>
      intro l3 x6 out hrun K ls hl
      rw [P4_hashCrossings_18] at hrun
      refine lv_iload hx hb dX4_hashCrossings_18 (lv_at hl 3 rfl) ?_
      refine lv_aload_n hx hb dX4_hashCrossings_20 rfl (lv_at hl 0 rfl) ?_
      refine gX_X_roadCount C inm4_hashCrossings_X4 hK hP fl4_hashCrossings_148 dX4_hashCrossings_21 ?_
      refine lv_icmp_ge (tgt := 64) hx hb dX4_hashCrossings_24 rfl (fun c2 => ?_) (fun c2 => ?_)
      · have hrun := p_pos hrun c2
        cases hrun
        exact K _ (lv_sub hl [0, 1, 2] rfl)
      · have hrun := p_neg hrun c2
        refine lv_aload_n hx hb dX4_hashCrossings_27 rfl (lv_at hl 0 rfl) ?_
        refine lv_iload hx hb dX4_hashCrossings_28 (lv_at hl 2 rfl) ?_
        obtain ⟨r3, h_r3, hrun⟩ := p_bnd hrun
        refine jVS_i (rest := []) C (c4_isClosedRoad h_r3) gX4_hashCrossings_X4_isClosedRoad hd4_isClosedRoad hK hN hP rcX rfl ⟨rfl, rfl⟩ ⟨Nat.le_of_ble_eq_true rfl, Nat.le_of_ble_eq_true rfl⟩ rfl hl.1 rfl (Nat.le_of_ble_eq_true rfl) ⟨Nat.le_of_ble_eq_true rfl, Nat.le_of_ble_eq_true rfl⟩ dX4_hashCrossings_30 ?_
        refine lv_if_eq (tgt := 58) hx hb dX4_hashCrossings_33 rfl (fun c4 => ?_) (fun c4 => ?_)
        · have hrun := p_pos hrun c4
          refine lv_iinc (v := x6 + 1) (lv' := [(6, .int (x6 + 1)), (0, .ref (ad 0)), (3, .long l3), (5, .int x5)]) hx hb dX4_hashCrossings_58 hl (k := 3) rfl rfl (by decide) rfl (fun ls hl => ?_)
          refine lv_goto (tgt := 18) hx hb dX4_hashCrossings_61 rfl ?_
          exact ih l3 (x6 + 1) out hrun K _ (lv_sub hl [1, 2, 3, 0] rfl)
        · have hrun := p_neg hrun c4
          refine lv_aload_n hx hb dX4_hashCrossings_36 rfl (lv_at hl 0 rfl) ?_
          refine lv_iload hx hb dX4_hashCrossings_37 (lv_at hl 3 rfl) ?_
          obtain ⟨r5, h_r5, hrun⟩ := p_bnd hrun
          refine jVS_i (rest := []) C (c4_isClosedRoad h_r5) gX4_hashCrossings_X4_isClosedRoad hd4_isClosedRoad hK hN hP rcX rfl ⟨rfl, rfl⟩ ⟨Nat.le_of_ble_eq_true rfl, Nat.le_of_ble_eq_true rfl⟩ rfl hl.1 rfl (Nat.le_of_ble_eq_true rfl) ⟨Nat.le_of_ble_eq_true rfl, Nat.le_of_ble_eq_true rfl⟩ dX4_hashCrossings_39 ?_
          refine lv_if_eq (tgt := 58) hx hb dX4_hashCrossings_42 rfl (fun c6 => ?_) (fun c6 => ?_)
          · have hrun := p_pos hrun c6
            refine lv_iinc (v := x6 + 1) (lv' := [(6, .int (x6 + 1)), (0, .ref (ad 0)), (3, .long l3), (5, .int x5)]) hx hb dX4_hashCrossings_58 hl (k := 3) rfl rfl (by decide) rfl (fun ls hl => ?_)
            refine lv_goto (tgt := 18) hx hb dX4_hashCrossings_61 rfl ?_
            exact ih l3 (x6 + 1) out hrun K _ (lv_sub hl [1, 2, 3, 0] rfl)
          · have hrun := p_neg hrun c6
            refine lv_lload_n hx hb dX4_hashCrossings_45 rfl (lv_at hl 1 rfl) ?_
            refine lv_aload_n hx hb dX4_hashCrossings_46 rfl (lv_at hl 0 rfl) ?_
            refine lv_iload hx hb dX4_hashCrossings_47 (lv_at hl 2 rfl) ?_
            refine lv_iload hx hb dX4_hashCrossings_49 (lv_at hl 3 rfl) ?_
            obtain ⟨r7, h_r7, hrun⟩ := p_bnd hrun
            refine jVS_i (rest := [.long l3]) C (c4_cross h_r7) gX4_hashCrossings_X4_cross hd4_cross hK hN hP rcX rfl ⟨rfl, rfl⟩ ⟨Nat.le_of_ble_eq_true rfl, Nat.le_of_ble_eq_true rfl⟩ rfl hl.1 rfl (Nat.le_of_ble_eq_true rfl) ⟨Nat.le_of_ble_eq_true rfl, Nat.le_of_ble_eq_true rfl⟩ dX4_hashCrossings_51 ?_
            obtain ⟨r8, h_r8, hrun⟩ := p_bnd hrun
            refine jSS_l (rest := []) C (c4_mix h_r8) gX4_hashCrossings_X4_mix hd4_mix rfl ⟨rfl, rfl⟩ ⟨Nat.le_of_ble_eq_true rfl, Nat.le_of_ble_eq_true rfl⟩ rfl hl.1 rfl (Nat.le_of_ble_eq_true rfl) ⟨Nat.le_of_ble_eq_true rfl, Nat.le_of_ble_eq_true rfl⟩ dX4_hashCrossings_54 ?_
            refine lv_lstore_n (lv' := [(3, .long r8), (0, .ref (ad 0)), (5, .int x5), (6, .int x6)]) hx hb dX4_hashCrossings_57 rfl hl (by decide) rfl (fun ls hl => ?_)
            refine lv_iinc (v := x6 + 1) (lv' := [(6, .int (x6 + 1)), (3, .long r8), (0, .ref (ad 0)), (5, .int x5)]) hx hb dX4_hashCrossings_58 hl (k := 3) rfl rfl (by decide) rfl (fun ls hl => ?_)
            refine lv_goto (tgt := 18) hx hb dX4_hashCrossings_61 rfl ?_
            exact ih r8 (x6 + 1) out hrun K _ (lv_sub hl [2, 1, 3, 0] rfl)
  have loop_5 : ∀ (n : Nat) (l3 : Int64) (x5 : Int32) (out : Int64), P4_hashCrossings_5 v_roadCount v_wn v_wv n l3 x5 = some out → (∀ (ls : Array Slot), lv_has ls 7 [(3, .long out)] → W p l e rm4_hashCrossings s m args below meth c s.heap [] 0 0 Q (F0 m 70 ls [])) → ∀ (ls : Array Slot), lv_has ls 7 [(0, .ref (ad 0)), (3, .long l3), (5, .int x5)] → W p l e rm4_hashCrossings s m args below meth c s.heap [] 0 0 Q (F0 m 5 ls []) := by
    intro n
    induction n with
    | zero =>
      intro l3 x5 out hrun K ls hl
      cases hrun
    | succ n ih =>
      intro l3 x5 out hrun K ls hl
      rw [P4_hashCrossings_5] at hrun
      refine lv_iload hx hb dX4_hashCrossings_5 (lv_at hl 2 rfl) ?_
      refine lv_aload_n hx hb dX4_hashCrossings_7 rfl (lv_at hl 0 rfl) ?_
      refine gX_X_roadCount C inm4_hashCrossings_X4 hK hP fl4_hashCrossings_148 dX4_hashCrossings_8 ?_
      refine lv_icmp_ge (tgt := 70) hx hb dX4_hashCrossings_11 rfl (fun c1 => ?_) (fun c1 => ?_)
      · have hrun := p_pos hrun c1
        cases hrun
        exact K _ (lv_sub hl [1] rfl)
      · have hrun := p_neg hrun c1
        refine lv_iload hx hb dX4_hashCrossings_14 (lv_at hl 2 rfl) ?_
        refine lv_istore (lv' := [(6, .int x5), (0, .ref (ad 0)), (3, .long l3), (5, .int x5)]) hx hb dX4_hashCrossings_16 hl (by decide) rfl (fun ls hl => ?_)
        obtain ⟨o9, h_o9, hrun⟩ := p_bnd hrun
        refine loop_18 x5 FU l3 x5 o9 h_o9 (fun ls hl => ?_) _ (lv_sub hl [1, 2, 3, 0] rfl)
        refine lv_iinc (v := x5 + 1) (lv' := [(5, .int (x5 + 1)), (0, .ref (ad 0)), (3, .long o9)]) hx hb dX4_hashCrossings_64 hl (k := 2) rfl rfl (by decide) rfl (fun ls hl => ?_)
        refine lv_goto (tgt := 5) hx hb dX4_hashCrossings_67 rfl ?_
        exact ih o9 (x5 + 1) out hrun K _ (lv_sub hl [1, 2, 0] rfl)
  unfold P4_hashCrossings at hrun
  refine lv_lload_n hx hb dX4_hashCrossings_0 rfl (lv_at hl 1 rfl) ?_
  refine lv_lstore_n (lv' := [(3, .long l1), (0, .ref (ad 0)), (1, .long l1)]) hx hb dX4_hashCrossings_1 rfl hl (by decide) rfl (fun ls hl => ?_)
  refine lv_iconst (v := 0) hx hb dX4_hashCrossings_2 rfl ?_
  refine lv_istore (lv' := [(5, .int 0), (3, .long l1), (0, .ref (ad 0)), (1, .long l1)]) hx hb dX4_hashCrossings_3 hl (by decide) rfl (fun ls hl => ?_)
  obtain ⟨o10, h_o10, hrun⟩ := p_bnd hrun
  refine loop_5 FU l1 0 o10 h_o10 (fun ls hl => ?_) _ (lv_sub hl [2, 1, 0] rfl)
  refine lv_lload_n hx hb dX4_hashCrossings_70 rfl (lv_at hl 0 rfl) ?_
  cases hrun
  exact rS_l C hr hlk hQ rfl dX4_hashCrossings_71

end X911
