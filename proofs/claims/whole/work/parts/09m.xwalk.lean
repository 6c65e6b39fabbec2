section X912
variable {l : Launch} {D : va_G} {sz : Nat}
variable {ad fa ca wad : Nat → Nat} {cI cR cG : ClassId}
variable {v_roadCount v_readings v_psize v_good v_pbits v_letters v_afterLetter v_disc v_rsize v_cycleCount v_closed v_traces v_crossings v_db_bits v_db_size v_db_allBits v_db_a v_db_b v_db_c v_db_d v_dn_bits v_dn_size v_dn_allBits v_dn_a v_dn_b v_dn_c v_dn_d : Int32}
variable {v_s : Int64}
variable {v_codes : Nat → Int32}
variable {v_fo v_cy v_wv : Nat → Nat → Int32}
variable {v_wn : Nat}
abbrev rm4_hashForms : Room := { frames := 3, cells := 0, slots := 0, locals := 65 }
theorem fl4_hashForms_25 : Cond.fieldLink RX4 25 "RiverWords" "river" "LRiverWords$River;" ∈ wsX4_hashForms := by decide +kernel
theorem fl4_hashForms_156 : Cond.fieldLink RX4 156 "RiverWords$River" "size" "I" ∈ wsX4_hashForms := by decide +kernel
theorem inm4_hashForms_X2 : ∀ w ∈ wsX20, w ∈ wsX4_hashForms := by decide +kernel
theorem inm4_hashForms_X4 : ∀ w ∈ wsX40, w ∈ wsX4_hashForms := by decide +kernel
theorem hd4_hashForms : okD yX4_hashForms 1 := by decide +kernel
set_option maxHeartbeats 8000000 in
set_option maxRecDepth 100000 in
theorem c4_hashForms {l1 : Int64} {res : Int64} (hrun : P4_hashForms v_rsize v_fo l1 = some res) : Met l yX4_hashForms wsX4_hashForms rm4_hashForms (va_Pc [.ref (ad 0), .long l1] (PS D (tyX cI cR cG) (WX ad fa ca wad cI cR cG v_roadCount v_readings v_psize v_good v_pbits v_letters v_afterLetter v_codes v_disc v_rsize v_cycleCount v_fo v_cy v_s v_closed v_traces v_crossings v_db_bits v_db_size v_db_allBits v_db_a v_db_b v_db_c v_db_d v_dn_bits v_dn_size v_dn_allBits v_dn_a v_dn_b v_dn_c v_dn_d v_wn v_wv))) (vp_Sl (fun x => x = res)) 0 0 (fun _ => False) := by
  refine S_in (cc := cX4_hashForms) (maxL := 7) (ret := (some .long)) (by decide) rfl (Nat.le_of_ble_eq_true rfl) ?_
  intro p e s m args below meth c ls Q hQ C hr hlk hK hN hP hl
  have C : CallFix p m c cX4_hashForms 7 s args wsX4_hashForms RX4 := C
  have hx := C.1
  have hb := C.2.1
  have hl : lv_has ls 7 [(0, .ref (ad 0)), (1, .long l1)] := hl
  have loop_20 : ∀ (x5 : Int32) (n : Nat) (l3 : Int64) (x6 : Int32) (out : Int64), P4_hashForms_20 v_rsize v_fo x5 n l3 x6 = some out → (∀ (ls : Array Slot), lv_has ls 7 [(0, .ref (ad 0)), (3, .long out), (5, .int x5)] → W p l e rm4_hashForms s m args below meth c s.heap [] 0 0 Q (F0 m 46 ls [])) → ∀ (ls : Array Slot), lv_has ls 7 [(0, .ref (ad 0)), (3, .long l3), (5, .int x5), (6, .int x6)] → W p l e rm4_hashForms s m args below meth c s.heap [] 0 0 Q (F0 m 20 ls []) := by
    intro x5 n
    induction n with
    | zero =>
      intro l3 x6 out hrun K ls hl
      cases hrun
    | succ n ih =>
      intro l3 x6 out hrun K ls hl
      rw [P4_hashForms_20] at hrun
      refine lv_iload hx hb dX4_hashForms_20 (lv_at hl 3 rfl) ?_
      refine lv_bipush (v := 8) hx hb dX4_hashForms_22 rfl ?_
      refine lv_icmp_ge (tgt := 46) hx hb dX4_hashForms_24 rfl (fun c2 => ?_) (fun c2 => ?_)
      · have hrun := p_pos hrun c2
        cases hrun
        exact K _ (lv_sub hl [0, 1, 2] rfl)
      · have hrun := p_neg hrun c2
        refine lv_lload_n hx hb dX4_hashForms_27 rfl (lv_at hl 1 rfl) ?_
        refine lv_aload_n hx hb dX4_hashForms_28 rfl (lv_at hl 0 rfl) ?_
        refine lv_iload hx hb dX4_hashForms_29 (lv_at hl 2 rfl) ?_
        refine lv_iload hx hb dX4_hashForms_31 (lv_at hl 3 rfl) ?_
        obtain ⟨r3, h_r3, hrun⟩ := p_bnd hrun
        refine jVS_i (rest := [.long l3]) C (c4_simple h_r3) gX4_hashForms_X4_simple hd4_simple hK hN hP rcX rfl ⟨rfl, rfl⟩ ⟨Nat.le_of_ble_eq_true rfl, Nat.le_of_ble_eq_true rfl⟩ rfl hl.1 rfl (Nat.le_of_ble_eq_true rfl) ⟨Nat.le_of_ble_eq_true rfl, Nat.le_of_ble_eq_true rfl⟩ dX4_hashForms_33 ?_
        obtain ⟨r4, h_r4, hrun⟩ := p_bnd hrun
        refine jSS_l (rest := []) C (c4_mix h_r4) gX4_hashForms_X4_mix hd4_mix rfl ⟨rfl, rfl⟩ ⟨Nat.le_of_ble_eq_true rfl, Nat.le_of_ble_eq_true rfl⟩ rfl hl.1 rfl (Nat.le_of_ble_eq_true rfl) ⟨Nat.le_of_ble_eq_true rfl, Nat.le_of_ble_eq_true rfl⟩ dX4_hashForms_36 ?_
        refine lv_lstore_n (lv' := [(3, .long r4), (0, .ref (ad 0)), (5, .int x5), (6, .int x6)]) hx hb dX4_hashForms_39 rfl hl (by decide) rfl (fun ls hl => ?_)
        refine lv_iinc (v := x6 + 1) (lv' := [(6, .int (x6 + 1)), (3, .long r4), (0, .ref (ad 0)), (5, .int x5)]) hx hb dX4_hashForms_40 hl (k := 3) rfl rfl (by decide) rfl (fun ls hl => ?_)
        refine lv_goto (tgt := 20) hx hb dX4_hashForms_43 rfl ?_
        exact ih r4 (x6 + 1) out hrun K _ (lv_sub hl [2, 1, 3, 0] rfl)
  have loop_5 : ∀ (n : Nat) (l3 : Int64) (x5 : Int32) (out : Int64), P4_hashForms_5 v_rsize v_fo n l3 x5 = some out → (∀ (ls : Array Slot), lv_has ls 7 [(3, .long out)] → W p l e rm4_hashForms s m args below meth c s.heap [] 0 0 Q (F0 m 52 ls [])) → ∀ (ls : Array Slot), lv_has ls 7 [(0, .ref (ad 0)), (3, .long l3), (5, .int x5)] → W p l e rm4_hashForms s m args below meth c s.heap [] 0 0 Q (F0 m 5 ls []) := by
    intro n
    induction n with
    | zero =>
      intro l3 x5 out hrun K ls hl
      cases hrun
    | succ n ih =>
      intro l3 x5 out hrun K ls hl
      rw [P4_hashForms_5] at hrun
      refine lv_iload hx hb dX4_hashForms_5 (lv_at hl 2 rfl) ?_
      refine lv_aload_n hx hb dX4_hashForms_7 rfl (lv_at hl 0 rfl) ?_
      refine gX_X_river C inm4_hashForms_X4 hK hP fl4_hashForms_25 dX4_hashForms_8 ?_
      refine gX_R_size C inm4_hashForms_X2 hK hP fl4_hashForms_156 dX4_hashForms_11 ?_
      refine lv_icmp_ge (tgt := 52) hx hb dX4_hashForms_14 rfl (fun c1 => ?_) (fun c1 => ?_)
      · have hrun := p_pos hrun c1
        cases hrun
        exact K _ (lv_sub hl [1] rfl)
      · have hrun := p_neg hrun c1
        refine lv_iconst (v := 0) hx hb dX4_hashForms_17 rfl ?_
        refine lv_istore (lv' := [(6, .int 0), (0, .ref (ad 0)), (3, .long l3), (5, .int x5)]) hx hb dX4_hashForms_18 hl (by decide) rfl (fun ls hl => ?_)
        obtain ⟨o5, h_o5, hrun⟩ := p_bnd hrun
        refine loop_20 x5 FU l3 0 o5 h_o5 (fun ls hl => ?_) _ (lv_sub hl [1, 2, 3, 0] rfl)
        refine lv_iinc (v := x5 + 1) (lv' := [(5, .int (x5 + 1)), (0, .ref (ad 0)), (3, .long o5)]) hx hb dX4_hashForms_46 hl (k := 2) rfl rfl (by decide) rfl (fun ls hl => ?_)
        refine lv_goto (tgt := 5) hx hb dX4_hashForms_49 rfl ?_
        exact ih o5 (x5 + 1) out hrun K _ (lv_sub hl [1, 2, 0] rfl)
  unfold P4_hashForms at hrun
  refine lv_lload_n hx hb dX4_hashForms_0 rfl (lv_at hl 1 rfl) ?_
  refine lv_lstore_n (lv' := [(3, .long l1), (0, .ref (ad 0)), (1, .long l1)]) hx hb dX4_hashForms_1 rfl hl (by decide) rfl (fun ls hl => ?_)
  refine lv_iconst (v := 0) hx hb dX4_hashForms_2 rfl ?_
  refine lv_istore (lv' := [(5, .int 0), (3, .long l1), (0, .ref (ad 0)), (1, .long l1)]) hx hb dX4_hashForms_3 hl (by decide) rfl (fun ls hl => ?_)
  obtain ⟨o6, h_o6, hrun⟩ := p_bnd hrun
  refine loop_5 FU l1 0 o6 h_o6 (fun ls hl => ?_) _ (lv_sub hl [2, 1, 0] rfl)
  refine lv_lload_n hx hb dX4_hashForms_52 rfl (lv_at hl 0 rfl) ?_
  cases hrun
  exact rS_l C hr hlk hQ rfl dX4_hashForms_53

abbrev rm4_hashCycles : Room := { frames := 4, cells := 0, slots := 0, locals := 95 }
theorem fl4_hashCycles_25 : Cond.fieldLink RX4 25 "RiverWords" "river" "LRiverWords$River;" ∈ wsX4_hashCycles := by decide +kernel
theorem fl4_hashCycles_219 : Cond.fieldLink RX4 219 "RiverWords$River" "cycleCount" "I" ∈ wsX4_hashCycles := by decide +kernel
theorem inm4_hashCycles_X2 : ∀ w ∈ wsX20, w ∈ wsX4_hashCycles := by decide +kernel
theorem inm4_hashCycles_X4 : ∀ w ∈ wsX40, w ∈ wsX4_hashCycles := by decide +kernel
theorem hd4_hashCycles : okD yX4_hashCycles 1 := by decide +kernel
set_option maxHeartbeats 8000000 in
set_option maxRecDepth 100000 in
theorem c4_hashCycles {l1 : Int64} {res : Int64} (hrun : P4_hashCycles v_rsize v_cycleCount v_fo v_cy l1 = some res) : Met l yX4_hashCycles wsX4_hashCycles rm4_hashCycles (va_Pc [.ref (ad 0), .long l1] (PS D (tyX cI cR cG) (WX ad fa ca wad cI cR cG v_roadCount v_readings v_psize v_good v_pbits v_letters v_afterLetter v_codes v_disc v_rsize v_cycleCount v_fo v_cy v_s v_closed v_traces v_crossings v_db_bits v_db_size v_db_allBits v_db_a v_db_b v_db_c v_db_d v_dn_bits v_dn_size v_dn_allBits v_dn_a v_dn_b v_dn_c v_dn_d v_wn v_wv))) (vp_Sl (fun x => x = res)) 0 0 (fun _ => False) := by
  refine S_in (cc := cX4_hashCycles) (maxL := 7) (ret := (some .long)) (by decide) rfl (Nat.le_of_ble_eq_true rfl) ?_
  intro p e s m args below meth c ls Q hQ C hr hlk hK hN hP hl
  have C : CallFix p m c cX4_hashCycles 7 s args wsX4_hashCycles RX4 := C
  have hx := C.1
  have hb := C.2.1
  have hl : lv_has ls 7 [(0, .ref (ad 0)), (1, .long l1)] := hl
  have loop_20 : ∀ (x5 : Int32) (n : Nat) (l3 : Int64) (x6 : Int32) (out : Int64), P4_hashCycles_20 v_cycleCount v_cy x5 n l3 x6 = some out → (∀ (ls : Array Slot), lv_has ls 7 [(0, .ref (ad 0)), (3, .long out), (5, .int x5)] → W p l e rm4_hashCycles s m args below meth c s.heap [] 0 0 Q (F0 m 45 ls [])) → ∀ (ls : Array Slot), lv_has ls 7 [(0, .ref (ad 0)), (3, .long l3), (5, .int x5), (6, .int x6)] → W p l e rm4_hashCycles s m args below meth c s.heap [] 0 0 Q (F0 m 20 ls []) := by
    intro x5 n
    induction n with
    | zero =>
      intro l3 x6 out hrun K ls hl
      cases hrun
    | succ n ih =>
      intro l3 x6 out hrun K ls hl
      rw [P4_hashCycles_20] at hrun
      refine lv_iload hx hb dX4_hashCycles_20 (lv_at hl 3 rfl) ?_
      refine lv_iconst (v := 5) hx hb dX4_hashCycles_22 rfl ?_
      refine lv_icmp_ge (tgt := 45) hx hb dX4_hashCycles_23 rfl (fun c2 => ?_) (fun c2 => ?_)
      · have hrun := p_pos hrun c2
        cases hrun
        exact K _ (lv_sub hl [0, 1, 2] rfl)
      · have hrun := p_neg hrun c2
        refine lv_lload_n hx hb dX4_hashCycles_26 rfl (lv_at hl 1 rfl) ?_
        refine lv_aload_n hx hb dX4_hashCycles_27 rfl (lv_at hl 0 rfl) ?_
        refine lv_iload hx hb dX4_hashCycles_28 (lv_at hl 2 rfl) ?_
        refine lv_iload hx hb dX4_hashCycles_30 (lv_at hl 3 rfl) ?_
        obtain ⟨r3, h_r3, hrun⟩ := p_bnd hrun
        refine jVS_i (rest := [.long l3]) C (c4_cycle h_r3) gX4_hashCycles_X4_cycle hd4_cycle hK hN hP rcX rfl ⟨rfl, rfl⟩ ⟨Nat.le_of_ble_eq_true rfl, Nat.le_of_ble_eq_true rfl⟩ rfl hl.1 rfl (Nat.le_of_ble_eq_true rfl) ⟨Nat.le_of_ble_eq_true rfl, Nat.le_of_ble_eq_true rfl⟩ dX4_hashCycles_32 ?_
        obtain ⟨r4, h_r4, hrun⟩ := p_bnd hrun
        refine jSS_l (rest := []) C (c4_mix h_r4) gX4_hashCycles_X4_mix hd4_mix rfl ⟨rfl, rfl⟩ ⟨Nat.le_of_ble_eq_true rfl, Nat.le_of_ble_eq_true rfl⟩ rfl hl.1 rfl (Nat.le_of_ble_eq_true rfl) ⟨Nat.le_of_ble_eq_true rfl, Nat.le_of_ble_eq_true rfl⟩ dX4_hashCycles_35 ?_
        refine lv_lstore_n (lv' := [(3, .long r4), (0, .ref (ad 0)), (5, .int x5), (6, .int x6)]) hx hb dX4_hashCycles_38 rfl hl (by decide) rfl (fun ls hl => ?_)
        refine lv_iinc (v := x6 + 1) (lv' := [(6, .int (x6 + 1)), (3, .long r4), (0, .ref (ad 0)), (5, .int x5)]) hx hb dX4_hashCycles_39 hl (k := 3) rfl rfl (by decide) rfl (fun ls hl => ?_)
        refine lv_goto (tgt := 20) hx hb dX4_hashCycles_42 rfl ?_
        exact ih r4 (x6 + 1) out hrun K _ (lv_sub hl [2, 1, 3, 0] rfl)
  have loop_5 : ∀ (n : Nat) (l3 : Int64) (x5 : Int32) (out : Int64), P4_hashCycles_5 v_rsize v_cycleCount v_fo v_cy n l3 x5 = some out → (∀ (ls : Array Slot), lv_has ls 7 [(3, .long out)] → W p l e rm4_hashCycles s m args below meth c s.heap [] 0 0 Q (F0 m 65 ls [])) → ∀ (ls : Array Slot), lv_has ls 7 [(0, .ref (ad 0)), (3, .long l3), (5, .int x5)] → W p l e rm4_hashCycles s m args below meth c s.heap [] 0 0 Q (F0 m 5 ls []) := by
    intro n
    induction n with
    | zero =>
      intro l3 x5 out hrun K ls hl
      cases hrun
    | succ n ih =>
      intro l3 x5 out hrun K ls hl
      rw [P4_hashCycles_5] at hrun
      refine lv_iload hx hb dX4_hashCycles_5 (lv_at hl 2 rfl) ?_
      refine lv_aload_n hx hb dX4_hashCycles_7 rfl (lv_at hl 0 rfl) ?_
      refine gX_X_river C inm4_hashCycles_X4 hK hP fl4_hashCycles_25 dX4_hashCycles_8 ?_
      refine gX_R_cycleCount C inm4_hashCycles_X2 hK hP fl4_hashCycles_219 dX4_hashCycles_11 ?_
      refine lv_icmp_ge (tgt := 65) hx hb dX4_hashCycles_14 rfl (fun c1 => ?_) (fun c1 => ?_)
      · have hrun := p_pos hrun c1
        cases hrun
        exact K _ (lv_sub hl [1] rfl)
      · have hrun := p_neg hrun c1
        refine lv_iconst (v := 0) hx hb dX4_hashCycles_17 rfl ?_
        refine lv_istore (lv' := [(6, .int 0), (0, .ref (ad 0)), (3, .long l3), (5, .int x5)]) hx hb dX4_hashCycles_18 hl (by decide) rfl (fun ls hl => ?_)
        obtain ⟨o5, h_o5, hrun⟩ := p_bnd hrun
        refine loop_20 x5 FU l3 0 o5 h_o5 (fun ls hl => ?_) _ (lv_sub hl [1, 2, 3, 0] rfl)
        refine lv_lload_n hx hb dX4_hashCycles_45 rfl (lv_at hl 1 rfl) ?_
        refine lv_aload_n hx hb dX4_hashCycles_46 rfl (lv_at hl 0 rfl) ?_
        refine lv_iload hx hb dX4_hashCycles_47 (lv_at hl 2 rfl) ?_
        refine lv_sipush (v := 997) hx hb dX4_hashCycles_49 rfl ?_
        obtain ⟨r6, h_r6, hrun⟩ := p_bnd hrun
        refine jVS_i (rest := [.long o5]) C (c4_trace h_r6) gX4_hashCycles_X4_trace hd4_trace hK hN hP rcX rfl ⟨rfl, rfl⟩ ⟨Nat.le_of_ble_eq_true rfl, Nat.le_of_ble_eq_true rfl⟩ rfl hl.1 rfl (Nat.le_of_ble_eq_true rfl) ⟨Nat.le_of_ble_eq_true rfl, Nat.le_of_ble_eq_true rfl⟩ dX4_hashCycles_52 ?_
        obtain ⟨r7, h_r7, hrun⟩ := p_bnd hrun
        refine jSS_l (rest := []) C (c4_mix h_r7) gX4_hashCycles_X4_mix hd4_mix rfl ⟨rfl, rfl⟩ ⟨Nat.le_of_ble_eq_true rfl, Nat.le_of_ble_eq_true rfl⟩ rfl hl.1 rfl (Nat.le_of_ble_eq_true rfl) ⟨Nat.le_of_ble_eq_true rfl, Nat.le_of_ble_eq_true rfl⟩ dX4_hashCycles_55 ?_
        refine lv_lstore_n (lv' := [(3, .long r7), (0, .ref (ad 0)), (5, .int x5)]) hx hb dX4_hashCycles_58 rfl hl (by decide) rfl (fun ls hl => ?_)
        refine lv_iinc (v := x5 + 1) (lv' := [(5, .int (x5 + 1)), (3, .long r7), (0, .ref (ad 0))]) hx hb dX4_hashCycles_59 hl (k := 2) rfl rfl (by decide) rfl (fun ls hl => ?_)
        refine lv_goto (tgt := 5) hx hb dX4_hashCycles_62 rfl ?_
        exact ih r7 (x5 + 1) out hrun K _ (lv_sub hl [2, 1, 0] rfl)
  unfold P4_hashCycles at hrun
  refine lv_lload_n hx hb dX4_hashCycles_0 rfl (lv_at hl 1 rfl) ?_
  refine lv_lstore_n (lv' := [(3, .long l1), (0, .ref (ad 0)), (1, .long l1)]) hx hb dX4_hashCycles_1 rfl hl (by decide) rfl (fun ls hl => ?_)
  refine lv_iconst (v := 0) hx hb dX4_hashCycles_2 rfl ?_
  refine lv_istore (lv' := [(5, .int 0), (3, .long l1), (0, .ref (ad 0)), (1, .long l1)]) hx hb dX4_hashCycles_3 hl (by decide) rfl (fun ls hl => ?_)
  obtain ⟨o8, h_o8, hrun⟩ := p_bnd hrun
  refine loop_5 FU l1 0 o8 h_o8 (fun ls hl => ?_) _ (lv_sub hl [2, 1, 0] rfl)
  refine lv_lload_n hx hb dX4_hashCycles_65 rfl (lv_at hl 0 rfl) ?_
  cases hrun
  exact rS_l C hr hlk hQ rfl dX4_hashCycles_66

abbrev rm4_digest : Room := { frames := 6, cells := 0, slots := 0, locals := 146 }
theorem fl4_digest_10 : Cond.fieldLink RX4 10 "RiverWords" "page" "LRiverWords$Page;" ∈ wsX4_digest := by decide +kernel
theorem k4_digest_222 : Cond.constantLong RX4 222 1549 ∈ wsX4_digest := by decide +kernel
theorem inm4_digest_X4 : ∀ w ∈ wsX40, w ∈ wsX4_digest := by decide +kernel
theorem hd4_digest : okD yX4_digest 0 := by decide +kernel
set_option maxHeartbeats 8000000 in
set_option maxRecDepth 100000 in
theorem c4_digest {res : Int64} (hrun : P4_digest v_roadCount v_readings v_psize v_codes v_rsize v_cycleCount v_fo v_cy v_wn v_wv = some res) : Met l yX4_digest wsX4_digest rm4_digest (va_Pc [.ref (ad 0)] (PS D (tyX cI cR cG) (WX ad fa ca wad cI cR cG v_roadCount v_readings v_psize v_good v_pbits v_letters v_afterLetter v_codes v_disc v_rsize v_cycleCount v_fo v_cy v_s v_closed v_traces v_crossings v_db_bits v_db_size v_db_allBits v_db_a v_db_b v_db_c v_db_d v_dn_bits v_dn_size v_dn_allBits v_dn_a v_dn_b v_dn_c v_dn_d v_wn v_wv))) (vp_Sl (fun x => x = res)) 0 0 (fun _ => False) := by
  refine S_in (cc := cX4_digest) (maxL := 4) (ret := (some .long)) (by decide) rfl (Nat.le_of_ble_eq_true rfl) ?_
  intro p e s m args below meth c ls Q hQ C hr hlk hK hN hP hl
  have C : CallFix p m c cX4_digest 4 s args wsX4_digest RX4 := C
  have hx := C.1
  have hb := C.2.1
  have hl : lv_has ls 4 [(0, .ref (ad 0))] := hl
  have loop_37 : ∀ (n : Nat) (l1 : Int64) (x3 : Int32) (out : Int64), P4_digest_37 v_roadCount v_readings v_psize v_rsize v_cycleCount v_wn v_wv n l1 x3 = some out → (∀ (ls : Array Slot), lv_has ls 4 [(1, .long out)] → W p l e rm4_digest s m args below meth c s.heap [] 0 0 Q (F0 m 59 ls [])) → ∀ (ls : Array Slot), lv_has ls 4 [(0, .ref (ad 0)), (1, .long l1), (3, .int x3)] → W p l e rm4_digest s m args below meth c s.heap [] 0 0 Q (F0 m 37 ls []) := by
    intro n
    induction n with
    | zero =>
      intro l1 x3 out hrun K ls hl
      cases hrun
    | succ n ih =>
      intro l1 x3 out hrun K ls hl
      rw [P4_digest_37] at hrun
      refine lv_iload_n hx hb dX4_digest_37 rfl (lv_at hl 2 rfl) ?_
      refine lv_bipush (v := 7) hx hb dX4_digest_38 rfl ?_
      refine lv_icmp_ge (tgt := 59) hx hb dX4_digest_40 rfl (fun c6 => ?_) (fun c6 => ?_)
      · have hrun := p_pos hrun c6
        cases hrun
        exact K _ (lv_sub hl [1] rfl)
      · have hrun := p_neg hrun c6
        refine lv_lload_n hx hb dX4_digest_43 rfl (lv_at hl 1 rfl) ?_
        refine lv_aload_n hx hb dX4_digest_44 rfl (lv_at hl 0 rfl) ?_
        refine lv_iload_n hx hb dX4_digest_45 rfl (lv_at hl 2 rfl) ?_
        obtain ⟨r7, h_r7, hrun⟩ := p_bnd hrun
        refine jVS_i (rest := [.long l1]) C (c4_count h_r7) gX4_digest_X4_count hd4_count hK hN hP rcX rfl ⟨rfl, rfl⟩ ⟨Nat.le_of_ble_eq_true rfl, Nat.le_of_ble_eq_true rfl⟩ rfl hl.1 rfl (Nat.le_of_ble_eq_true rfl) ⟨Nat.le_of_ble_eq_true rfl, Nat.le_of_ble_eq_true rfl⟩ dX4_digest_46 ?_
        obtain ⟨r8, h_r8, hrun⟩ := p_bnd hrun
        refine jSS_l (rest := []) C (c4_mix h_r8) gX4_digest_X4_mix hd4_mix rfl ⟨rfl, rfl⟩ ⟨Nat.le_of_ble_eq_true rfl, Nat.le_of_ble_eq_true rfl⟩ rfl hl.1 rfl (Nat.le_of_ble_eq_true rfl) ⟨Nat.le_of_ble_eq_true rfl, Nat.le_of_ble_eq_true rfl⟩ dX4_digest_49 ?_
        refine lv_lstore_n (lv' := [(1, .long r8), (0, .ref (ad 0)), (3, .int x3)]) hx hb dX4_digest_52 rfl hl (by decide) rfl (fun ls hl => ?_)
        refine lv_iinc (v := x3 + 1) (lv' := [(3, .int (x3 + 1)), (1, .long r8), (0, .ref (ad 0))]) hx hb dX4_digest_53 hl (k := 2) rfl rfl (by decide) rfl (fun ls hl => ?_)
        refine lv_goto (tgt := 37) hx hb dX4_digest_56 rfl ?_
        exact ih r8 (x3 + 1) out hrun K _ (lv_sub hl [2, 1, 0] rfl)
  unfold P4_digest at hrun
  refine lv_aload_n hx hb dX4_digest_0 rfl (lv_at hl 0 rfl) ?_
  refine lv_ldc2 (v := 1549) hx hb C.2.2.2.1 (C.2.2.2.2 _ k4_digest_222) dX4_digest_1 ?_
  obtain ⟨r1, h_r1, hrun⟩ := p_bnd hrun
  refine jVS_l (rest := []) C (c4_hashRoads h_r1) gX4_digest_X4_hashRoads hd4_hashRoads hK hN hP rcX rfl ⟨rfl, rfl⟩ ⟨Nat.le_of_ble_eq_true rfl, Nat.le_of_ble_eq_true rfl⟩ rfl hl.1 rfl (Nat.le_of_ble_eq_true rfl) ⟨Nat.le_of_ble_eq_true rfl, Nat.le_of_ble_eq_true rfl⟩ dX4_digest_4 ?_
  refine lv_lstore_n (lv' := [(1, .long r1), (0, .ref (ad 0))]) hx hb dX4_digest_7 rfl hl (by decide) rfl (fun ls hl => ?_)
  refine lv_aload_n hx hb dX4_digest_8 rfl (lv_at hl 1 rfl) ?_
  refine lv_lload_n hx hb dX4_digest_9 rfl (lv_at hl 0 rfl) ?_
  obtain ⟨r2, h_r2, hrun⟩ := p_bnd hrun
  refine jVS_l (rest := []) C (c4_hashCrossings h_r2) gX4_digest_X4_hashCrossings hd4_hashCrossings hK hN hP rcX rfl ⟨rfl, rfl⟩ ⟨Nat.le_of_ble_eq_true rfl, Nat.le_of_ble_eq_true rfl⟩ rfl hl.1 rfl (Nat.le_of_ble_eq_true rfl) ⟨Nat.le_of_ble_eq_true rfl, Nat.le_of_ble_eq_true rfl⟩ dX4_digest_10 ?_
  refine lv_lstore_n (lv' := [(1, .long r2), (0, .ref (ad 0))]) hx hb dX4_digest_13 rfl hl (by decide) rfl (fun ls hl => ?_)
  refine lv_aload_n hx hb dX4_digest_14 rfl (lv_at hl 1 rfl) ?_
  refine lv_lload_n hx hb dX4_digest_15 rfl (lv_at hl 0 rfl) ?_
  obtain ⟨r3, h_r3, hrun⟩ := p_bnd hrun
  refine jVS_l (rest := []) C (c4_hashForms h_r3) gX4_digest_X4_hashForms hd4_hashForms hK hN hP rcX rfl ⟨rfl, rfl⟩ ⟨Nat.le_of_ble_eq_true rfl, Nat.le_of_ble_eq_true rfl⟩ rfl hl.1 rfl (Nat.le_of_ble_eq_true rfl) ⟨Nat.le_of_ble_eq_true rfl, Nat.le_of_ble_eq_true rfl⟩ dX4_digest_16 ?_
  refine lv_lstore_n (lv' := [(1, .long r3), (0, .ref (ad 0))]) hx hb dX4_digest_19 rfl hl (by decide) rfl (fun ls hl => ?_)
  refine lv_aload_n hx hb dX4_digest_20 rfl (lv_at hl 1 rfl) ?_
  refine lv_lload_n hx hb dX4_digest_21 rfl (lv_at hl 0 rfl) ?_
  obtain ⟨r4, h_r4, hrun⟩ := p_bnd hrun
  refine jVS_l (rest := []) C (c4_hashCycles h_r4) gX4_digest_X4_hashCycles hd4_hashCycles hK hN hP rcX rfl ⟨rfl, rfl⟩ ⟨Nat.le_of_ble_eq_true rfl, Nat.le_of_ble_eq_true rfl⟩ rfl hl.1 rfl (Nat.le_of_ble_eq_true rfl) ⟨Nat.le_of_ble_eq_true rfl, Nat.le_of_ble_eq_true rfl⟩ dX4_digest_22 ?_
  refine lv_lstore_n (lv' := [(1, .long r4), (0, .ref (ad 0))]) hx hb dX4_digest_25 rfl hl (by decide) rfl (fun ls hl => ?_)
  refine lv_aload_n hx hb dX4_digest_26 rfl (lv_at hl 1 rfl) ?_
  refine gX_X_page C inm4_digest_X4 hK hP fl4_digest_10 dX4_digest_27 ?_
  refine lv_lload_n hx hb dX4_digest_30 rfl (lv_at hl 0 rfl) ?_
  obtain ⟨r5, h_r5, hrun⟩ := p_bnd hrun
  refine jVS_l (rest := []) C (c1_hashed h_r5) gX4_digest_X1_hashed hd1_hashed hK hN hP rcP rfl ⟨rfl, rfl⟩ ⟨Nat.le_of_ble_eq_true rfl, Nat.le_of_ble_eq_true rfl⟩ rfl hl.1 rfl (Nat.le_of_ble_eq_true rfl) ⟨Nat.le_of_ble_eq_true rfl, Nat.le_of_ble_eq_true rfl⟩ dX4_digest_31 ?_
  refine lv_lstore_n (lv' := [(1, .long r5), (0, .ref (ad 0))]) hx hb dX4_digest_34 rfl hl (by decide) rfl (fun ls hl => ?_)
  refine lv_iconst (v := 0) hx hb dX4_digest_35 rfl ?_
  refine lv_istore_n (lv' := [(3, .int 0), (1, .long r5), (0, .ref (ad 0))]) hx hb dX4_digest_36 rfl hl (by decide) rfl (fun ls hl => ?_)
  obtain ⟨o9, h_o9, hrun⟩ := p_bnd hrun
  refine loop_37 FU r5 0 o9 h_o9 (fun ls hl => ?_) _ (lv_sub hl [2, 1, 0] rfl)
  refine lv_lload_n hx hb dX4_digest_59 rfl (lv_at hl 0 rfl) ?_
  cases hrun
  exact rS_l C hr hlk hQ rfl dX4_digest_60

end X912
