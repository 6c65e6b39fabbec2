section Z90
variable {l : Launch} {D : va_G} {sz : Nat}
variable {az ad fa ca wad : Nat → Nat} {cI cR cG : ClassId}
variable {v_roadCount v_readings v_psize v_good v_pbits v_letters v_afterLetter v_disc v_rsize v_cycleCount v_closed v_traces v_crossings v_db_bits v_db_size v_db_allBits v_db_a v_db_b v_db_c v_db_d v_dn_bits v_dn_size v_dn_allBits v_dn_a v_dn_b v_dn_c v_dn_d : Int32}
variable {v_s : Int64}
variable {v_zw v_zd v_zt v_codes : Nat → Int32}
variable {v_fo v_cy v_wv : Nat → Nat → Int32}
variable {v_wn : Nat}
abbrev rm_at : Room := { frames := 0, cells := 0, slots := 0, locals := 0 }
theorem hd_at : okD yL_at 2 := by decide +kernel
set_option maxHeartbeats 8000000 in
set_option maxRecDepth 100000 in
theorem c_at {x0 : Int32} {x1 : Int32} {res : Int32} (hrun : P_at x0 x1 = some res) : Met l yL_at wsL_at rm_at (va_Pc [.int x0, .int x1] PN) (vp_Si (fun x => x = res)) 0 0 (fun _ => False) := by
  refine N_in (cc := cL_at) (maxL := 2) (ret := (some .int)) (by decide) rfl (Nat.le_of_ble_eq_true rfl) ?_
  intro p e s m args below meth c ls Q hQ C hr hlk hl
  have C : CallFix p m c cL_at 2 s args wsL_at RL := C
  have hx := C.1
  have hb := C.2.1
  have hl : lv_has ls 2 [(0, .int x0), (1, .int x1)] := hl
  unfold P_at at hrun
  refine lv_iload_n hx hb dL_at_0 rfl (lv_at hl 0 rfl) ?_
  refine lv_iconst (v := 1) hx hb dL_at_1 rfl ?_
  refine j_iushr hx hb dL_at_2 ?_
  refine lv_iload_n hx hb dL_at_3 rfl (lv_at hl 1 rfl) ?_
  obtain ⟨z1, hrun⟩ := p_chk hrun
  refine j_irem hx hb dL_at_4 z1 ?_
  cases hrun
  exact rS_i C hr hlk hQ (nbi _) rfl dL_at_5

abbrev rm_size : Room := { frames := 0, cells := 0, slots := 0, locals := 0 }
theorem hd_size : okD yL_size 1 := by decide +kernel
set_option maxHeartbeats 8000000 in
set_option maxRecDepth 100000 in
theorem c_size {x0 : Int32} {res : Int32} (hrun : P_size x0 = some res) : Met l yL_size wsL_size rm_size (va_Pc [.int x0] PN) (vp_Si (fun x => x = res)) 0 0 (fun _ => False) := by
  refine N_in (cc := cL_size) (maxL := 1) (ret := (some .int)) (by decide) rfl (Nat.le_of_ble_eq_true rfl) ?_
  intro p e s m args below meth c ls Q hQ C hr hlk hl
  have C : CallFix p m c cL_size 1 s args wsL_size RL := C
  have hx := C.1
  have hb := C.2.1
  have hl : lv_has ls 1 [(0, .int x0)] := hl
  unfold P_size at hrun
  refine lv_iload_n hx hb dL_size_0 rfl (lv_at hl 0 rfl) ?_
  refine lv_bipush (v := 31) hx hb dL_size_1 rfl ?_
  refine lv_iand hx hb dL_size_3 ?_
  cases hrun
  exact rS_i C hr hlk hQ (nbi _) rfl dL_size_4

abbrev rm_bit : Room := { frames := 0, cells := 0, slots := 0, locals := 0 }
theorem hd_bit : okD yL_bit 2 := by decide +kernel
set_option maxHeartbeats 8000000 in
set_option maxRecDepth 100000 in
theorem c_bit {x0 : Int32} {x1 : Int32} {res : Int32} (hrun : P_bit x0 x1 = some res) : Met l yL_bit wsL_bit rm_bit (va_Pc [.int x0, .int x1] PN) (vp_Si (fun x => x = res)) 0 0 (fun _ => False) := by
  refine N_in (cc := cL_bit) (maxL := 2) (ret := (some .int)) (by decide) rfl (Nat.le_of_ble_eq_true rfl) ?_
  intro p e s m args below meth c ls Q hQ C hr hlk hl
  have C : CallFix p m c cL_bit 2 s args wsL_bit RL := C
  have hx := C.1
  have hb := C.2.1
  have hl : lv_has ls 2 [(0, .int x0), (1, .int x1)] := hl
  unfold P_bit at hrun
  refine lv_iload_n hx hb dL_bit_0 rfl (lv_at hl 0 rfl) ?_
  refine lv_iconst (v := 5) hx hb dL_bit_1 rfl ?_
  refine lv_iload_n hx hb dL_bit_2 rfl (lv_at hl 1 rfl) ?_
  refine lv_iadd hx hb dL_bit_3 ?_
  refine j_ishr hx hb dL_bit_4 ?_
  refine lv_iconst (v := 1) hx hb dL_bit_5 rfl ?_
  refine lv_iand hx hb dL_bit_6 ?_
  cases hrun
  exact rS_i C hr hlk hQ (nbi _) rfl dL_bit_7

abbrev rm_round : Room := { frames := 1, cells := 0, slots := 0, locals := 21 }
theorem hd_round : okD yL_round 2 := by decide +kernel
set_option maxHeartbeats 8000000 in
set_option maxRecDepth 100000 in
theorem c_round {x0 : Int32} {x1 : Int32} {res : Int32} (hrun : P_round x0 x1 = some res) : Met l yL_round wsL_round rm_round (va_Pc [.int x0, .int x1] PN) (vp_Si (fun x => x = res)) 0 0 (fun _ => False) := by
  refine N_in (cc := cL_round) (maxL := 3) (ret := (some .int)) (by decide) rfl (Nat.le_of_ble_eq_true rfl) ?_
  intro p e s m args below meth c ls Q hQ C hr hlk hl
  have C : CallFix p m c cL_round 3 s args wsL_round RL := C
  have hx := C.1
  have hb := C.2.1
  have hl : lv_has ls 3 [(0, .int x0), (1, .int x1)] := hl
  unfold P_round at hrun
  refine lv_iload_n hx hb dL_round_0 rfl (lv_at hl 0 rfl) ?_
  obtain ⟨r1, h_r1, hrun⟩ := p_bnd hrun
  refine jSS_i (rest := []) C (c_size h_r1) gL_round_L_size hd_size rfl ⟨rfl, rfl⟩ ⟨Nat.le_of_ble_eq_true rfl, Nat.le_of_ble_eq_true rfl⟩ rfl hl.1 rfl (Nat.le_of_ble_eq_true rfl) ⟨Nat.le_of_ble_eq_true rfl, Nat.le_of_ble_eq_true rfl⟩ dL_round_1 ?_
  refine lv_istore_n (lv' := [(2, .int r1), (0, .int x0), (1, .int x1)]) hx hb dL_round_4 rfl hl (by decide) rfl (fun ls hl => ?_)
  refine lv_iload_n hx hb dL_round_5 rfl (lv_at hl 1 rfl) ?_
  refine lv_iload_n hx hb dL_round_6 rfl (lv_at hl 2 rfl) ?_
  refine lv_iload_n hx hb dL_round_7 rfl (lv_at hl 0 rfl) ?_
  obtain ⟨z2, hrun⟩ := p_chk hrun
  refine j_irem hx hb dL_round_8 z2 ?_
  refine lv_iload_n hx hb dL_round_9 rfl (lv_at hl 0 rfl) ?_
  refine lv_iadd hx hb dL_round_10 ?_
  refine lv_iload_n hx hb dL_round_11 rfl (lv_at hl 0 rfl) ?_
  obtain ⟨z3, hrun⟩ := p_chk hrun
  refine j_irem hx hb dL_round_12 z3 ?_
  obtain ⟨r4, h_r4, hrun⟩ := p_bnd hrun
  refine jSS_i (rest := []) C (c_bit h_r4) gL_round_L_bit hd_bit rfl ⟨rfl, rfl⟩ ⟨Nat.le_of_ble_eq_true rfl, Nat.le_of_ble_eq_true rfl⟩ rfl hl.1 rfl (Nat.le_of_ble_eq_true rfl) ⟨Nat.le_of_ble_eq_true rfl, Nat.le_of_ble_eq_true rfl⟩ dL_round_13 ?_
  cases hrun
  exact rS_i C hr hlk hQ (nbi _) rfl dL_round_16

abbrev rm_with : Room := { frames := 1, cells := 0, slots := 0, locals := 20 }
theorem hd_with : okD yL_with 2 := by decide +kernel
set_option maxHeartbeats 8000000 in
set_option maxRecDepth 100000 in
theorem c_with {x0 : Int32} {x1 : Int32} {res : Int32} (hrun : P_with x0 x1 = some res) : Met l yL_with wsL_with rm_with (va_Pc [.int x0, .int x1] PN) (vp_Si (fun x => x = res)) 0 0 (fun _ => False) := by
  refine N_in (cc := cL_with) (maxL := 2) (ret := (some .int)) (by decide) rfl (Nat.le_of_ble_eq_true rfl) ?_
  intro p e s m args below meth c ls Q hQ C hr hlk hl
  have C : CallFix p m c cL_with 2 s args wsL_with RL := C
  have hx := C.1
  have hb := C.2.1
  have hl : lv_has ls 2 [(0, .int x0), (1, .int x1)] := hl
  unfold P_with at hrun
  refine lv_iload_n hx hb dL_with_0 rfl (lv_at hl 0 rfl) ?_
  refine lv_iconst (v := 1) hx hb dL_with_1 rfl ?_
  refine lv_iadd hx hb dL_with_2 ?_
  refine lv_iload_n hx hb dL_with_3 rfl (lv_at hl 1 rfl) ?_
  refine lv_iconst (v := 5) hx hb dL_with_4 rfl ?_
  refine lv_iload_n hx hb dL_with_5 rfl (lv_at hl 0 rfl) ?_
  obtain ⟨r1, h_r1, hrun⟩ := p_bnd hrun
  refine jSS_i (rest := [.int 5, .int x1, .int (x0 + 1)]) C (c_size h_r1) gL_with_L_size hd_size rfl ⟨rfl, rfl⟩ ⟨Nat.le_of_ble_eq_true rfl, Nat.le_of_ble_eq_true rfl⟩ rfl hl.1 rfl (Nat.le_of_ble_eq_true rfl) ⟨Nat.le_of_ble_eq_true rfl, Nat.le_of_ble_eq_true rfl⟩ dL_with_6 ?_
  refine lv_iadd hx hb dL_with_9 ?_
  refine j_ishl hx hb dL_with_10 ?_
  refine lv_ior hx hb dL_with_11 ?_
  cases hrun
  exact rS_i C hr hlk hQ (nbi _) rfl dL_with_12

abbrev rm_turned : Room := { frames := 2, cells := 0, slots := 0, locals := 43 }
theorem hd_turned : okD yL_turned 2 := by decide +kernel
set_option maxHeartbeats 8000000 in
set_option maxRecDepth 100000 in
theorem c_turned {x0 : Int32} {x1 : Int32} {res : Int32} (hrun : P_turned x0 x1 = some res) : Met l yL_turned wsL_turned rm_turned (va_Pc [.int x0, .int x1] PN) (vp_Si (fun x => x = res)) 0 0 (fun _ => False) := by
  refine N_in (cc := cL_turned) (maxL := 4) (ret := (some .int)) (by decide) rfl (Nat.le_of_ble_eq_true rfl) ?_
  intro p e s m args below meth c ls Q hQ C hr hlk hl
  have C : CallFix p m c cL_turned 4 s args wsL_turned RL := C
  have hx := C.1
  have hb := C.2.1
  have hl : lv_has ls 4 [(0, .int x0), (1, .int x1)] := hl
  have loop_4 : ∀ (n : Nat) (x2 : Int32) (x3 : Int32) (out : Int32), P_turned_4 x0 x1 n x2 x3 = some out → (∀ (ls : Array Slot), lv_has ls 4 [(2, .int out)] → W p l e rm_turned s m args below meth c s.heap [] 0 0 Q (F0 m 30 ls [])) → ∀ (ls : Array Slot), lv_has ls 4 [(0, .int x0), (1, .int x1), (2, .int x2), (3, .int x3)] → W p l e rm_turned s m args below meth c s.heap [] 0 0 Q (F0 m 4 ls []) := by
    intro n
    induction n with
    | zero =>
      intro x2 x3 out hrun K ls hl
      cases hrun
    | succ n ih =>
      intro x2 x3 out hrun K ls hl
      rw [P_turned_4] at hrun
      refine lv_iload_n hx hb dL_turned_4 rfl (lv_at hl 3 rfl) ?_
      refine lv_iload_n hx hb dL_turned_5 rfl (lv_at hl 0 rfl) ?_
      obtain ⟨r1, h_r1, hrun⟩ := p_bnd hrun
      refine jSS_i (rest := [.int x3]) C (c_size h_r1) gL_turned_L_size hd_size rfl ⟨rfl, rfl⟩ ⟨Nat.le_of_ble_eq_true rfl, Nat.le_of_ble_eq_true rfl⟩ rfl hl.1 rfl (Nat.le_of_ble_eq_true rfl) ⟨Nat.le_of_ble_eq_true rfl, Nat.le_of_ble_eq_true rfl⟩ dL_turned_6 ?_
      refine lv_icmp_ge (tgt := 30) hx hb dL_turned_9 rfl (fun c2 => ?_) (fun c2 => ?_)
      · have hrun := p_pos hrun c2
        cases hrun
        exact K _ (lv_sub hl [2] rfl)
      · have hrun := p_neg hrun c2
        refine lv_iload_n hx hb dL_turned_12 rfl (lv_at hl 2 rfl) ?_
        refine lv_iload_n hx hb dL_turned_13 rfl (lv_at hl 0 rfl) ?_
        refine lv_iload_n hx hb dL_turned_14 rfl (lv_at hl 3 rfl) ?_
        refine lv_iload_n hx hb dL_turned_15 rfl (lv_at hl 1 rfl) ?_
        refine lv_iadd hx hb dL_turned_16 ?_
        obtain ⟨r3, h_r3, hrun⟩ := p_bnd hrun
        refine jSS_i (rest := [.int x2]) C (c_round h_r3) gL_turned_L_round hd_round rfl ⟨rfl, rfl⟩ ⟨Nat.le_of_ble_eq_true rfl, Nat.le_of_ble_eq_true rfl⟩ rfl hl.1 rfl (Nat.le_of_ble_eq_true rfl) ⟨Nat.le_of_ble_eq_true rfl, Nat.le_of_ble_eq_true rfl⟩ dL_turned_17 ?_
        obtain ⟨r4, h_r4, hrun⟩ := p_bnd hrun
        refine jSS_i (rest := []) C (c_with h_r4) gL_turned_L_with hd_with rfl ⟨rfl, rfl⟩ ⟨Nat.le_of_ble_eq_true rfl, Nat.le_of_ble_eq_true rfl⟩ rfl hl.1 rfl (Nat.le_of_ble_eq_true rfl) ⟨Nat.le_of_ble_eq_true rfl, Nat.le_of_ble_eq_true rfl⟩ dL_turned_20 ?_
        refine lv_istore_n (lv' := [(2, .int r4), (0, .int x0), (1, .int x1), (3, .int x3)]) hx hb dL_turned_23 rfl hl (by decide) rfl (fun ls hl => ?_)
        refine lv_iinc (v := x3 + 1) (lv' := [(3, .int (x3 + 1)), (2, .int r4), (0, .int x0), (1, .int x1)]) hx hb dL_turned_24 hl (k := 3) rfl rfl (by decide) rfl (fun ls hl => ?_)
        refine lv_goto (tgt := 4) hx hb dL_turned_27 rfl ?_
        exact ih r4 (x3 + 1) out hrun K _ (lv_sub hl [2, 3, 1, 0] rfl)
  unfold P_turned at hrun
  refine lv_iconst (v := 0) hx hb dL_turned_0 rfl ?_
  refine lv_istore_n (lv' := [(2, .int 0), (0, .int x0), (1, .int x1)]) hx hb dL_turned_1 rfl hl (by decide) rfl (fun ls hl => ?_)
  refine lv_iconst (v := 0) hx hb dL_turned_2 rfl ?_
  refine lv_istore_n (lv' := [(3, .int 0), (2, .int 0), (0, .int x0), (1, .int x1)]) hx hb dL_turned_3 rfl hl (by decide) rfl (fun ls hl => ?_)
  obtain ⟨o5, h_o5, hrun⟩ := p_bnd hrun
  refine loop_4 FU 0 0 o5 h_o5 (fun ls hl => ?_) _ (lv_sub hl [2, 3, 1, 0] rfl)
  refine lv_iload_n hx hb dL_turned_30 rfl (lv_at hl 0 rfl) ?_
  cases hrun
  exact rS_i C hr hlk hQ (nbi _) rfl dL_turned_31

abbrev rm_back : Room := { frames := 2, cells := 0, slots := 0, locals := 41 }
theorem hd_back : okD yL_back 1 := by decide +kernel
set_option maxHeartbeats 8000000 in
set_option maxRecDepth 100000 in
theorem c_back {x0 : Int32} {res : Int32} (hrun : P_back x0 = some res) : Met l yL_back wsL_back rm_back (va_Pc [.int x0] PN) (vp_Si (fun x => x = res)) 0 0 (fun _ => False) := by
  refine N_in (cc := cL_back) (maxL := 3) (ret := (some .int)) (by decide) rfl (Nat.le_of_ble_eq_true rfl) ?_
  intro p e s m args below meth c ls Q hQ C hr hlk hl
  have C : CallFix p m c cL_back 3 s args wsL_back RL := C
  have hx := C.1
  have hb := C.2.1
  have hl : lv_has ls 3 [(0, .int x0)] := hl
  have loop_9 : ∀ (n : Nat) (x1 : Int32) (x2 : Int32) (out : Int32), P_back_9 x0 n x1 x2 = some out → (∀ (ls : Array Slot), lv_has ls 3 [(1, .int out)] → W p l e rm_back s m args below meth c s.heap [] 0 0 Q (F0 m 29 ls [])) → ∀ (ls : Array Slot), lv_has ls 3 [(0, .int x0), (1, .int x1), (2, .int x2)] → W p l e rm_back s m args below meth c s.heap [] 0 0 Q (F0 m 9 ls []) := by
    intro n
    induction n with
    | zero =>
      intro x1 x2 out hrun K ls hl
      cases hrun
    | succ n ih =>
      intro x1 x2 out hrun K ls hl
      rw [P_back_9] at hrun
      refine lv_iload_n hx hb dL_back_9 rfl (lv_at hl 2 rfl) ?_
      refine lv_if_lt (tgt := 29) hx hb dL_back_10 rfl (fun c2 => ?_) (fun c2 => ?_)
      · have hrun := p_pos hrun c2
        cases hrun
        exact K _ (lv_sub hl [1] rfl)
      · have hrun := p_neg hrun c2
        refine lv_iload_n hx hb dL_back_13 rfl (lv_at hl 1 rfl) ?_
        refine lv_iload_n hx hb dL_back_14 rfl (lv_at hl 0 rfl) ?_
        refine lv_iload_n hx hb dL_back_15 rfl (lv_at hl 2 rfl) ?_
        obtain ⟨r3, h_r3, hrun⟩ := p_bnd hrun
        refine jSS_i (rest := [.int x1]) C (c_bit h_r3) gL_back_L_bit hd_bit rfl ⟨rfl, rfl⟩ ⟨Nat.le_of_ble_eq_true rfl, Nat.le_of_ble_eq_true rfl⟩ rfl hl.1 rfl (Nat.le_of_ble_eq_true rfl) ⟨Nat.le_of_ble_eq_true rfl, Nat.le_of_ble_eq_true rfl⟩ dL_back_16 ?_
        obtain ⟨r4, h_r4, hrun⟩ := p_bnd hrun
        refine jSS_i (rest := []) C (c_with h_r4) gL_back_L_with hd_with rfl ⟨rfl, rfl⟩ ⟨Nat.le_of_ble_eq_true rfl, Nat.le_of_ble_eq_true rfl⟩ rfl hl.1 rfl (Nat.le_of_ble_eq_true rfl) ⟨Nat.le_of_ble_eq_true rfl, Nat.le_of_ble_eq_true rfl⟩ dL_back_19 ?_
        refine lv_istore_n (lv' := [(1, .int r4), (0, .int x0), (2, .int x2)]) hx hb dL_back_22 rfl hl (by decide) rfl (fun ls hl => ?_)
        refine lv_iinc (v := x2 + (-1)) (lv' := [(2, .int (x2 + (-1))), (1, .int r4), (0, .int x0)]) hx hb dL_back_23 hl (k := 2) rfl rfl (by decide) rfl (fun ls hl => ?_)
        refine lv_goto (tgt := 9) hx hb dL_back_26 rfl ?_
        exact ih r4 (x2 + (-1)) out hrun K _ (lv_sub hl [2, 1, 0] rfl)
  unfold P_back at hrun
  refine lv_iconst (v := 0) hx hb dL_back_0 rfl ?_
  refine lv_istore_n (lv' := [(1, .int 0), (0, .int x0)]) hx hb dL_back_1 rfl hl (by decide) rfl (fun ls hl => ?_)
  refine lv_iload_n hx hb dL_back_2 rfl (lv_at hl 1 rfl) ?_
  obtain ⟨r1, h_r1, hrun⟩ := p_bnd hrun
  refine jSS_i (rest := []) C (c_size h_r1) gL_back_L_size hd_size rfl ⟨rfl, rfl⟩ ⟨Nat.le_of_ble_eq_true rfl, Nat.le_of_ble_eq_true rfl⟩ rfl hl.1 rfl (Nat.le_of_ble_eq_true rfl) ⟨Nat.le_of_ble_eq_true rfl, Nat.le_of_ble_eq_true rfl⟩ dL_back_3 ?_
  refine lv_iconst (v := 1) hx hb dL_back_6 rfl ?_
  refine lv_isub hx hb dL_back_7 ?_
  refine lv_istore_n (lv' := [(2, .int (r1 - 1)), (1, .int 0), (0, .int x0)]) hx hb dL_back_8 rfl hl (by decide) rfl (fun ls hl => ?_)
  obtain ⟨o5, h_o5, hrun⟩ := p_bnd hrun
  refine loop_9 FU 0 (r1 - 1) o5 h_o5 (fun ls hl => ?_) _ (lv_sub hl [2, 1, 0] rfl)
  refine lv_iload_n hx hb dL_back_29 rfl (lv_at hl 0 rfl) ?_
  cases hrun
  exact rS_i C hr hlk hQ (nbi _) rfl dL_back_30

abbrev rm_mirror : Room := { frames := 2, cells := 0, slots := 0, locals := 41 }
theorem hd_mirror : okD yL_mirror 1 := by decide +kernel
set_option maxHeartbeats 8000000 in
set_option maxRecDepth 100000 in
theorem c_mirror {x0 : Int32} {res : Int32} (hrun : P_mirror x0 = some res) : Met l yL_mirror wsL_mirror rm_mirror (va_Pc [.int x0] PN) (vp_Si (fun x => x = res)) 0 0 (fun _ => False) := by
  refine N_in (cc := cL_mirror) (maxL := 3) (ret := (some .int)) (by decide) rfl (Nat.le_of_ble_eq_true rfl) ?_
  intro p e s m args below meth c ls Q hQ C hr hlk hl
  have C : CallFix p m c cL_mirror 3 s args wsL_mirror RL := C
  have hx := C.1
  have hb := C.2.1
  have hl : lv_has ls 3 [(0, .int x0)] := hl
  have loop_4 : ∀ (n : Nat) (x1 : Int32) (x2 : Int32) (out : Int32), P_mirror_4 x0 n x1 x2 = some out → (∀ (ls : Array Slot), lv_has ls 3 [(1, .int out)] → W p l e rm_mirror s m args below meth c s.heap [] 0 0 Q (F0 m 30 ls [])) → ∀ (ls : Array Slot), lv_has ls 3 [(0, .int x0), (1, .int x1), (2, .int x2)] → W p l e rm_mirror s m args below meth c s.heap [] 0 0 Q (F0 m 4 ls []) := by
    intro n
    induction n with
    | zero =>
      intro x1 x2 out hrun K ls hl
      cases hrun
    | succ n ih =>
      intro x1 x2 out hrun K ls hl
      rw [P_mirror_4] at hrun
      refine lv_iload_n hx hb dL_mirror_4 rfl (lv_at hl 2 rfl) ?_
      refine lv_iload_n hx hb dL_mirror_5 rfl (lv_at hl 0 rfl) ?_
      obtain ⟨r1, h_r1, hrun⟩ := p_bnd hrun
      refine jSS_i (rest := [.int x2]) C (c_size h_r1) gL_mirror_L_size hd_size rfl ⟨rfl, rfl⟩ ⟨Nat.le_of_ble_eq_true rfl, Nat.le_of_ble_eq_true rfl⟩ rfl hl.1 rfl (Nat.le_of_ble_eq_true rfl) ⟨Nat.le_of_ble_eq_true rfl, Nat.le_of_ble_eq_true rfl⟩ dL_mirror_6 ?_
      refine lv_icmp_ge (tgt := 30) hx hb dL_mirror_9 rfl (fun c2 => ?_) (fun c2 => ?_)
      · have hrun := p_pos hrun c2
        cases hrun
        exact K _ (lv_sub hl [1] rfl)
      · have hrun := p_neg hrun c2
        refine lv_iload_n hx hb dL_mirror_12 rfl (lv_at hl 1 rfl) ?_
        refine lv_iconst (v := 1) hx hb dL_mirror_13 rfl ?_
        refine lv_iload_n hx hb dL_mirror_14 rfl (lv_at hl 0 rfl) ?_
        refine lv_iload_n hx hb dL_mirror_15 rfl (lv_at hl 2 rfl) ?_
        obtain ⟨r3, h_r3, hrun⟩ := p_bnd hrun
        refine jSS_i (rest := [.int 1, .int x1]) C (c_bit h_r3) gL_mirror_L_bit hd_bit rfl ⟨rfl, rfl⟩ ⟨Nat.le_of_ble_eq_true rfl, Nat.le_of_ble_eq_true rfl⟩ rfl hl.1 rfl (Nat.le_of_ble_eq_true rfl) ⟨Nat.le_of_ble_eq_true rfl, Nat.le_of_ble_eq_true rfl⟩ dL_mirror_16 ?_
        refine lv_isub hx hb dL_mirror_19 ?_
        obtain ⟨r4, h_r4, hrun⟩ := p_bnd hrun
        refine jSS_i (rest := []) C (c_with h_r4) gL_mirror_L_with hd_with rfl ⟨rfl, rfl⟩ ⟨Nat.le_of_ble_eq_true rfl, Nat.le_of_ble_eq_true rfl⟩ rfl hl.1 rfl (Nat.le_of_ble_eq_true rfl) ⟨Nat.le_of_ble_eq_true rfl, Nat.le_of_ble_eq_true rfl⟩ dL_mirror_20 ?_
        refine lv_istore_n (lv' := [(1, .int r4), (0, .int x0), (2, .int x2)]) hx hb dL_mirror_23 rfl hl (by decide) rfl (fun ls hl => ?_)
        refine lv_iinc (v := x2 + 1) (lv' := [(2, .int (x2 + 1)), (1, .int r4), (0, .int x0)]) hx hb dL_mirror_24 hl (k := 2) rfl rfl (by decide) rfl (fun ls hl => ?_)
        refine lv_goto (tgt := 4) hx hb dL_mirror_27 rfl ?_
        exact ih r4 (x2 + 1) out hrun K _ (lv_sub hl [2, 1, 0] rfl)
  unfold P_mirror at hrun
  refine lv_iconst (v := 0) hx hb dL_mirror_0 rfl ?_
  refine lv_istore_n (lv' := [(1, .int 0), (0, .int x0)]) hx hb dL_mirror_1 rfl hl (by decide) rfl (fun ls hl => ?_)
  refine lv_iconst (v := 0) hx hb dL_mirror_2 rfl ?_
  refine lv_istore_n (lv' := [(2, .int 0), (1, .int 0), (0, .int x0)]) hx hb dL_mirror_3 rfl hl (by decide) rfl (fun ls hl => ?_)
  obtain ⟨o5, h_o5, hrun⟩ := p_bnd hrun
  refine loop_4 FU 0 0 o5 h_o5 (fun ls hl => ?_) _ (lv_sub hl [2, 1, 0] rfl)
  refine lv_iload_n hx hb dL_mirror_30 rfl (lv_at hl 0 rfl) ?_
  cases hrun
  exact rS_i C hr hlk hQ (nbi _) rfl dL_mirror_31

abbrev rm_join : Room := { frames := 2, cells := 0, slots := 0, locals := 41 }
theorem hd_join : okD yL_join 2 := by decide +kernel
set_option maxHeartbeats 8000000 in
set_option maxRecDepth 100000 in
theorem c_join {x0 : Int32} {x1 : Int32} {res : Int32} (hrun : P_join x0 x1 = some res) : Met l yL_join wsL_join rm_join (va_Pc [.int x0, .int x1] PN) (vp_Si (fun x => x = res)) 0 0 (fun _ => False) := by
  refine N_in (cc := cL_join) (maxL := 4) (ret := (some .int)) (by decide) rfl (Nat.le_of_ble_eq_true rfl) ?_
  intro p e s m args below meth c ls Q hQ C hr hlk hl
  have C : CallFix p m c cL_join 4 s args wsL_join RL := C
  have hx := C.1
  have hb := C.2.1
  have hl : lv_has ls 4 [(0, .int x0), (1, .int x1)] := hl
  have loop_4 : ∀ (n : Nat) (x2 : Int32) (x3 : Int32) (out : Int32), P_join_4 x1 n x2 x3 = some out → (∀ (ls : Array Slot), lv_has ls 4 [(2, .int out)] → W p l e rm_join s m args below meth c s.heap [] 0 0 Q (F0 m 28 ls [])) → ∀ (ls : Array Slot), lv_has ls 4 [(1, .int x1), (2, .int x2), (3, .int x3)] → W p l e rm_join s m args below meth c s.heap [] 0 0 Q (F0 m 4 ls []) := by
    intro n
    induction n with
    | zero =>
      intro x2 x3 out hrun K ls hl
      cases hrun
    | succ n ih =>
      intro x2 x3 out hrun K ls hl
      rw [P_join_4] at hrun
      refine lv_iload_n hx hb dL_join_4 rfl (lv_at hl 2 rfl) ?_
      refine lv_iload_n hx hb dL_join_5 rfl (lv_at hl 0 rfl) ?_
      obtain ⟨r1, h_r1, hrun⟩ := p_bnd hrun
      refine jSS_i (rest := [.int x3]) C (c_size h_r1) gL_join_L_size hd_size rfl ⟨rfl, rfl⟩ ⟨Nat.le_of_ble_eq_true rfl, Nat.le_of_ble_eq_true rfl⟩ rfl hl.1 rfl (Nat.le_of_ble_eq_true rfl) ⟨Nat.le_of_ble_eq_true rfl, Nat.le_of_ble_eq_true rfl⟩ dL_join_6 ?_
      refine lv_icmp_ge (tgt := 28) hx hb dL_join_9 rfl (fun c2 => ?_) (fun c2 => ?_)
      · have hrun := p_pos hrun c2
        cases hrun
        exact K _ (lv_sub hl [1] rfl)
      · have hrun := p_neg hrun c2
        refine lv_iload_n hx hb dL_join_12 rfl (lv_at hl 1 rfl) ?_
        refine lv_iload_n hx hb dL_join_13 rfl (lv_at hl 0 rfl) ?_
        refine lv_iload_n hx hb dL_join_14 rfl (lv_at hl 2 rfl) ?_
        obtain ⟨r3, h_r3, hrun⟩ := p_bnd hrun
        refine jSS_i (rest := [.int x2]) C (c_bit h_r3) gL_join_L_bit hd_bit rfl ⟨rfl, rfl⟩ ⟨Nat.le_of_ble_eq_true rfl, Nat.le_of_ble_eq_true rfl⟩ rfl hl.1 rfl (Nat.le_of_ble_eq_true rfl) ⟨Nat.le_of_ble_eq_true rfl, Nat.le_of_ble_eq_true rfl⟩ dL_join_15 ?_
        obtain ⟨r4, h_r4, hrun⟩ := p_bnd hrun
        refine jSS_i (rest := []) C (c_with h_r4) gL_join_L_with hd_with rfl ⟨rfl, rfl⟩ ⟨Nat.le_of_ble_eq_true rfl, Nat.le_of_ble_eq_true rfl⟩ rfl hl.1 rfl (Nat.le_of_ble_eq_true rfl) ⟨Nat.le_of_ble_eq_true rfl, Nat.le_of_ble_eq_true rfl⟩ dL_join_18 ?_
        refine lv_istore_n (lv' := [(2, .int r4), (1, .int x1), (3, .int x3)]) hx hb dL_join_21 rfl hl (by decide) rfl (fun ls hl => ?_)
        refine lv_iinc (v := x3 + 1) (lv' := [(3, .int (x3 + 1)), (2, .int r4), (1, .int x1)]) hx hb dL_join_22 hl (k := 2) rfl rfl (by decide) rfl (fun ls hl => ?_)
        refine lv_goto (tgt := 4) hx hb dL_join_25 rfl ?_
        exact ih r4 (x3 + 1) out hrun K _ (lv_sub hl [2, 1, 0] rfl)
  unfold P_join at hrun
  refine lv_iload_n hx hb dL_join_0 rfl (lv_at hl 0 rfl) ?_
  refine lv_istore_n (lv' := [(2, .int x0), (0, .int x0), (1, .int x1)]) hx hb dL_join_1 rfl hl (by decide) rfl (fun ls hl => ?_)
  refine lv_iconst (v := 0) hx hb dL_join_2 rfl ?_
  refine lv_istore_n (lv' := [(3, .int 0), (2, .int x0), (0, .int x0), (1, .int x1)]) hx hb dL_join_3 rfl hl (by decide) rfl (fun ls hl => ?_)
  obtain ⟨o5, h_o5, hrun⟩ := p_bnd hrun
  refine loop_4 FU x0 0 o5 h_o5 (fun ls hl => ?_) _ (lv_sub hl [3, 1, 0] rfl)
  refine lv_iload_n hx hb dL_join_28 rfl (lv_at hl 0 rfl) ?_
  cases hrun
  exact rS_i C hr hlk hQ (nbi _) rfl dL_join_29

abbrev rm_rights : Room := { frames := 1, cells := 0, slots := 0, locals := 21 }
theorem hd_rights : okD yL_rights 1 := by decide +kernel
set_option maxHeartbeats 8000000 in
set_option maxRecDepth 100000 in
theorem c_rights {x0 : Int32} {res : Int32} (hrun : P_rights x0 = some res) : Met l yL_rights wsL_rights rm_rights (va_Pc [.int x0] PN) (vp_Si (fun x => x = res)) 0 0 (fun _ => False) := by
  refine N_in (cc := cL_rights) (maxL := 3) (ret := (some .int)) (by decide) rfl (Nat.le_of_ble_eq_true rfl) ?_
  intro p e s m args below meth c ls Q hQ C hr hlk hl
  have C : CallFix p m c cL_rights 3 s args wsL_rights RL := C
  have hx := C.1
  have hb := C.2.1
  have hl : lv_has ls 3 [(0, .int x0)] := hl
  have loop_4 : ∀ (n : Nat) (x1 : Int32) (x2 : Int32) (out : Int32), P_rights_4 x0 n x1 x2 = some out → (∀ (ls : Array Slot), lv_has ls 3 [(1, .int out)] → W p l e rm_rights s m args below meth c s.heap [] 0 0 Q (F0 m 26 ls [])) → ∀ (ls : Array Slot), lv_has ls 3 [(0, .int x0), (1, .int x1), (2, .int x2)] → W p l e rm_rights s m args below meth c s.heap [] 0 0 Q (F0 m 4 ls []) := by
    intro n
    induction n with
    | zero =>
      intro x1 x2 out hrun K ls hl
      cases hrun
    | succ n ih =>
      intro x1 x2 out hrun K ls hl
      rw [P_rights_4] at hrun
      refine lv_iload_n hx hb dL_rights_4 rfl (lv_at hl 2 rfl) ?_
      refine lv_iload_n hx hb dL_rights_5 rfl (lv_at hl 0 rfl) ?_
      obtain ⟨r1, h_r1, hrun⟩ := p_bnd hrun
      refine jSS_i (rest := [.int x2]) C (c_size h_r1) gL_rights_L_size hd_size rfl ⟨rfl, rfl⟩ ⟨Nat.le_of_ble_eq_true rfl, Nat.le_of_ble_eq_true rfl⟩ rfl hl.1 rfl (Nat.le_of_ble_eq_true rfl) ⟨Nat.le_of_ble_eq_true rfl, Nat.le_of_ble_eq_true rfl⟩ dL_rights_6 ?_
      refine lv_icmp_ge (tgt := 26) hx hb dL_rights_9 rfl (fun c2 => ?_) (fun c2 => ?_)
      · have hrun := p_pos hrun c2
        cases hrun
        exact K _ (lv_sub hl [1] rfl)
      · have hrun := p_neg hrun c2
        refine lv_iload_n hx hb dL_rights_12 rfl (lv_at hl 1 rfl) ?_
        refine lv_iload_n hx hb dL_rights_13 rfl (lv_at hl 0 rfl) ?_
        refine lv_iload_n hx hb dL_rights_14 rfl (lv_at hl 2 rfl) ?_
        obtain ⟨r3, h_r3, hrun⟩ := p_bnd hrun
        refine jSS_i (rest := [.int x1]) C (c_bit h_r3) gL_rights_L_bit hd_bit rfl ⟨rfl, rfl⟩ ⟨Nat.le_of_ble_eq_true rfl, Nat.le_of_ble_eq_true rfl⟩ rfl hl.1 rfl (Nat.le_of_ble_eq_true rfl) ⟨Nat.le_of_ble_eq_true rfl, Nat.le_of_ble_eq_true rfl⟩ dL_rights_15 ?_
        refine lv_iadd hx hb dL_rights_18 ?_
        refine lv_istore_n (lv' := [(1, .int (x1 + r3)), (0, .int x0), (2, .int x2)]) hx hb dL_rights_19 rfl hl (by decide) rfl (fun ls hl => ?_)
        refine lv_iinc (v := x2 + 1) (lv' := [(2, .int (x2 + 1)), (1, .int (x1 + r3)), (0, .int x0)]) hx hb dL_rights_20 hl (k := 2) rfl rfl (by decide) rfl (fun ls hl => ?_)
        refine lv_goto (tgt := 4) hx hb dL_rights_23 rfl ?_
        exact ih (x1 + r3) (x2 + 1) out hrun K _ (lv_sub hl [2, 1, 0] rfl)
  unfold P_rights at hrun
  refine lv_iconst (v := 0) hx hb dL_rights_0 rfl ?_
  refine lv_istore_n (lv' := [(1, .int 0), (0, .int x0)]) hx hb dL_rights_1 rfl hl (by decide) rfl (fun ls hl => ?_)
  refine lv_iconst (v := 0) hx hb dL_rights_2 rfl ?_
  refine lv_istore_n (lv' := [(2, .int 0), (1, .int 0), (0, .int x0)]) hx hb dL_rights_3 rfl hl (by decide) rfl (fun ls hl => ?_)
  obtain ⟨o4, h_o4, hrun⟩ := p_bnd hrun
  refine loop_4 FU 0 0 o4 h_o4 (fun ls hl => ?_) _ (lv_sub hl [2, 1, 0] rfl)
  refine lv_iload_n hx hb dL_rights_26 rfl (lv_at hl 0 rfl) ?_
  cases hrun
  exact rS_i C hr hlk hQ (nbi _) rfl dL_rights_27

abbrev rm_isClosed : Room := { frames := 2, cells := 0, slots := 0, locals := 43 }
theorem hd_isClosed : okD yL_isClosed 1 := by decide +kernel
set_option maxHeartbeats 8000000 in
set_option maxRecDepth 100000 in
theorem c_isClosed {x0 : Int32} {res : Int32} (hrun : P_isClosed x0 = some res) : Met l yL_isClosed wsL_isClosed rm_isClosed (va_Pc [.int x0] PN) (vp_Si (fun x => x = res)) 0 0 (fun _ => False) := by
  refine N_in (cc := cL_isClosed) (maxL := 1) (ret := (some .boolean)) (by decide) rfl (Nat.le_of_ble_eq_true rfl) ?_
  intro p e s m args below meth c ls Q hQ C hr hlk hl
  have C : CallFix p m c cL_isClosed 1 s args wsL_isClosed RL := C
  have hx := C.1
  have hb := C.2.1
  have hl : lv_has ls 1 [(0, .int x0)] := hl
  unfold P_isClosed at hrun
  refine lv_iload_n hx hb dL_isClosed_0 rfl (lv_at hl 0 rfl) ?_
  obtain ⟨r1, h_r1, hrun⟩ := p_bnd hrun
  refine jSS_i (rest := []) C (c_rights h_r1) gL_isClosed_L_rights hd_rights rfl ⟨rfl, rfl⟩ ⟨Nat.le_of_ble_eq_true rfl, Nat.le_of_ble_eq_true rfl⟩ rfl hl.1 rfl (Nat.le_of_ble_eq_true rfl) ⟨Nat.le_of_ble_eq_true rfl, Nat.le_of_ble_eq_true rfl⟩ dL_isClosed_1 ?_
  refine lv_if_le (tgt := 22) hx hb dL_isClosed_4 rfl (fun c2 => ?_) (fun c2 => ?_)
  · have hrun := p_pos hrun c2
    refine lv_iconst (v := 0) hx hb dL_isClosed_22 rfl ?_
    cases hrun
    exact rS_i C hr hlk hQ (nb01 (Or.inl rfl)) rfl dL_isClosed_23
  · have hrun := p_neg hrun c2
    refine lv_iload_n hx hb dL_isClosed_7 rfl (lv_at hl 0 rfl) ?_
    obtain ⟨r3, h_r3, hrun⟩ := p_bnd hrun
    refine jSS_i (rest := []) C (c_rights h_r3) gL_isClosed_L_rights hd_rights rfl ⟨rfl, rfl⟩ ⟨Nat.le_of_ble_eq_true rfl, Nat.le_of_ble_eq_true rfl⟩ rfl hl.1 rfl (Nat.le_of_ble_eq_true rfl) ⟨Nat.le_of_ble_eq_true rfl, Nat.le_of_ble_eq_true rfl⟩ dL_isClosed_8 ?_
    refine lv_iload_n hx hb dL_isClosed_11 rfl (lv_at hl 0 rfl) ?_
    obtain ⟨r4, h_r4, hrun⟩ := p_bnd hrun
    refine jSS_i (rest := [.int r3]) C (c_size h_r4) gL_isClosed_L_size hd_size rfl ⟨rfl, rfl⟩ ⟨Nat.le_of_ble_eq_true rfl, Nat.le_of_ble_eq_true rfl⟩ rfl hl.1 rfl (Nat.le_of_ble_eq_true rfl) ⟨Nat.le_of_ble_eq_true rfl, Nat.le_of_ble_eq_true rfl⟩ dL_isClosed_12 ?_
    refine lv_icmp_ge (tgt := 22) hx hb dL_isClosed_15 rfl (fun c5 => ?_) (fun c5 => ?_)
    · have hrun := p_pos hrun c5
      refine lv_iconst (v := 0) hx hb dL_isClosed_22 rfl ?_
      cases hrun
      exact rS_i C hr hlk hQ (nb01 (Or.inl rfl)) rfl dL_isClosed_23
    · have hrun := p_neg hrun c5
      refine lv_iconst (v := 1) hx hb dL_isClosed_18 rfl ?_
      refine lv_goto (tgt := 23) hx hb dL_isClosed_19 rfl ?_
      cases hrun
      exact rS_i C hr hlk hQ (nb01 (Or.inr rfl)) rfl dL_isClosed_23

abbrev rm_rank : Room := { frames := 1, cells := 0, slots := 0, locals := 21 }
theorem hd_rank : okD yL_rank 1 := by decide +kernel
set_option maxHeartbeats 8000000 in
set_option maxRecDepth 100000 in
theorem c_rank {x0 : Int32} {res : Int32} (hrun : P_rank x0 = some res) : Met l yL_rank wsL_rank rm_rank (va_Pc [.int x0] PN) (vp_Si (fun x => x = res)) 0 0 (fun _ => False) := by
  refine N_in (cc := cL_rank) (maxL := 3) (ret := (some .int)) (by decide) rfl (Nat.le_of_ble_eq_true rfl) ?_
  intro p e s m args below meth c ls Q hQ C hr hlk hl
  have C : CallFix p m c cL_rank 3 s args wsL_rank RL := C
  have hx := C.1
  have hb := C.2.1
  have hl : lv_has ls 3 [(0, .int x0)] := hl
  have loop_4 : ∀ (n : Nat) (x1 : Int32) (x2 : Int32) (out : Int32), P_rank_4 x0 n x1 x2 = some out → (∀ (ls : Array Slot), lv_has ls 3 [(1, .int out)] → W p l e rm_rank s m args below meth c s.heap [] 0 0 Q (F0 m 28 ls [])) → ∀ (ls : Array Slot), lv_has ls 3 [(0, .int x0), (1, .int x1), (2, .int x2)] → W p l e rm_rank s m args below meth c s.heap [] 0 0 Q (F0 m 4 ls []) := by
    intro n
    induction n with
    | zero =>
      intro x1 x2 out hrun K ls hl
      cases hrun
    | succ n ih =>
      intro x1 x2 out hrun K ls hl
      rw [P_rank_4] at hrun
      refine lv_iload_n hx hb dL_rank_4 rfl (lv_at hl 2 rfl) ?_
      refine lv_iload_n hx hb dL_rank_5 rfl (lv_at hl 0 rfl) ?_
      obtain ⟨r1, h_r1, hrun⟩ := p_bnd hrun
      refine jSS_i (rest := [.int x2]) C (c_size h_r1) gL_rank_L_size hd_size rfl ⟨rfl, rfl⟩ ⟨Nat.le_of_ble_eq_true rfl, Nat.le_of_ble_eq_true rfl⟩ rfl hl.1 rfl (Nat.le_of_ble_eq_true rfl) ⟨Nat.le_of_ble_eq_true rfl, Nat.le_of_ble_eq_true rfl⟩ dL_rank_6 ?_
      refine lv_icmp_ge (tgt := 28) hx hb dL_rank_9 rfl (fun c2 => ?_) (fun c2 => ?_)
      · have hrun := p_pos hrun c2
        cases hrun
        exact K _ (lv_sub hl [1] rfl)
      · have hrun := p_neg hrun c2
        refine lv_iconst (v := 2) hx hb dL_rank_12 rfl ?_
        refine lv_iload_n hx hb dL_rank_13 rfl (lv_at hl 1 rfl) ?_
        refine lv_imul hx hb dL_rank_14 ?_
        refine lv_iload_n hx hb dL_rank_15 rfl (lv_at hl 0 rfl) ?_
        refine lv_iload_n hx hb dL_rank_16 rfl (lv_at hl 2 rfl) ?_
        obtain ⟨r3, h_r3, hrun⟩ := p_bnd hrun
        refine jSS_i (rest := [.int (2 * x1)]) C (c_bit h_r3) gL_rank_L_bit hd_bit rfl ⟨rfl, rfl⟩ ⟨Nat.le_of_ble_eq_true rfl, Nat.le_of_ble_eq_true rfl⟩ rfl hl.1 rfl (Nat.le_of_ble_eq_true rfl) ⟨Nat.le_of_ble_eq_true rfl, Nat.le_of_ble_eq_true rfl⟩ dL_rank_17 ?_
        refine lv_iadd hx hb dL_rank_20 ?_
        refine lv_istore_n (lv' := [(1, .int ((2 * x1) + r3)), (0, .int x0), (2, .int x2)]) hx hb dL_rank_21 rfl hl (by decide) rfl (fun ls hl => ?_)
        refine lv_iinc (v := x2 + 1) (lv' := [(2, .int (x2 + 1)), (1, .int ((2 * x1) + r3)), (0, .int x0)]) hx hb dL_rank_22 hl (k := 2) rfl rfl (by decide) rfl (fun ls hl => ?_)
        refine lv_goto (tgt := 4) hx hb dL_rank_25 rfl ?_
        exact ih ((2 * x1) + r3) (x2 + 1) out hrun K _ (lv_sub hl [2, 1, 0] rfl)
  unfold P_rank at hrun
  refine lv_iconst (v := 0) hx hb dL_rank_0 rfl ?_
  refine lv_istore_n (lv' := [(1, .int 0), (0, .int x0)]) hx hb dL_rank_1 rfl hl (by decide) rfl (fun ls hl => ?_)
  refine lv_iconst (v := 0) hx hb dL_rank_2 rfl ?_
  refine lv_istore_n (lv' := [(2, .int 0), (1, .int 0), (0, .int x0)]) hx hb dL_rank_3 rfl hl (by decide) rfl (fun ls hl => ?_)
  obtain ⟨o4, h_o4, hrun⟩ := p_bnd hrun
  refine loop_4 FU 0 0 o4 h_o4 (fun ls hl => ?_) _ (lv_sub hl [2, 1, 0] rfl)
  refine lv_iload_n hx hb dL_rank_28 rfl (lv_at hl 0 rfl) ?_
  cases hrun
  exact rS_i C hr hlk hQ (nbi _) rfl dL_rank_29

abbrev rm_least : Room := { frames := 3, cells := 0, slots := 0, locals := 66 }
theorem hd_least : okD yL_least 1 := by decide +kernel
set_option maxHeartbeats 8000000 in
set_option maxRecDepth 100000 in
theorem c_least {x0 : Int32} {res : Int32} (hrun : P_least x0 = some res) : Met l yL_least wsL_least rm_least (va_Pc [.int x0] PN) (vp_Si (fun x => x = res)) 0 0 (fun _ => False) := by
  refine N_in (cc := cL_least) (maxL := 3) (ret := (some .int)) (by decide) rfl (Nat.le_of_ble_eq_true rfl) ?_
  intro p e s m args below meth c ls Q hQ C hr hlk hl
  have C : CallFix p m c cL_least 3 s args wsL_least RL := C
  have hx := C.1
  have hb := C.2.1
  have hl : lv_has ls 3 [(0, .int x0)] := hl
  have loop_4 : ∀ (n : Nat) (x1 : Int32) (x2 : Int32) (out : Int32), P_least_4 x0 n x1 x2 = some out → (∀ (ls : Array Slot), lv_has ls 3 [(1, .int out)] → W p l e rm_least s m args below meth c s.heap [] 0 0 Q (F0 m 39 ls [])) → ∀ (ls : Array Slot), lv_has ls 3 [(0, .int x0), (1, .int x1), (2, .int x2)] → W p l e rm_least s m args below meth c s.heap [] 0 0 Q (F0 m 4 ls []) := by
    intro n
    induction n with
    | zero =>
      intro x1 x2 out hrun K ls hl
      cases hrun
    | succ n ih =>
      intro x1 x2 out hrun K ls hl
      rw [P_least_4] at hrun
      refine lv_iload_n hx hb dL_least_4 rfl (lv_at hl 2 rfl) ?_
      refine lv_iload_n hx hb dL_least_5 rfl (lv_at hl 0 rfl) ?_
      obtain ⟨r1, h_r1, hrun⟩ := p_bnd hrun
      refine jSS_i (rest := [.int x2]) C (c_size h_r1) gL_least_L_size hd_size rfl ⟨rfl, rfl⟩ ⟨Nat.le_of_ble_eq_true rfl, Nat.le_of_ble_eq_true rfl⟩ rfl hl.1 rfl (Nat.le_of_ble_eq_true rfl) ⟨Nat.le_of_ble_eq_true rfl, Nat.le_of_ble_eq_true rfl⟩ dL_least_6 ?_
      refine lv_icmp_ge (tgt := 39) hx hb dL_least_9 rfl (fun c2 => ?_) (fun c2 => ?_)
      · have hrun := p_pos hrun c2
        cases hrun
        exact K _ (lv_sub hl [1] rfl)
      · have hrun := p_neg hrun c2
        refine lv_iload_n hx hb dL_least_12 rfl (lv_at hl 0 rfl) ?_
        refine lv_iload_n hx hb dL_least_13 rfl (lv_at hl 2 rfl) ?_
        obtain ⟨r3, h_r3, hrun⟩ := p_bnd hrun
        refine jSS_i (rest := []) C (c_turned h_r3) gL_least_L_turned hd_turned rfl ⟨rfl, rfl⟩ ⟨Nat.le_of_ble_eq_true rfl, Nat.le_of_ble_eq_true rfl⟩ rfl hl.1 rfl (Nat.le_of_ble_eq_true rfl) ⟨Nat.le_of_ble_eq_true rfl, Nat.le_of_ble_eq_true rfl⟩ dL_least_14 ?_
        obtain ⟨r4, h_r4, hrun⟩ := p_bnd hrun
        refine jSS_i (rest := []) C (c_rank h_r4) gL_least_L_rank hd_rank rfl ⟨rfl, rfl⟩ ⟨Nat.le_of_ble_eq_true rfl, Nat.le_of_ble_eq_true rfl⟩ rfl hl.1 rfl (Nat.le_of_ble_eq_true rfl) ⟨Nat.le_of_ble_eq_true rfl, Nat.le_of_ble_eq_true rfl⟩ dL_least_17 ?_
        refine lv_iload_n hx hb dL_least_20 rfl (lv_at hl 1 rfl) ?_
        obtain ⟨r5, h_r5, hrun⟩ := p_bnd hrun
        refine jSS_i (rest := [.int r4]) C (c_rank h_r5) gL_least_L_rank hd_rank rfl ⟨rfl, rfl⟩ ⟨Nat.le_of_ble_eq_true rfl, Nat.le_of_ble_eq_true rfl⟩ rfl hl.1 rfl (Nat.le_of_ble_eq_true rfl) ⟨Nat.le_of_ble_eq_true rfl, Nat.le_of_ble_eq_true rfl⟩ dL_least_21 ?_
        refine lv_icmp_ge (tgt := 33) hx hb dL_least_24 rfl (fun c6 => ?_) (fun c6 => ?_)
        · have hrun := p_pos hrun c6
          refine lv_iinc (v := x2 + 1) (lv' := [(2, .int (x2 + 1)), (0, .int x0), (1, .int x1)]) hx hb dL_least_33 hl (k := 2) rfl rfl (by decide) rfl (fun ls hl => ?_)
          refine lv_goto (tgt := 4) hx hb dL_least_36 rfl ?_
          exact ih x1 (x2 + 1) out hrun K _ (lv_sub hl [1, 2, 0] rfl)
        · have hrun := p_neg hrun c6
          refine lv_iload_n hx hb dL_least_27 rfl (lv_at hl 0 rfl) ?_
          refine lv_iload_n hx hb dL_least_28 rfl (lv_at hl 2 rfl) ?_
          obtain ⟨r7, h_r7, hrun⟩ := p_bnd hrun
          refine jSS_i (rest := []) C (c_turned h_r7) gL_least_L_turned hd_turned rfl ⟨rfl, rfl⟩ ⟨Nat.le_of_ble_eq_true rfl, Nat.le_of_ble_eq_true rfl⟩ rfl hl.1 rfl (Nat.le_of_ble_eq_true rfl) ⟨Nat.le_of_ble_eq_true rfl, Nat.le_of_ble_eq_true rfl⟩ dL_least_29 ?_
          refine lv_istore_n (lv' := [(1, .int r7), (0, .int x0), (2, .int x2)]) hx hb dL_least_32 rfl hl (by decide) rfl (fun ls hl => ?_)
          refine lv_iinc (v := x2 + 1) (lv' := [(2, .int (x2 + 1)), (1, .int r7), (0, .int x0)]) hx hb dL_least_33 hl (k := 2) rfl rfl (by decide) rfl (fun ls hl => ?_)
          refine lv_goto (tgt := 4) hx hb dL_least_36 rfl ?_
          exact ih r7 (x2 + 1) out hrun K _ (lv_sub hl [2, 1, 0] rfl)
  unfold P_least at hrun
  refine lv_iload_n hx hb dL_least_0 rfl (lv_at hl 0 rfl) ?_
  refine lv_istore_n (lv' := [(1, .int x0), (0, .int x0)]) hx hb dL_least_1 rfl hl (by decide) rfl (fun ls hl => ?_)
  refine lv_iconst (v := 1) hx hb dL_least_2 rfl ?_
  refine lv_istore_n (lv' := [(2, .int 1), (1, .int x0), (0, .int x0)]) hx hb dL_least_3 rfl hl (by decide) rfl (fun ls hl => ?_)
  obtain ⟨o8, h_o8, hrun⟩ := p_bnd hrun
  refine loop_4 FU x0 1 o8 h_o8 (fun ls hl => ?_) _ (lv_sub hl [2, 1, 0] rfl)
  refine lv_iload_n hx hb dL_least_39 rfl (lv_at hl 0 rfl) ?_
  cases hrun
  exact rS_i C hr hlk hQ (nbi _) rfl dL_least_40

abbrev rm_alike : Room := { frames := 4, cells := 0, slots := 0, locals := 88 }
theorem hd_alike : okD yL_alike 2 := by decide +kernel
set_option maxHeartbeats 8000000 in
set_option maxRecDepth 100000 in
theorem c_alike {x0 : Int32} {x1 : Int32} {res : Int32} (hrun : P_alike x0 x1 = some res) : Met l yL_alike wsL_alike rm_alike (va_Pc [.int x0, .int x1] PN) (vp_Si (fun x => x = res)) 0 0 (fun _ => False) := by
  refine N_in (cc := cL_alike) (maxL := 2) (ret := (some .boolean)) (by decide) rfl (Nat.le_of_ble_eq_true rfl) ?_
  intro p e s m args below meth c ls Q hQ C hr hlk hl
  have C : CallFix p m c cL_alike 2 s args wsL_alike RL := C
  have hx := C.1
  have hb := C.2.1
  have hl : lv_has ls 2 [(0, .int x0), (1, .int x1)] := hl
  unfold P_alike at hrun
  refine lv_iload_n hx hb dL_alike_0 rfl (lv_at hl 0 rfl) ?_
  obtain ⟨r1, h_r1, hrun⟩ := p_bnd hrun
  refine jSS_i (rest := []) C (c_size h_r1) gL_alike_L_size hd_size rfl ⟨rfl, rfl⟩ ⟨Nat.le_of_ble_eq_true rfl, Nat.le_of_ble_eq_true rfl⟩ rfl hl.1 rfl (Nat.le_of_ble_eq_true rfl) ⟨Nat.le_of_ble_eq_true rfl, Nat.le_of_ble_eq_true rfl⟩ dL_alike_1 ?_
  refine lv_iload_n hx hb dL_alike_4 rfl (lv_at hl 1 rfl) ?_
  obtain ⟨r2, h_r2, hrun⟩ := p_bnd hrun
  refine jSS_i (rest := [.int r1]) C (c_size h_r2) gL_alike_L_size hd_size rfl ⟨rfl, rfl⟩ ⟨Nat.le_of_ble_eq_true rfl, Nat.le_of_ble_eq_true rfl⟩ rfl hl.1 rfl (Nat.le_of_ble_eq_true rfl) ⟨Nat.le_of_ble_eq_true rfl, Nat.le_of_ble_eq_true rfl⟩ dL_alike_5 ?_
  refine lv_icmp_ne (tgt := 32) hx hb dL_alike_8 rfl (fun c3 => ?_) (fun c3 => ?_)
  · have hrun := p_neg hrun c3
    refine lv_iconst (v := 0) hx hb dL_alike_32 rfl ?_
    cases hrun
    exact rS_i C hr hlk hQ (nb01 (Or.inl rfl)) rfl dL_alike_33
  · have hrun := p_pos hrun c3
    refine lv_iload_n hx hb dL_alike_11 rfl (lv_at hl 0 rfl) ?_
    obtain ⟨r4, h_r4, hrun⟩ := p_bnd hrun
    refine jSS_i (rest := []) C (c_least h_r4) gL_alike_L_least hd_least rfl ⟨rfl, rfl⟩ ⟨Nat.le_of_ble_eq_true rfl, Nat.le_of_ble_eq_true rfl⟩ rfl hl.1 rfl (Nat.le_of_ble_eq_true rfl) ⟨Nat.le_of_ble_eq_true rfl, Nat.le_of_ble_eq_true rfl⟩ dL_alike_12 ?_
    obtain ⟨r5, h_r5, hrun⟩ := p_bnd hrun
    refine jSS_i (rest := []) C (c_rank h_r5) gL_alike_L_rank hd_rank rfl ⟨rfl, rfl⟩ ⟨Nat.le_of_ble_eq_true rfl, Nat.le_of_ble_eq_true rfl⟩ rfl hl.1 rfl (Nat.le_of_ble_eq_true rfl) ⟨Nat.le_of_ble_eq_true rfl, Nat.le_of_ble_eq_true rfl⟩ dL_alike_15 ?_
    refine lv_iload_n hx hb dL_alike_18 rfl (lv_at hl 1 rfl) ?_
    obtain ⟨r6, h_r6, hrun⟩ := p_bnd hrun
    refine jSS_i (rest := [.int r5]) C (c_least h_r6) gL_alike_L_least hd_least rfl ⟨rfl, rfl⟩ ⟨Nat.le_of_ble_eq_true rfl, Nat.le_of_ble_eq_true rfl⟩ rfl hl.1 rfl (Nat.le_of_ble_eq_true rfl) ⟨Nat.le_of_ble_eq_true rfl, Nat.le_of_ble_eq_true rfl⟩ dL_alike_19 ?_
    obtain ⟨r7, h_r7, hrun⟩ := p_bnd hrun
    refine jSS_i (rest := [.int r5]) C (c_rank h_r7) gL_alike_L_rank hd_rank rfl ⟨rfl, rfl⟩ ⟨Nat.le_of_ble_eq_true rfl, Nat.le_of_ble_eq_true rfl⟩ rfl hl.1 rfl (Nat.le_of_ble_eq_true rfl) ⟨Nat.le_of_ble_eq_true rfl, Nat.le_of_ble_eq_true rfl⟩ dL_alike_22 ?_
    refine lv_icmp_ne (tgt := 32) hx hb dL_alike_25 rfl (fun c8 => ?_) (fun c8 => ?_)
    · have hrun := p_neg hrun c8
      refine lv_iconst (v := 0) hx hb dL_alike_32 rfl ?_
      cases hrun
      exact rS_i C hr hlk hQ (nb01 (Or.inl rfl)) rfl dL_alike_33
    · have hrun := p_pos hrun c8
      refine lv_iconst (v := 1) hx hb dL_alike_28 rfl ?_
      refine lv_goto (tgt := 33) hx hb dL_alike_29 rfl ?_
      cases hrun
      exact rS_i C hr hlk hQ (nb01 (Or.inr rfl)) rfl dL_alike_33

end Z90
