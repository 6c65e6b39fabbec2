section M59
variable {l : Launch} {D : va_G} {sz : Nat}
variable {h : Nat} {ad : Nat → Nat} {cA : ClassId}
variable {v_pageLength v_roads v_wordsRead v_disc v_forms v_cycles v_newLength v_mayRun v_size v_otherSize v_tableA v_tableB v_tableC v_tableD v_a v_b v_c v_grade v_flowA v_flowB v_flowC : Int32}
variable {v_seedNow v_h : Int64}
variable {v_page v_lengths v_signs v_formA v_formB v_formC v_nextOf v_cycleOf v_firstOf v_newSigns v_at v_other : Nat → Int32}
abbrev rm5_step : Room := { frames := 2, cells := 0, slots := 0, locals := 43 }
theorem k5_step_145 : Cond.constant RX5 145 (-2000000101) ∈ wsX5_step := by decide +kernel
theorem hd5_step : okD yX5_step 2 := by decide +kernel
set_option maxHeartbeats 8000000 in
set_option maxRecDepth 100000 in
theorem c5_step {x1 : Int32} {x2 : Int32} {res : Int32} (hrun : P5_step v_forms v_formA v_formB v_formC v_nextOf v_cycleOf v_cycles v_firstOf x1 x2 = some res) : Met l yX5_step wsX5_step rm5_step (va_Pc [.ref h, .int x1, .int x2] (PS D [(cA, .int)] (WM h ad cA v_pageLength v_page v_roads v_lengths v_signs v_wordsRead v_disc v_forms v_formA v_formB v_formC v_nextOf v_cycleOf v_cycles v_firstOf v_newLength v_newSigns v_mayRun v_size v_at v_otherSize v_other v_tableA v_tableB v_tableC v_tableD v_a v_b v_c v_grade v_flowA v_flowB v_flowC v_seedNow v_h))) (vp_Si (fun x => x = res)) 0 0 (fun _ => False) := by
  refine S_in (cc := cX5_step) (maxL := 3) (ret := (some .int)) (by decide) rfl (Nat.le_of_ble_eq_true rfl) ?_
  intro p e s m args below meth c ls Q hQ C hr hlk hK hN hP hl
  have C : CallFix p m c cX5_step 3 s args wsX5_step RX5 := C
  have hx := C.1
  have hb := C.2.1
  have hl : lv_has ls 3 [(0, .ref h), (1, .int x1), (2, .int x2)] := hl
  unfold P5_step at hrun
  refine lv_aload_n hx hb dX5_step_0 rfl (lv_at hl 0 rfl) ?_
  refine lv_iload_n hx hb dX5_step_1 rfl (lv_at hl 1 rfl) ?_
  obtain ⟨r1, h_r1, hrun⟩ := p_bnd hrun
  refine jVS_i (rest := []) C (c5_isCycle h_r1) gX5_step_X5_isCycle hd5_isCycle hK hN hP rcM rfl ⟨rfl, rfl⟩ ⟨Nat.le_of_ble_eq_true rfl, Nat.le_of_ble_eq_true rfl⟩ rfl hl.1 rfl (Nat.le_of_ble_eq_true rfl) ⟨Nat.le_of_ble_eq_true rfl, Nat.le_of_ble_eq_true rfl⟩ dX5_step_2 ?_
  refine lv_if_eq (tgt := 23) hx hb dX5_step_5 rfl (fun c2 => ?_) (fun c2 => ?_)
  · have hrun := p_pos hrun c2
    refine lv_ldc (v := (-2000000101)) hx hb C.2.2.2.1 (C.2.2.2.2 _ k5_step_145) dX5_step_23 ?_
    cases hrun
    exact rS_i C hr hlk hQ (nbi _) rfl dX5_step_25
  · have hrun := p_neg hrun c2
    refine lv_iload_n hx hb dX5_step_8 rfl (lv_at hl 2 rfl) ?_
    refine lv_iconst (v := 0) hx hb dX5_step_9 rfl ?_
    refine lv_aload_n hx hb dX5_step_10 rfl (lv_at hl 0 rfl) ?_
    refine lv_iload_n hx hb dX5_step_11 rfl (lv_at hl 1 rfl) ?_
    obtain ⟨r3, h_r3, hrun⟩ := p_bnd hrun
    refine jVS_i (rest := [.int 0, .int x2]) C (c5_sizeOf h_r3) gX5_step_X5_sizeOf hd5_sizeOf hK hN hP rcM rfl ⟨rfl, rfl⟩ ⟨Nat.le_of_ble_eq_true rfl, Nat.le_of_ble_eq_true rfl⟩ rfl hl.1 rfl (Nat.le_of_ble_eq_true rfl) ⟨Nat.le_of_ble_eq_true rfl, Nat.le_of_ble_eq_true rfl⟩ dX5_step_12 ?_
    refine lv_iconst (v := 1) hx hb dX5_step_15 rfl ?_
    refine lv_isub hx hb dX5_step_16 ?_
    obtain ⟨r4, h_r4, hrun⟩ := p_bnd hrun
    refine jSS_i (rest := []) C (c5_within h_r4) gX5_step_X5_within hd5_within rfl ⟨rfl, rfl⟩ ⟨Nat.le_of_ble_eq_true rfl, Nat.le_of_ble_eq_true rfl⟩ rfl hl.1 rfl (Nat.le_of_ble_eq_true rfl) ⟨Nat.le_of_ble_eq_true rfl, Nat.le_of_ble_eq_true rfl⟩ dX5_step_17 ?_
    refine lv_if_ne (tgt := 26) hx hb dX5_step_20 rfl (fun c5 => ?_) (fun c5 => ?_)
    · have hrun := p_neg hrun c5
      refine lv_aload_n hx hb dX5_step_26 rfl (lv_at hl 0 rfl) ?_
      refine lv_aload_n hx hb dX5_step_27 rfl (lv_at hl 0 rfl) ?_
      refine lv_iload_n hx hb dX5_step_28 rfl (lv_at hl 1 rfl) ?_
      refine lv_iload_n hx hb dX5_step_29 rfl (lv_at hl 2 rfl) ?_
      obtain ⟨r6, h_r6, hrun⟩ := p_bnd hrun
      refine jVS_i (rest := [.ref h]) C (c5_formAt h_r6) gX5_step_X5_formAt hd5_formAt hK hN hP rcM rfl ⟨rfl, rfl⟩ ⟨Nat.le_of_ble_eq_true rfl, Nat.le_of_ble_eq_true rfl⟩ rfl hl.1 rfl (Nat.le_of_ble_eq_true rfl) ⟨Nat.le_of_ble_eq_true rfl, Nat.le_of_ble_eq_true rfl⟩ dX5_step_30 ?_
      obtain ⟨r7, h_r7, hrun⟩ := p_bnd hrun
      refine jVS_i (rest := []) C (c5_isLeft h_r7) gX5_step_X5_isLeft hd5_isLeft hK hN hP rcM rfl ⟨rfl, rfl⟩ ⟨Nat.le_of_ble_eq_true rfl, Nat.le_of_ble_eq_true rfl⟩ rfl hl.1 rfl (Nat.le_of_ble_eq_true rfl) ⟨Nat.le_of_ble_eq_true rfl, Nat.le_of_ble_eq_true rfl⟩ dX5_step_33 ?_
      refine lv_if_eq (tgt := 43) hx hb dX5_step_36 rfl (fun c8 => ?_) (fun c8 => ?_)
      · have hrun := p_pos hrun c8
        refine lv_iconst (v := 1) hx hb dX5_step_43 rfl ?_
        obtain ⟨r9, h_r9, hrun⟩ := p_bnd hrun
        refine jSS_i (rest := []) C (c5_codeOf h_r9) gX5_step_X5_codeOf hd5_codeOf rfl ⟨rfl, rfl⟩ ⟨Nat.le_of_ble_eq_true rfl, Nat.le_of_ble_eq_true rfl⟩ rfl hl.1 rfl (Nat.le_of_ble_eq_true rfl) ⟨Nat.le_of_ble_eq_true rfl, Nat.le_of_ble_eq_true rfl⟩ dX5_step_44 ?_
        cases hrun
        exact rS_i C hr hlk hQ (nbi _) rfl dX5_step_47
      · have hrun := p_neg hrun c8
        refine lv_iconst (v := 0) hx hb dX5_step_39 rfl ?_
        refine lv_goto (tgt := 44) hx hb dX5_step_40 rfl ?_
        obtain ⟨r10, h_r10, hrun⟩ := p_bnd hrun
        refine jSS_i (rest := []) C (c5_codeOf h_r10) gX5_step_X5_codeOf hd5_codeOf rfl ⟨rfl, rfl⟩ ⟨Nat.le_of_ble_eq_true rfl, Nat.le_of_ble_eq_true rfl⟩ rfl hl.1 rfl (Nat.le_of_ble_eq_true rfl) ⟨Nat.le_of_ble_eq_true rfl, Nat.le_of_ble_eq_true rfl⟩ dX5_step_44 ?_
        cases hrun
        exact rS_i C hr hlk hQ (nbi _) rfl dX5_step_47
    · have hrun := p_pos hrun c5
      refine lv_ldc (v := (-2000000101)) hx hb C.2.2.2.1 (C.2.2.2.2 _ k5_step_145) dX5_step_23 ?_
      cases hrun
      exact rS_i C hr hlk hQ (nbi _) rfl dX5_step_25

abbrev rm5_traceOf : Room := { frames := 1, cells := 0, slots := 0, locals := 21 }
theorem fl5_traceOf_28 : Cond.fieldLink RX5 28 "RiverWordsModel" "nextOf" "[I" ∈ wsX5_traceOf := by decide +kernel
theorem fl5_traceOf_34 : Cond.fieldLink RX5 34 "RiverWordsModel" "firstOf" "[I" ∈ wsX5_traceOf := by decide +kernel
theorem inm5_traceOf : ∀ w ∈ wsX50, w ∈ wsX5_traceOf := fun w h => by unfold wsX5_traceOf; first | exact List.mem_cons_of_mem _ (List.mem_append_right _ h) | exact List.mem_cons_of_mem _ h
theorem hd5_traceOf : okD yX5_traceOf 2 := by decide +kernel
set_option maxHeartbeats 8000000 in
set_option maxRecDepth 100000 in
theorem c5_traceOf {x1 : Int32} {x2 : Int32} {res : Int32} (hrun : P5_traceOf v_formA v_formB v_formC v_nextOf v_firstOf x1 x2 = some res) : Met l yX5_traceOf wsX5_traceOf rm5_traceOf (va_Pc [.ref h, .int x1, .int x2] (PS D [(cA, .int)] (WM h ad cA v_pageLength v_page v_roads v_lengths v_signs v_wordsRead v_disc v_forms v_formA v_formB v_formC v_nextOf v_cycleOf v_cycles v_firstOf v_newLength v_newSigns v_mayRun v_size v_at v_otherSize v_other v_tableA v_tableB v_tableC v_tableD v_a v_b v_c v_grade v_flowA v_flowB v_flowC v_seedNow v_h))) (vp_Si (fun x => x = res)) 0 0 (fun _ => False) := by
  refine S_in (cc := cX5_traceOf) (maxL := 8) (ret := (some .int)) (by decide) rfl (Nat.le_of_ble_eq_true rfl) ?_
  intro p e s m args below meth c ls Q hQ C hr hlk hK hN hP hl
  have C : CallFix p m c cX5_traceOf 8 s args wsX5_traceOf RX5 := C
  have hx := C.1
  have hb := C.2.1
  have hl : lv_has ls 8 [(0, .ref h), (1, .int x1), (2, .int x2)] := hl
  have loop_19 : ∀ (n : Nat) (x3 : Int32) (x4 : Int32) (x5 : Int32) (x6 : Int32) (x7 : Int32) (out : Int32 × Int32), P5_traceOf_19 v_formA v_formB v_formC v_nextOf v_firstOf x1 x2 n x3 x4 x5 x6 x7 = some out → (∀ (ls : Array Slot), lv_has ls 8 [(2, .int x2), (3, .int out.1), (6, .int out.2)] → W p l e rm5_traceOf s m args below meth c s.heap [] 0 0 Q (F0 m 84 ls [])) → ∀ (ls : Array Slot), lv_has ls 8 [(0, .ref h), (1, .int x1), (2, .int x2), (3, .int x3), (4, .int x4), (5, .int x5), (6, .int x6), (7, .int x7)] → W p l e rm5_traceOf s m args below meth c s.heap [] 0 0 Q (F0 m 19 ls []) := by
    intro n
    induction n with
    | zero =>
      intro x3 x4 x5 x6 x7 out hrun K ls hl
      cases hrun
    | succ n ih =>
      intro x3 x4 x5 x6 x7 out hrun K ls hl
      rw [P5_traceOf_19] at hrun
      refine lv_aload_n hx hb dX5_traceOf_19 rfl (lv_at hl 0 rfl) ?_
      refine lv_iload hx hb dX5_traceOf_20 (lv_at hl 7 rfl) ?_
      obtain ⟨r2, h_r2, hrun⟩ := p_bnd hrun
      refine jVS_i (rest := []) C (c5_isLeft h_r2) gX5_traceOf_X5_isLeft hd5_isLeft hK hN hP rcM rfl ⟨rfl, rfl⟩ ⟨Nat.le_of_ble_eq_true rfl, Nat.le_of_ble_eq_true rfl⟩ rfl hl.1 rfl (Nat.le_of_ble_eq_true rfl) ⟨Nat.le_of_ble_eq_true rfl, Nat.le_of_ble_eq_true rfl⟩ dX5_traceOf_22 ?_
      refine lv_if_eq (tgt := 47) hx hb dX5_traceOf_25 rfl (fun c3 => ?_) (fun c3 => ?_)
      · have hrun := p_pos hrun c3
        refine lv_iload_n hx hb dX5_traceOf_47 rfl (lv_at hl 3 rfl) ?_
        refine lv_iload hx hb dX5_traceOf_48 (lv_at hl 4 rfl) ?_
        refine lv_iadd hx hb dX5_traceOf_50 ?_
        refine lv_iload_n hx hb dX5_traceOf_51 rfl (lv_at hl 2 rfl) ?_
        obtain ⟨z4, hrun⟩ := p_chk hrun
        refine j_irem hx hb dX5_traceOf_52 z4 ?_
        refine lv_istore (lv' := [(4, .int (jrem (x3 + x4) x2)), (0, .ref h), (1, .int x1), (2, .int x2), (3, .int x3), (5, .int x5), (6, .int x6), (7, .int x7)]) hx hb dX5_traceOf_53 hl (by decide) rfl (fun ls hl => ?_)
        refine lv_iload hx hb dX5_traceOf_55 (lv_at hl 5 rfl) ?_
        refine lv_iload hx hb dX5_traceOf_57 (lv_at hl 6 rfl) ?_
        refine lv_iadd hx hb dX5_traceOf_59 ?_
        refine lv_iload_n hx hb dX5_traceOf_60 rfl (lv_at hl 3 rfl) ?_
        obtain ⟨z5, hrun⟩ := p_chk hrun
        refine j_irem hx hb dX5_traceOf_61 z5 ?_
        refine lv_istore (lv' := [(6, .int (jrem (x5 + x6) x2)), (4, .int (jrem (x3 + x4) x2)), (0, .ref h), (1, .int x1), (2, .int x2), (3, .int x3), (5, .int x5), (7, .int x7)]) hx hb dX5_traceOf_62 hl (by decide) rfl (fun ls hl => ?_)
        refine lv_aload_n hx hb dX5_traceOf_64 rfl (lv_at hl 2 rfl) ?_
        refine gM_nextOf C inm5_traceOf hK hP fl5_traceOf_28 dX5_traceOf_65 ?_
        refine lv_iload hx hb dX5_traceOf_68 (lv_at hl 7 rfl) ?_
        obtain ⟨b6, hrun⟩ := p_chk hrun
        refine ldM_nextOf C hK hP b6 dX5_traceOf_70 ?_
        refine lv_istore (lv' := [(7, .int (v_nextOf (Int32.toNatClampNeg x7))), (6, .int (jrem (x5 + x6) x2)), (4, .int (jrem (x3 + x4) x2)), (0, .ref h), (1, .int x1), (2, .int x2), (3, .int x3), (5, .int x5)]) hx hb dX5_traceOf_71 hl (by decide) rfl (fun ls hl => ?_)
        refine lv_iload hx hb dX5_traceOf_73 (lv_at hl 0 rfl) ?_
        refine lv_aload_n hx hb dX5_traceOf_75 rfl (lv_at hl 3 rfl) ?_
        refine gM_firstOf C inm5_traceOf hK hP fl5_traceOf_34 dX5_traceOf_76 ?_
        refine lv_iload_n hx hb dX5_traceOf_79 rfl (lv_at hl 4 rfl) ?_
        obtain ⟨b7, hrun⟩ := p_chk hrun
        refine ldM_firstOf C hK hP b7 dX5_traceOf_80 ?_
        refine lv_icmp_ne (tgt := 19) hx hb dX5_traceOf_81 rfl (fun c8 => ?_) (fun c8 => ?_)
        · have hrun := p_neg hrun c8
          exact ih x3 (jrem (x3 + x4) x2) x5 (jrem (x5 + x6) x2) (v_nextOf (Int32.toNatClampNeg x7)) out hrun K _ (lv_sub hl [3, 4, 5, 6, 2, 7, 1, 0] rfl)
        · have hrun := p_pos hrun c8
          cases hrun
          exact K _ (lv_sub hl [5, 6, 1] rfl)
      · have hrun := p_neg hrun c3
        refine lv_iload_n hx hb dX5_traceOf_28 rfl (lv_at hl 3 rfl) ?_
        refine lv_iload hx hb dX5_traceOf_29 (lv_at hl 4 rfl) ?_
        refine lv_iadd hx hb dX5_traceOf_31 ?_
        refine lv_iload_n hx hb dX5_traceOf_32 rfl (lv_at hl 2 rfl) ?_
        obtain ⟨z9, hrun⟩ := p_chk hrun
        refine j_irem hx hb dX5_traceOf_33 z9 ?_
        refine lv_istore_n (lv' := [(3, .int (jrem (x3 + x4) x2)), (0, .ref h), (1, .int x1), (2, .int x2), (4, .int x4), (5, .int x5), (6, .int x6), (7, .int x7)]) hx hb dX5_traceOf_34 rfl hl (by decide) rfl (fun ls hl => ?_)
        refine lv_iload hx hb dX5_traceOf_35 (lv_at hl 5 rfl) ?_
        refine lv_iload hx hb dX5_traceOf_37 (lv_at hl 6 rfl) ?_
        refine lv_iadd hx hb dX5_traceOf_39 ?_
        refine lv_iload_n hx hb dX5_traceOf_40 rfl (lv_at hl 3 rfl) ?_
        obtain ⟨z10, hrun⟩ := p_chk hrun
        refine j_irem hx hb dX5_traceOf_41 z10 ?_
        refine lv_istore (lv' := [(5, .int (jrem (x5 + x6) x2)), (3, .int (jrem (x3 + x4) x2)), (0, .ref h), (1, .int x1), (2, .int x2), (4, .int x4), (6, .int x6), (7, .int x7)]) hx hb dX5_traceOf_42 hl (by decide) rfl (fun ls hl => ?_)
        refine lv_goto (tgt := 64) hx hb dX5_traceOf_44 rfl ?_
        refine lv_aload_n hx hb dX5_traceOf_64 rfl (lv_at hl 2 rfl) ?_
        refine gM_nextOf C inm5_traceOf hK hP fl5_traceOf_28 dX5_traceOf_65 ?_
        refine lv_iload hx hb dX5_traceOf_68 (lv_at hl 7 rfl) ?_
        obtain ⟨b11, hrun⟩ := p_chk hrun
        refine ldM_nextOf C hK hP b11 dX5_traceOf_70 ?_
        refine lv_istore (lv' := [(7, .int (v_nextOf (Int32.toNatClampNeg x7))), (5, .int (jrem (x5 + x6) x2)), (3, .int (jrem (x3 + x4) x2)), (0, .ref h), (1, .int x1), (2, .int x2), (4, .int x4), (6, .int x6)]) hx hb dX5_traceOf_71 hl (by decide) rfl (fun ls hl => ?_)
        refine lv_iload hx hb dX5_traceOf_73 (lv_at hl 0 rfl) ?_
        refine lv_aload_n hx hb dX5_traceOf_75 rfl (lv_at hl 3 rfl) ?_
        refine gM_firstOf C inm5_traceOf hK hP fl5_traceOf_34 dX5_traceOf_76 ?_
        refine lv_iload_n hx hb dX5_traceOf_79 rfl (lv_at hl 4 rfl) ?_
        obtain ⟨b12, hrun⟩ := p_chk hrun
        refine ldM_firstOf C hK hP b12 dX5_traceOf_80 ?_
        refine lv_icmp_ne (tgt := 19) hx hb dX5_traceOf_81 rfl (fun c13 => ?_) (fun c13 => ?_)
        · have hrun := p_neg hrun c13
          exact ih (jrem (x3 + x4) x2) x4 (jrem (x5 + x6) x2) x6 (v_nextOf (Int32.toNatClampNeg x7)) out hrun K _ (lv_sub hl [3, 4, 5, 2, 6, 1, 7, 0] rfl)
        · have hrun := p_pos hrun c13
          cases hrun
          exact K _ (lv_sub hl [5, 2, 7] rfl)
  unfold P5_traceOf at hrun
  refine lv_iconst (v := 1) hx hb dX5_traceOf_0 rfl ?_
  refine lv_istore_n (lv' := [(3, .int 1), (0, .ref h), (1, .int x1), (2, .int x2)]) hx hb dX5_traceOf_1 rfl hl (by decide) rfl (fun ls hl => ?_)
  refine lv_iconst (v := 0) hx hb dX5_traceOf_2 rfl ?_
  refine lv_istore (lv' := [(4, .int 0), (3, .int 1), (0, .ref h), (1, .int x1), (2, .int x2)]) hx hb dX5_traceOf_3 hl (by decide) rfl (fun ls hl => ?_)
  refine lv_iconst (v := 0) hx hb dX5_traceOf_5 rfl ?_
  refine lv_istore (lv' := [(5, .int 0), (4, .int 0), (3, .int 1), (0, .ref h), (1, .int x1), (2, .int x2)]) hx hb dX5_traceOf_6 hl (by decide) rfl (fun ls hl => ?_)
  refine lv_iconst (v := 1) hx hb dX5_traceOf_8 rfl ?_
  refine lv_istore (lv' := [(6, .int 1), (5, .int 0), (4, .int 0), (3, .int 1), (0, .ref h), (1, .int x1), (2, .int x2)]) hx hb dX5_traceOf_9 hl (by decide) rfl (fun ls hl => ?_)
  refine lv_aload_n hx hb dX5_traceOf_11 rfl (lv_at hl 4 rfl) ?_
  refine gM_firstOf C inm5_traceOf hK hP fl5_traceOf_34 dX5_traceOf_12 ?_
  refine lv_iload_n hx hb dX5_traceOf_15 rfl (lv_at hl 5 rfl) ?_
  obtain ⟨b1, hrun⟩ := p_chk hrun
  refine ldM_firstOf C hK hP b1 dX5_traceOf_16 ?_
  refine lv_istore (lv' := [(7, .int (v_firstOf (Int32.toNatClampNeg x1))), (6, .int 1), (5, .int 0), (4, .int 0), (3, .int 1), (0, .ref h), (1, .int x1), (2, .int x2)]) hx hb dX5_traceOf_17 hl (by decide) rfl (fun ls hl => ?_)
  obtain ⟨o14, h_o14, hrun⟩ := p_bnd hrun
  refine loop_19 FU 1 0 0 1 (v_firstOf (Int32.toNatClampNeg x1)) o14 h_o14 (fun ls hl => ?_) _ (lv_sub hl [5, 6, 7, 4, 3, 2, 1, 0] rfl)
  refine lv_iload_n hx hb dX5_traceOf_84 rfl (lv_at hl 1 rfl) ?_
  refine lv_iload hx hb dX5_traceOf_85 (lv_at hl 2 rfl) ?_
  refine lv_iadd hx hb dX5_traceOf_87 ?_
  refine lv_iload_n hx hb dX5_traceOf_88 rfl (lv_at hl 0 rfl) ?_
  obtain ⟨z15, hrun⟩ := p_chk hrun
  refine j_irem hx hb dX5_traceOf_89 z15 ?_
  cases hrun
  exact rS_i C hr hlk hQ (nbi _) rfl dX5_traceOf_90

abbrev rm5_trace : Room := { frames := 2, cells := 0, slots := 0, locals := 48 }
theorem k5_trace_54 : Cond.constant RX5 54 (-2000000102) ∈ wsX5_trace := by decide +kernel
theorem k5_trace_145 : Cond.constant RX5 145 (-2000000101) ∈ wsX5_trace := by decide +kernel
theorem hd5_trace : okD yX5_trace 2 := by decide +kernel
set_option maxHeartbeats 8000000 in
set_option maxRecDepth 100000 in
theorem c5_trace {x1 : Int32} {x2 : Int32} {res : Int32} (hrun : P5_trace v_formA v_formB v_formC v_nextOf v_cycles v_firstOf x1 x2 = some res) : Met l yX5_trace wsX5_trace rm5_trace (va_Pc [.ref h, .int x1, .int x2] (PS D [(cA, .int)] (WM h ad cA v_pageLength v_page v_roads v_lengths v_signs v_wordsRead v_disc v_forms v_formA v_formB v_formC v_nextOf v_cycleOf v_cycles v_firstOf v_newLength v_newSigns v_mayRun v_size v_at v_otherSize v_other v_tableA v_tableB v_tableC v_tableD v_a v_b v_c v_grade v_flowA v_flowB v_flowC v_seedNow v_h))) (vp_Si (fun x => x = res)) 0 0 (fun _ => False) := by
  refine S_in (cc := cX5_trace) (maxL := 3) (ret := (some .int)) (by decide) rfl (Nat.le_of_ble_eq_true rfl) ?_
  intro p e s m args below meth c ls Q hQ C hr hlk hK hN hP hl
  have C : CallFix p m c cX5_trace 3 s args wsX5_trace RX5 := C
  have hx := C.1
  have hb := C.2.1
  have hl : lv_has ls 3 [(0, .ref h), (1, .int x1), (2, .int x2)] := hl
  unfold P5_trace at hrun
  refine lv_aload_n hx hb dX5_trace_0 rfl (lv_at hl 0 rfl) ?_
  refine lv_iload_n hx hb dX5_trace_1 rfl (lv_at hl 1 rfl) ?_
  obtain ⟨r1, h_r1, hrun⟩ := p_bnd hrun
  refine jVS_i (rest := []) C (c5_isCycle h_r1) gX5_trace_X5_isCycle hd5_isCycle hK hN hP rcM rfl ⟨rfl, rfl⟩ ⟨Nat.le_of_ble_eq_true rfl, Nat.le_of_ble_eq_true rfl⟩ rfl hl.1 rfl (Nat.le_of_ble_eq_true rfl) ⟨Nat.le_of_ble_eq_true rfl, Nat.le_of_ble_eq_true rfl⟩ dX5_trace_2 ?_
  refine lv_if_ne (tgt := 13) hx hb dX5_trace_5 rfl (fun c2 => ?_) (fun c2 => ?_)
  · have hrun := p_neg hrun c2
    refine lv_iload_n hx hb dX5_trace_13 rfl (lv_at hl 2 rfl) ?_
    refine lv_iconst (v := 2) hx hb dX5_trace_14 rfl ?_
    refine lv_sipush (v := 1000) hx hb dX5_trace_15 rfl ?_
    obtain ⟨r3, h_r3, hrun⟩ := p_bnd hrun
    refine jSS_i (rest := []) C (c5_within h_r3) gX5_trace_X5_within hd5_within rfl ⟨rfl, rfl⟩ ⟨Nat.le_of_ble_eq_true rfl, Nat.le_of_ble_eq_true rfl⟩ rfl hl.1 rfl (Nat.le_of_ble_eq_true rfl) ⟨Nat.le_of_ble_eq_true rfl, Nat.le_of_ble_eq_true rfl⟩ dX5_trace_18 ?_
    refine lv_if_eq (tgt := 33) hx hb dX5_trace_21 rfl (fun c4 => ?_) (fun c4 => ?_)
    · have hrun := p_pos hrun c4
      refine lv_ldc (v := (-2000000102)) hx hb C.2.2.2.1 (C.2.2.2.2 _ k5_trace_54) dX5_trace_33 ?_
      cases hrun
      exact rS_i C hr hlk hQ (nbi _) rfl dX5_trace_35
    · have hrun := p_neg hrun c4
      refine lv_aload_n hx hb dX5_trace_24 rfl (lv_at hl 0 rfl) ?_
      refine lv_iload_n hx hb dX5_trace_25 rfl (lv_at hl 1 rfl) ?_
      refine lv_iload_n hx hb dX5_trace_26 rfl (lv_at hl 2 rfl) ?_
      obtain ⟨r5, h_r5, hrun⟩ := p_bnd hrun
      refine jVS_i (rest := []) C (c5_traceOf h_r5) gX5_trace_X5_traceOf hd5_traceOf hK hN hP rcM rfl ⟨rfl, rfl⟩ ⟨Nat.le_of_ble_eq_true rfl, Nat.le_of_ble_eq_true rfl⟩ rfl hl.1 rfl (Nat.le_of_ble_eq_true rfl) ⟨Nat.le_of_ble_eq_true rfl, Nat.le_of_ble_eq_true rfl⟩ dX5_trace_27 ?_
      refine lv_goto (tgt := 35) hx hb dX5_trace_30 rfl ?_
      cases hrun
      exact rS_i C hr hlk hQ (nbi _) rfl dX5_trace_35
  · have hrun := p_pos hrun c2
    refine lv_ldc (v := (-2000000101)) hx hb C.2.2.2.1 (C.2.2.2.2 _ k5_trace_145) dX5_trace_8 ?_
    refine lv_goto (tgt := 35) hx hb dX5_trace_10 rfl ?_
    cases hrun
    exact rS_i C hr hlk hQ (nbi _) rfl dX5_trace_35

end M59
