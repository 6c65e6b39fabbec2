section M53
variable {l : Launch} {D : va_G} {sz : Nat}
variable {h : Nat} {ad : Nat → Nat} {cA : ClassId}
variable {v_pageLength v_roads v_wordsRead v_disc v_forms v_cycles v_newLength v_mayRun v_size v_otherSize v_tableA v_tableB v_tableC v_tableD v_a v_b v_c v_grade v_flowA v_flowB v_flowC : Int32}
variable {v_seedNow v_h : Int64}
variable {v_page v_lengths v_signs v_formA v_formB v_formC v_nextOf v_cycleOf v_firstOf v_newSigns v_at v_other : Nat → Int32}
abbrev rm5_sign : Room := { frames := 2, cells := 0, slots := 0, locals := 43 }
theorem fl5_sign_13 : Cond.fieldLink RX5 13 "RiverWordsModel" "lengths" "[I" ∈ wsX5_sign := by decide +kernel
theorem fl5_sign_16 : Cond.fieldLink RX5 16 "RiverWordsModel" "signs" "[I" ∈ wsX5_sign := by decide +kernel
theorem k5_sign_145 : Cond.constant RX5 145 (-2000000101) ∈ wsX5_sign := by decide +kernel
theorem inm5_sign : ∀ w ∈ wsX50, w ∈ wsX5_sign := fun w h => by unfold wsX5_sign; first | exact List.mem_cons_of_mem _ (List.mem_append_right _ h) | exact List.mem_cons_of_mem _ h
theorem hd5_sign : okD yX5_sign 2 := by decide +kernel
set_option maxHeartbeats 8000000 in
set_option maxRecDepth 100000 in
theorem c5_sign {x1 : Int32} {x2 : Int32} {res : Int32} (hrun : P5_sign v_roads v_lengths v_signs x1 x2 = some res) : Met l yX5_sign wsX5_sign rm5_sign (va_Pc [.ref h, .int x1, .int x2] (PS D [(cA, .int)] (WM h ad cA v_pageLength v_page v_roads v_lengths v_signs v_wordsRead v_disc v_forms v_formA v_formB v_formC v_nextOf v_cycleOf v_cycles v_firstOf v_newLength v_newSigns v_mayRun v_size v_at v_otherSize v_other v_tableA v_tableB v_tableC v_tableD v_a v_b v_c v_grade v_flowA v_flowB v_flowC v_seedNow v_h))) (vp_Si (fun x => x = res)) 0 0 (fun _ => False) := by
  refine S_in (cc := cX5_sign) (maxL := 3) (ret := (some .int)) (by decide) rfl (Nat.le_of_ble_eq_true rfl) ?_
  intro p e s m args below meth c ls Q hQ C hr hlk hK hN hP hl
  have C : CallFix p m c cX5_sign 3 s args wsX5_sign RX5 := C
  have hx := C.1
  have hb := C.2.1
  have hl : lv_has ls 3 [(0, .ref h), (1, .int x1), (2, .int x2)] := hl
  unfold P5_sign at hrun
  refine lv_aload_n hx hb dX5_sign_0 rfl (lv_at hl 0 rfl) ?_
  refine lv_iload_n hx hb dX5_sign_1 rfl (lv_at hl 1 rfl) ?_
  obtain ⟨r1, h_r1, hrun⟩ := p_bnd hrun
  refine jVS_i (rest := []) C (c5_isRoad h_r1) gX5_sign_X5_isRoad hd5_isRoad hK hN hP rcM rfl ⟨rfl, rfl⟩ ⟨Nat.le_of_ble_eq_true rfl, Nat.le_of_ble_eq_true rfl⟩ rfl hl.1 rfl (Nat.le_of_ble_eq_true rfl) ⟨Nat.le_of_ble_eq_true rfl, Nat.le_of_ble_eq_true rfl⟩ dX5_sign_2 ?_
  refine lv_if_eq (tgt := 41) hx hb dX5_sign_5 rfl (fun c2 => ?_) (fun c2 => ?_)
  · have hrun := p_pos hrun c2
    refine lv_ldc (v := (-2000000101)) hx hb C.2.2.2.1 (C.2.2.2.2 _ k5_sign_145) dX5_sign_41 ?_
    cases hrun
    exact rS_i C hr hlk hQ (nbi _) rfl dX5_sign_43
  · have hrun := p_neg hrun c2
    refine lv_iload_n hx hb dX5_sign_8 rfl (lv_at hl 2 rfl) ?_
    refine lv_iconst (v := 0) hx hb dX5_sign_9 rfl ?_
    refine lv_aload_n hx hb dX5_sign_10 rfl (lv_at hl 0 rfl) ?_
    refine gM_lengths C inm5_sign hK hP fl5_sign_13 dX5_sign_11 ?_
    refine lv_iload_n hx hb dX5_sign_14 rfl (lv_at hl 1 rfl) ?_
    obtain ⟨b3, hrun⟩ := p_chk hrun
    refine ldM_lengths C hK hP b3 dX5_sign_15 ?_
    refine lv_iconst (v := 1) hx hb dX5_sign_16 rfl ?_
    refine lv_isub hx hb dX5_sign_17 ?_
    obtain ⟨r4, h_r4, hrun⟩ := p_bnd hrun
    refine jSS_i (rest := []) C (c5_within h_r4) gX5_sign_X5_within hd5_within rfl ⟨rfl, rfl⟩ ⟨Nat.le_of_ble_eq_true rfl, Nat.le_of_ble_eq_true rfl⟩ rfl hl.1 rfl (Nat.le_of_ble_eq_true rfl) ⟨Nat.le_of_ble_eq_true rfl, Nat.le_of_ble_eq_true rfl⟩ dX5_sign_18 ?_
    refine lv_if_eq (tgt := 41) hx hb dX5_sign_21 rfl (fun c5 => ?_) (fun c5 => ?_)
    · have hrun := p_pos hrun c5
      refine lv_ldc (v := (-2000000101)) hx hb C.2.2.2.1 (C.2.2.2.2 _ k5_sign_145) dX5_sign_41 ?_
      cases hrun
      exact rS_i C hr hlk hQ (nbi _) rfl dX5_sign_43
    · have hrun := p_neg hrun c5
      refine lv_aload_n hx hb dX5_sign_24 rfl (lv_at hl 0 rfl) ?_
      refine gM_signs C inm5_sign hK hP fl5_sign_16 dX5_sign_25 ?_
      refine lv_bipush (v := 20) hx hb dX5_sign_28 rfl ?_
      refine lv_iload_n hx hb dX5_sign_30 rfl (lv_at hl 1 rfl) ?_
      refine lv_imul hx hb dX5_sign_31 ?_
      refine lv_iload_n hx hb dX5_sign_32 rfl (lv_at hl 2 rfl) ?_
      refine lv_iadd hx hb dX5_sign_33 ?_
      obtain ⟨b6, hrun⟩ := p_chk hrun
      refine ldM_signs C hK hP b6 dX5_sign_34 ?_
      obtain ⟨r7, h_r7, hrun⟩ := p_bnd hrun
      refine jSS_i (rest := []) C (c5_codeOf h_r7) gX5_sign_X5_codeOf hd5_codeOf rfl ⟨rfl, rfl⟩ ⟨Nat.le_of_ble_eq_true rfl, Nat.le_of_ble_eq_true rfl⟩ rfl hl.1 rfl (Nat.le_of_ble_eq_true rfl) ⟨Nat.le_of_ble_eq_true rfl, Nat.le_of_ble_eq_true rfl⟩ dX5_sign_35 ?_
      refine lv_goto (tgt := 43) hx hb dX5_sign_38 rfl ?_
      cases hrun
      exact rS_i C hr hlk hQ (nbi _) rfl dX5_sign_43

abbrev rm5_tableNow : Room := { frames := 1, cells := 0, slots := 0, locals := 22 }
theorem fl5_tableNow_114 : Cond.fieldLink RX5 114 "RiverWordsModel" "tableA" "I" ∈ wsX5_tableNow := by decide +kernel
theorem fl5_tableNow_117 : Cond.fieldLink RX5 117 "RiverWordsModel" "tableB" "I" ∈ wsX5_tableNow := by decide +kernel
theorem fl5_tableNow_120 : Cond.fieldLink RX5 120 "RiverWordsModel" "tableC" "I" ∈ wsX5_tableNow := by decide +kernel
theorem fl5_tableNow_123 : Cond.fieldLink RX5 123 "RiverWordsModel" "tableD" "I" ∈ wsX5_tableNow := by decide +kernel
theorem inm5_tableNow : ∀ w ∈ wsX50, w ∈ wsX5_tableNow := fun w h => by unfold wsX5_tableNow; first | exact List.mem_cons_of_mem _ (List.mem_append_right _ h) | exact List.mem_cons_of_mem _ h
theorem hd5_tableNow : okD yX5_tableNow 2 := by decide +kernel
set_option maxHeartbeats 8000000 in
set_option maxRecDepth 100000 in
theorem c5_tableNow {x1 : Int32} {x2 : Int32} {res : Int32 × Int32 × (Nat → Int32) × Int32 × Int32 × Int32 × Int32} (hrun : P5_tableNow v_lengths v_signs v_at x1 x2 = some res) : Met l yX5_tableNow wsX5_tableNow rm5_tableNow (va_Pc [.ref h, .int x1, .int x2] (PE D [(cA, .int)] sz (WM0 h ad cA) (WM h ad cA v_pageLength v_page v_roads v_lengths v_signs v_wordsRead v_disc v_forms v_formA v_formB v_formC v_nextOf v_cycleOf v_cycles v_firstOf v_newLength v_newSigns v_mayRun v_size v_at v_otherSize v_other v_tableA v_tableB v_tableC v_tableD v_a v_b v_c v_grade v_flowA v_flowB v_flowC v_seedNow v_h))) (va_Qi (fun (x : Int32) (_ : Unit) => x = res.1) (fun _ t => va_P D vwCl (WM h ad cA v_pageLength v_page v_roads v_lengths v_signs v_wordsRead v_disc v_forms v_formA v_formB v_formC v_nextOf v_cycleOf v_cycles v_firstOf v_newLength v_newSigns v_mayRun res.2.1 res.2.2.1 v_otherSize v_other res.2.2.2.1 res.2.2.2.2.1 res.2.2.2.2.2.1 res.2.2.2.2.2.2 v_a v_b v_c v_grade v_flowA v_flowB v_flowC v_seedNow v_h) t.heap) (va_A (WM0 h ad cA) sz)) 0 0 (va_A (WM0 h ad cA) sz) := by
  refine E_in (cc := cX5_tableNow) (maxL := 3) (ret := (some .int)) (by decide) rfl (Nat.le_of_ble_eq_true rfl) ?_
  intro p e s m args below meth c ls Q hQ C hr hlk hK hN hD hA I hl
  have C : CallFix p m c cX5_tableNow 3 s args wsX5_tableNow RX5 := C
  have hx := C.1
  have hb := C.2.1
  have hl : lv_has ls 3 [(0, .ref h), (1, .int x1), (2, .int x2)] := hl
  unfold P5_tableNow at hrun
  refine lv_aload_n hx hb dX5_tableNow_0 rfl (lv_at hl 0 rfl) ?_
  refine lv_iload_n hx hb dX5_tableNow_1 rfl (lv_at hl 1 rfl) ?_
  obtain ⟨r1, h_r1, hrun⟩ := p_bnd hrun
  refine jVE_v (rest := []) C (c5_look h_r1) gX5_tableNow_X5_look hd5_look hK hN hD hA I rcM rfl ⟨rfl, rfl⟩ ⟨Nat.le_of_ble_eq_true rfl, Nat.le_of_ble_eq_true rfl⟩ rfl hl.1 rfl (Nat.le_of_ble_eq_true rfl) ⟨Nat.le_of_ble_eq_true rfl, Nat.le_of_ble_eq_true rfl⟩ dX5_tableNow_2 (fun H locs I => ?_)
  refine lv_aload_n hx hb dX5_tableNow_5 rfl (lv_at hl 0 rfl) ?_
  obtain ⟨r2, h_r2, hrun⟩ := p_bnd hrun
  refine jVE_v (rest := []) C (c5_layTable h_r2) gX5_tableNow_X5_layTable hd5_layTable hK hN hD hA I rcM rfl ⟨rfl, rfl⟩ ⟨Nat.le_of_ble_eq_true rfl, Nat.le_of_ble_eq_true rfl⟩ rfl hl.1 rfl (Nat.le_of_ble_eq_true rfl) ⟨Nat.le_of_ble_eq_true rfl, Nat.le_of_ble_eq_true rfl⟩ dX5_tableNow_6 (fun H locs I => ?_)
  refine lv_iload_n hx hb dX5_tableNow_9 rfl (lv_at hl 2 rfl) ?_
  refine lv_if_ne (tgt := 20) hx hb dX5_tableNow_10 rfl (fun c3 => ?_) (fun c3 => ?_)
  · have hrun := p_neg hrun c3
    refine lv_iload_n hx hb dX5_tableNow_20 rfl (lv_at hl 2 rfl) ?_
    refine lv_iconst (v := 1) hx hb dX5_tableNow_21 rfl ?_
    refine lv_icmp_ne (tgt := 32) hx hb dX5_tableNow_22 rfl (fun c4 => ?_) (fun c4 => ?_)
    · have hrun := p_neg hrun c4
      refine lv_iload_n hx hb dX5_tableNow_32 rfl (lv_at hl 2 rfl) ?_
      refine lv_iconst (v := 2) hx hb dX5_tableNow_33 rfl ?_
      refine lv_icmp_ne (tgt := 44) hx hb dX5_tableNow_34 rfl (fun c5 => ?_) (fun c5 => ?_)
      · have hrun := p_neg hrun c5
        refine lv_aload_n hx hb dX5_tableNow_44 rfl (lv_at hl 0 rfl) ?_
        refine gM_tableD C inm5_tableNow hK I.1 fl5_tableNow_123 dX5_tableNow_45 ?_
        cases hrun
        exact rE_i C hr hlk hQ I (nbi _) rfl dX5_tableNow_48
      · have hrun := p_pos hrun c5
        refine lv_aload_n hx hb dX5_tableNow_37 rfl (lv_at hl 0 rfl) ?_
        refine gM_tableC C inm5_tableNow hK I.1 fl5_tableNow_120 dX5_tableNow_38 ?_
        refine lv_goto (tgt := 48) hx hb dX5_tableNow_41 rfl ?_
        cases hrun
        exact rE_i C hr hlk hQ I (nbi _) rfl dX5_tableNow_48
    · have hrun := p_pos hrun c4
      refine lv_aload_n hx hb dX5_tableNow_25 rfl (lv_at hl 0 rfl) ?_
      refine gM_tableB C inm5_tableNow hK I.1 fl5_tableNow_117 dX5_tableNow_26 ?_
      refine lv_goto (tgt := 48) hx hb dX5_tableNow_29 rfl ?_
      cases hrun
      exact rE_i C hr hlk hQ I (nbi _) rfl dX5_tableNow_48
  · have hrun := p_pos hrun c3
    refine lv_aload_n hx hb dX5_tableNow_13 rfl (lv_at hl 0 rfl) ?_
    refine gM_tableA C inm5_tableNow hK I.1 fl5_tableNow_114 dX5_tableNow_14 ?_
    refine lv_goto (tgt := 48) hx hb dX5_tableNow_17 rfl ?_
    cases hrun
    exact rE_i C hr hlk hQ I (nbi _) rfl dX5_tableNow_48

abbrev rm5_table : Room := { frames := 2, cells := 0, slots := 0, locals := 44 }
theorem k5_table_54 : Cond.constant RX5 54 (-2000000102) ∈ wsX5_table := by decide +kernel
theorem k5_table_145 : Cond.constant RX5 145 (-2000000101) ∈ wsX5_table := by decide +kernel
theorem hd5_table : okD yX5_table 2 := by decide +kernel
set_option maxHeartbeats 8000000 in
set_option maxRecDepth 100000 in
theorem c5_table {x1 : Int32} {x2 : Int32} {res : Int32 × Int32 × (Nat → Int32) × Int32 × Int32 × Int32 × Int32} (hrun : P5_table v_roads v_lengths v_signs v_size v_at v_tableA v_tableB v_tableC v_tableD x1 x2 = some res) : Met l yX5_table wsX5_table rm5_table (va_Pc [.ref h, .int x1, .int x2] (PE D [(cA, .int)] sz (WM0 h ad cA) (WM h ad cA v_pageLength v_page v_roads v_lengths v_signs v_wordsRead v_disc v_forms v_formA v_formB v_formC v_nextOf v_cycleOf v_cycles v_firstOf v_newLength v_newSigns v_mayRun v_size v_at v_otherSize v_other v_tableA v_tableB v_tableC v_tableD v_a v_b v_c v_grade v_flowA v_flowB v_flowC v_seedNow v_h))) (va_Qi (fun (x : Int32) (_ : Unit) => x = res.1) (fun _ t => va_P D vwCl (WM h ad cA v_pageLength v_page v_roads v_lengths v_signs v_wordsRead v_disc v_forms v_formA v_formB v_formC v_nextOf v_cycleOf v_cycles v_firstOf v_newLength v_newSigns v_mayRun res.2.1 res.2.2.1 v_otherSize v_other res.2.2.2.1 res.2.2.2.2.1 res.2.2.2.2.2.1 res.2.2.2.2.2.2 v_a v_b v_c v_grade v_flowA v_flowB v_flowC v_seedNow v_h) t.heap) (va_A (WM0 h ad cA) sz)) 0 0 (va_A (WM0 h ad cA) sz) := by
  refine E_in (cc := cX5_table) (maxL := 3) (ret := (some .int)) (by decide) rfl (Nat.le_of_ble_eq_true rfl) ?_
  intro p e s m args below meth c ls Q hQ C hr hlk hK hN hD hA I hl
  have C : CallFix p m c cX5_table 3 s args wsX5_table RX5 := C
  have hx := C.1
  have hb := C.2.1
  have hl : lv_has ls 3 [(0, .ref h), (1, .int x1), (2, .int x2)] := hl
  unfold P5_table at hrun
  refine lv_aload_n hx hb dX5_table_0 rfl (lv_at hl 0 rfl) ?_
  refine lv_iload_n hx hb dX5_table_1 rfl (lv_at hl 1 rfl) ?_
  obtain ⟨r1, h_r1, hrun⟩ := p_bnd hrun
  refine jVS_i (rest := []) C (c5_isRoad h_r1) gX5_table_X5_isRoad hd5_isRoad hK hN I.1 rcM rfl ⟨rfl, rfl⟩ ⟨Nat.le_of_ble_eq_true rfl, Nat.le_of_ble_eq_true rfl⟩ rfl hl.1 rfl (Nat.le_of_ble_eq_true rfl) ⟨Nat.le_of_ble_eq_true rfl, Nat.le_of_ble_eq_true rfl⟩ dX5_table_2 ?_
  refine lv_if_ne (tgt := 13) hx hb dX5_table_5 rfl (fun c2 => ?_) (fun c2 => ?_)
  · have hrun := p_neg hrun c2
    refine lv_iload_n hx hb dX5_table_13 rfl (lv_at hl 2 rfl) ?_
    refine lv_iconst (v := 0) hx hb dX5_table_14 rfl ?_
    refine lv_iconst (v := 3) hx hb dX5_table_15 rfl ?_
    obtain ⟨r3, h_r3, hrun⟩ := p_bnd hrun
    refine jSS_i (rest := []) C (c5_within h_r3) gX5_table_X5_within hd5_within rfl ⟨rfl, rfl⟩ ⟨Nat.le_of_ble_eq_true rfl, Nat.le_of_ble_eq_true rfl⟩ rfl hl.1 rfl (Nat.le_of_ble_eq_true rfl) ⟨Nat.le_of_ble_eq_true rfl, Nat.le_of_ble_eq_true rfl⟩ dX5_table_16 ?_
    refine lv_if_eq (tgt := 31) hx hb dX5_table_19 rfl (fun c4 => ?_) (fun c4 => ?_)
    · have hrun := p_pos hrun c4
      refine lv_ldc (v := (-2000000102)) hx hb C.2.2.2.1 (C.2.2.2.2 _ k5_table_54) dX5_table_31 ?_
      cases hrun
      exact rE_i C hr hlk hQ I (nbi _) rfl dX5_table_33
    · have hrun := p_neg hrun c4
      refine lv_aload_n hx hb dX5_table_22 rfl (lv_at hl 0 rfl) ?_
      refine lv_iload_n hx hb dX5_table_23 rfl (lv_at hl 1 rfl) ?_
      refine lv_iload_n hx hb dX5_table_24 rfl (lv_at hl 2 rfl) ?_
      obtain ⟨r5, h_r5, hrun⟩ := p_bnd hrun
      refine jVE_i (rest := []) C (c5_tableNow h_r5) gX5_table_X5_tableNow hd5_tableNow hK hN hD hA I rcM rfl ⟨rfl, rfl⟩ ⟨Nat.le_of_ble_eq_true rfl, Nat.le_of_ble_eq_true rfl⟩ rfl hl.1 rfl (Nat.le_of_ble_eq_true rfl) ⟨Nat.le_of_ble_eq_true rfl, Nat.le_of_ble_eq_true rfl⟩ dX5_table_25 (fun H locs I => ?_)
      refine lv_goto (tgt := 33) hx hb dX5_table_28 rfl ?_
      cases hrun
      exact rE_i C hr hlk hQ I (nbi _) rfl dX5_table_33
  · have hrun := p_pos hrun c2
    refine lv_ldc (v := (-2000000101)) hx hb C.2.2.2.1 (C.2.2.2.2 _ k5_table_145) dX5_table_8 ?_
    refine lv_goto (tgt := 33) hx hb dX5_table_10 rfl ?_
    cases hrun
    exact rE_i C hr hlk hQ I (nbi _) rfl dX5_table_33

abbrev rm5_layForm : Room := { frames := 2, cells := 0, slots := 0, locals := 44 }
theorem fl5_layForm_114 : Cond.fieldLink RX5 114 "RiverWordsModel" "tableA" "I" ∈ wsX5_layForm := by decide +kernel
theorem fl5_layForm_117 : Cond.fieldLink RX5 117 "RiverWordsModel" "tableB" "I" ∈ wsX5_layForm := by decide +kernel
theorem fl5_layForm_120 : Cond.fieldLink RX5 120 "RiverWordsModel" "tableC" "I" ∈ wsX5_layForm := by decide +kernel
theorem fl5_layForm_123 : Cond.fieldLink RX5 123 "RiverWordsModel" "tableD" "I" ∈ wsX5_layForm := by decide +kernel
theorem fl5_layForm_158 : Cond.fieldLink RX5 158 "RiverWordsModel" "grade" "I" ∈ wsX5_layForm := by decide +kernel
theorem fl5_layForm_161 : Cond.fieldLink RX5 161 "RiverWordsModel" "a" "I" ∈ wsX5_layForm := by decide +kernel
theorem fl5_layForm_164 : Cond.fieldLink RX5 164 "RiverWordsModel" "b" "I" ∈ wsX5_layForm := by decide +kernel
theorem fl5_layForm_167 : Cond.fieldLink RX5 167 "RiverWordsModel" "c" "I" ∈ wsX5_layForm := by decide +kernel
theorem inm5_layForm : ∀ w ∈ wsX50, w ∈ wsX5_layForm := fun w h => by unfold wsX5_layForm; first | exact List.mem_cons_of_mem _ (List.mem_append_right _ h) | exact List.mem_cons_of_mem _ h
theorem hd5_layForm : okD yX5_layForm 1 := by decide +kernel
set_option maxHeartbeats 8000000 in
set_option maxRecDepth 100000 in
theorem c5_layForm {x1 : Int32} {res : Int32 × (Nat → Int32) × Int32 × Int32 × Int32 × Int32 × Int32 × Int32 × Int32 × Int32} (hrun : P5_layForm v_lengths v_signs v_at x1 = some res) : Met l yX5_layForm wsX5_layForm rm5_layForm (va_Pc [.ref h, .int x1] (PE D [(cA, .int)] sz (WM0 h ad cA) (WM h ad cA v_pageLength v_page v_roads v_lengths v_signs v_wordsRead v_disc v_forms v_formA v_formB v_formC v_nextOf v_cycleOf v_cycles v_firstOf v_newLength v_newSigns v_mayRun v_size v_at v_otherSize v_other v_tableA v_tableB v_tableC v_tableD v_a v_b v_c v_grade v_flowA v_flowB v_flowC v_seedNow v_h))) (va_Qv (fun _ : Unit => True) (fun _ t => va_P D vwCl (WM h ad cA v_pageLength v_page v_roads v_lengths v_signs v_wordsRead v_disc v_forms v_formA v_formB v_formC v_nextOf v_cycleOf v_cycles v_firstOf v_newLength v_newSigns v_mayRun res.1 res.2.1 v_otherSize v_other res.2.2.1 res.2.2.2.1 res.2.2.2.2.1 res.2.2.2.2.2.1 res.2.2.2.2.2.2.1 res.2.2.2.2.2.2.2.1 res.2.2.2.2.2.2.2.2.1 res.2.2.2.2.2.2.2.2.2 v_flowA v_flowB v_flowC v_seedNow v_h) t.heap) (va_A (WM0 h ad cA) sz)) 0 0 (va_A (WM0 h ad cA) sz) := by
  refine E_in (cc := cX5_layForm) (maxL := 2) (ret := none) (by decide) rfl (Nat.le_of_ble_eq_true rfl) ?_
  intro p e s m args below meth c ls Q hQ C hr hlk hK hN hD hA I hl
  have C : CallFix p m c cX5_layForm 2 s args wsX5_layForm RX5 := C
  have hx := C.1
  have hb := C.2.1
  have hl : lv_has ls 2 [(0, .ref h), (1, .int x1)] := hl
  unfold P5_layForm at hrun
  refine lv_aload_n hx hb dX5_layForm_0 rfl (lv_at hl 0 rfl) ?_
  refine lv_iload_n hx hb dX5_layForm_1 rfl (lv_at hl 1 rfl) ?_
  obtain ⟨r1, h_r1, hrun⟩ := p_bnd hrun
  refine jVE_v (rest := []) C (c5_look h_r1) gX5_layForm_X5_look hd5_look hK hN hD hA I rcM rfl ⟨rfl, rfl⟩ ⟨Nat.le_of_ble_eq_true rfl, Nat.le_of_ble_eq_true rfl⟩ rfl hl.1 rfl (Nat.le_of_ble_eq_true rfl) ⟨Nat.le_of_ble_eq_true rfl, Nat.le_of_ble_eq_true rfl⟩ dX5_layForm_2 (fun H locs I => ?_)
  refine lv_aload_n hx hb dX5_layForm_5 rfl (lv_at hl 0 rfl) ?_
  obtain ⟨r2, h_r2, hrun⟩ := p_bnd hrun
  refine jVE_v (rest := []) C (c5_layTable h_r2) gX5_layForm_X5_layTable hd5_layTable hK hN hD hA I rcM rfl ⟨rfl, rfl⟩ ⟨Nat.le_of_ble_eq_true rfl, Nat.le_of_ble_eq_true rfl⟩ rfl hl.1 rfl (Nat.le_of_ble_eq_true rfl) ⟨Nat.le_of_ble_eq_true rfl, Nat.le_of_ble_eq_true rfl⟩ dX5_layForm_6 (fun H locs I => ?_)
  refine lv_aload_n hx hb dX5_layForm_9 rfl (lv_at hl 0 rfl) ?_
  refine lv_aload_n hx hb dX5_layForm_10 rfl (lv_at hl 0 rfl) ?_
  refine gM_tableC C inm5_layForm hK I.1 fl5_layForm_120 dX5_layForm_11 ?_
  refine lv_aload_n hx hb dX5_layForm_14 rfl (lv_at hl 0 rfl) ?_
  refine gM_tableD C inm5_layForm hK I.1 fl5_layForm_123 dX5_layForm_15 ?_
  refine lv_aload_n hx hb dX5_layForm_18 rfl (lv_at hl 0 rfl) ?_
  refine gM_tableA C inm5_layForm hK I.1 fl5_layForm_114 dX5_layForm_19 ?_
  refine lv_isub hx hb dX5_layForm_22 ?_
  obtain ⟨r3, h_r3, hrun⟩ := p_bnd hrun
  refine jSS_i (rest := [.ref h]) C (c5_common h_r3) gX5_layForm_X5_common hd5_common rfl ⟨rfl, rfl⟩ ⟨Nat.le_of_ble_eq_true rfl, Nat.le_of_ble_eq_true rfl⟩ rfl hl.1 rfl (Nat.le_of_ble_eq_true rfl) ⟨Nat.le_of_ble_eq_true rfl, Nat.le_of_ble_eq_true rfl⟩ dX5_layForm_23 ?_
  refine lv_aload_n hx hb dX5_layForm_26 rfl (lv_at hl 0 rfl) ?_
  refine gM_tableB C inm5_layForm hK I.1 fl5_layForm_117 dX5_layForm_27 ?_
  obtain ⟨r4, h_r4, hrun⟩ := p_bnd hrun
  refine jSS_i (rest := [.ref h]) C (c5_common h_r4) gX5_layForm_X5_common hd5_common rfl ⟨rfl, rfl⟩ ⟨Nat.le_of_ble_eq_true rfl, Nat.le_of_ble_eq_true rfl⟩ rfl hl.1 rfl (Nat.le_of_ble_eq_true rfl) ⟨Nat.le_of_ble_eq_true rfl, Nat.le_of_ble_eq_true rfl⟩ dX5_layForm_30 ?_
  refine pM_grade C inm5_layForm hK hD I fl5_layForm_158 dX5_layForm_33 (fun H locs I => ?_)
  refine lv_aload_n hx hb dX5_layForm_36 rfl (lv_at hl 0 rfl) ?_
  refine lv_aload_n hx hb dX5_layForm_37 rfl (lv_at hl 0 rfl) ?_
  refine gM_tableC C inm5_layForm hK I.1 fl5_layForm_120 dX5_layForm_38 ?_
  refine lv_aload_n hx hb dX5_layForm_41 rfl (lv_at hl 0 rfl) ?_
  refine gM_grade C inm5_layForm hK I.1 fl5_layForm_158 dX5_layForm_42 ?_
  obtain ⟨z5, hrun⟩ := p_chk hrun
  refine lv_idiv hx hb dX5_layForm_45 z5 ?_
  refine pM_a C inm5_layForm hK hD I fl5_layForm_161 dX5_layForm_46 (fun H locs I => ?_)
  refine lv_aload_n hx hb dX5_layForm_49 rfl (lv_at hl 0 rfl) ?_
  refine lv_aload_n hx hb dX5_layForm_50 rfl (lv_at hl 0 rfl) ?_
  refine gM_tableD C inm5_layForm hK I.1 fl5_layForm_123 dX5_layForm_51 ?_
  refine lv_aload_n hx hb dX5_layForm_54 rfl (lv_at hl 0 rfl) ?_
  refine gM_tableA C inm5_layForm hK I.1 fl5_layForm_114 dX5_layForm_55 ?_
  refine lv_isub hx hb dX5_layForm_58 ?_
  refine lv_aload_n hx hb dX5_layForm_59 rfl (lv_at hl 0 rfl) ?_
  refine gM_grade C inm5_layForm hK I.1 fl5_layForm_158 dX5_layForm_60 ?_
  obtain ⟨z6, hrun⟩ := p_chk hrun
  refine lv_idiv hx hb dX5_layForm_63 z6 ?_
  refine pM_b C inm5_layForm hK hD I fl5_layForm_164 dX5_layForm_64 (fun H locs I => ?_)
  refine lv_aload_n hx hb dX5_layForm_67 rfl (lv_at hl 0 rfl) ?_
  refine lv_aload_n hx hb dX5_layForm_68 rfl (lv_at hl 0 rfl) ?_
  refine gM_tableB C inm5_layForm hK I.1 fl5_layForm_117 dX5_layForm_69 ?_
  refine lv_ineg hx hb dX5_layForm_72 ?_
  refine lv_aload_n hx hb dX5_layForm_73 rfl (lv_at hl 0 rfl) ?_
  refine gM_grade C inm5_layForm hK I.1 fl5_layForm_158 dX5_layForm_74 ?_
  obtain ⟨z7, hrun⟩ := p_chk hrun
  refine lv_idiv hx hb dX5_layForm_77 z7 ?_
  refine pM_c C inm5_layForm hK hD I fl5_layForm_167 dX5_layForm_78 (fun H locs I => ?_)
  cases hrun
  exact rE_v C hr hlk hQ I dX5_layForm_81

abbrev rm5_discOf : Room := { frames := 0, cells := 0, slots := 0, locals := 0 }
theorem hd5_discOf : okD yX5_discOf 3 := by decide +kernel
set_option maxHeartbeats 8000000 in
set_option maxRecDepth 100000 in
theorem c5_discOf {x0 : Int32} {x1 : Int32} {x2 : Int32} {res : Int32} (hrun : P5_discOf x0 x1 x2 = some res) : Met l yX5_discOf wsX5_discOf rm5_discOf (va_Pc [.int x0, .int x1, .int x2] PN) (vp_Si (fun x => x = res)) 0 0 (fun _ => False) := by
  refine N_in (cc := cX5_discOf) (maxL := 3) (ret := (some .int)) (by decide) rfl (Nat.le_of_ble_eq_true rfl) ?_
  intro p e s m args below meth c ls Q hQ C hr hlk hl
  have C : CallFix p m c cX5_discOf 3 s args wsX5_discOf RX5 := C
  have hx := C.1
  have hb := C.2.1
  have hl : lv_has ls 3 [(0, .int x0), (1, .int x1), (2, .int x2)] := hl
  unfold P5_discOf at hrun
  refine lv_iload_n hx hb dX5_discOf_0 rfl (lv_at hl 1 rfl) ?_
  refine lv_iload_n hx hb dX5_discOf_1 rfl (lv_at hl 1 rfl) ?_
  refine lv_imul hx hb dX5_discOf_2 ?_
  refine lv_iconst (v := 4) hx hb dX5_discOf_3 rfl ?_
  refine lv_iload_n hx hb dX5_discOf_4 rfl (lv_at hl 0 rfl) ?_
  refine lv_imul hx hb dX5_discOf_5 ?_
  refine lv_iload_n hx hb dX5_discOf_6 rfl (lv_at hl 2 rfl) ?_
  refine lv_imul hx hb dX5_discOf_7 ?_
  refine lv_isub hx hb dX5_discOf_8 ?_
  cases hrun
  exact rS_i C hr hlk hQ (nbi _) rfl dX5_discOf_9

abbrev rm5_formNow : Room := { frames := 3, cells := 0, slots := 0, locals := 65 }
theorem fl5_formNow_158 : Cond.fieldLink RX5 158 "RiverWordsModel" "grade" "I" ∈ wsX5_formNow := by decide +kernel
theorem fl5_formNow_161 : Cond.fieldLink RX5 161 "RiverWordsModel" "a" "I" ∈ wsX5_formNow := by decide +kernel
theorem fl5_formNow_164 : Cond.fieldLink RX5 164 "RiverWordsModel" "b" "I" ∈ wsX5_formNow := by decide +kernel
theorem fl5_formNow_167 : Cond.fieldLink RX5 167 "RiverWordsModel" "c" "I" ∈ wsX5_formNow := by decide +kernel
theorem inm5_formNow : ∀ w ∈ wsX50, w ∈ wsX5_formNow := fun w h => by unfold wsX5_formNow; first | exact List.mem_cons_of_mem _ (List.mem_append_right _ h) | exact List.mem_cons_of_mem _ h
theorem hd5_formNow : okD yX5_formNow 2 := by decide +kernel
set_option maxHeartbeats 8000000 in
set_option maxRecDepth 100000 in
theorem c5_formNow {x1 : Int32} {x2 : Int32} {res : Int32 × Int32 × (Nat → Int32) × Int32 × Int32 × Int32 × Int32 × Int32 × Int32 × Int32 × Int32} (hrun : P5_formNow v_lengths v_signs v_at x1 x2 = some res) : Met l yX5_formNow wsX5_formNow rm5_formNow (va_Pc [.ref h, .int x1, .int x2] (PE D [(cA, .int)] sz (WM0 h ad cA) (WM h ad cA v_pageLength v_page v_roads v_lengths v_signs v_wordsRead v_disc v_forms v_formA v_formB v_formC v_nextOf v_cycleOf v_cycles v_firstOf v_newLength v_newSigns v_mayRun v_size v_at v_otherSize v_other v_tableA v_tableB v_tableC v_tableD v_a v_b v_c v_grade v_flowA v_flowB v_flowC v_seedNow v_h))) (va_Qi (fun (x : Int32) (_ : Unit) => x = res.1) (fun _ t => va_P D vwCl (WM h ad cA v_pageLength v_page v_roads v_lengths v_signs v_wordsRead v_disc v_forms v_formA v_formB v_formC v_nextOf v_cycleOf v_cycles v_firstOf v_newLength v_newSigns v_mayRun res.2.1 res.2.2.1 v_otherSize v_other res.2.2.2.1 res.2.2.2.2.1 res.2.2.2.2.2.1 res.2.2.2.2.2.2.1 res.2.2.2.2.2.2.2.1 res.2.2.2.2.2.2.2.2.1 res.2.2.2.2.2.2.2.2.2.1 res.2.2.2.2.2.2.2.2.2.2 v_flowA v_flowB v_flowC v_seedNow v_h) t.heap) (va_A (WM0 h ad cA) sz)) 0 0 (va_A (WM0 h ad cA) sz) := by
  refine E_in (cc := cX5_formNow) (maxL := 3) (ret := (some .int)) (by decide) rfl (Nat.le_of_ble_eq_true rfl) ?_
  intro p e s m args below meth c ls Q hQ C hr hlk hK hN hD hA I hl
  have C : CallFix p m c cX5_formNow 3 s args wsX5_formNow RX5 := C
  have hx := C.1
  have hb := C.2.1
  have hl : lv_has ls 3 [(0, .ref h), (1, .int x1), (2, .int x2)] := hl
  unfold P5_formNow at hrun
  refine lv_aload_n hx hb dX5_formNow_0 rfl (lv_at hl 0 rfl) ?_
  refine lv_iload_n hx hb dX5_formNow_1 rfl (lv_at hl 1 rfl) ?_
  obtain ⟨r1, h_r1, hrun⟩ := p_bnd hrun
  refine jVE_v (rest := []) C (c5_layForm h_r1) gX5_formNow_X5_layForm hd5_layForm hK hN hD hA I rcM rfl ⟨rfl, rfl⟩ ⟨Nat.le_of_ble_eq_true rfl, Nat.le_of_ble_eq_true rfl⟩ rfl hl.1 rfl (Nat.le_of_ble_eq_true rfl) ⟨Nat.le_of_ble_eq_true rfl, Nat.le_of_ble_eq_true rfl⟩ dX5_formNow_2 (fun H locs I => ?_)
  refine lv_iload_n hx hb dX5_formNow_5 rfl (lv_at hl 2 rfl) ?_
  by_cases c2 : x2 = 0
  · have hrun := p_pos hrun c2
    refine j_tswIn  (tgt := 36) hx hb 0 c2 dX5_formNow_6 (by decide) (by decide) rfl rfl ?_
    refine lv_aload_n hx hb dX5_formNow_36 rfl (lv_at hl 0 rfl) ?_
    refine gM_a C inm5_formNow hK I.1 fl5_formNow_161 dX5_formNow_37 ?_
    cases hrun
    exact rE_i C hr hlk hQ I (nbi _) rfl dX5_formNow_40
  · have hrun := p_neg hrun c2
    by_cases c3 : x2 = 1
    · have hrun := p_pos hrun c3
      refine j_tswIn  (tgt := 41) hx hb 1 c3 dX5_formNow_6 (by decide) (by decide) rfl rfl ?_
      refine lv_aload_n hx hb dX5_formNow_41 rfl (lv_at hl 0 rfl) ?_
      refine gM_b C inm5_formNow hK I.1 fl5_formNow_164 dX5_formNow_42 ?_
      cases hrun
      exact rE_i C hr hlk hQ I (nbi _) rfl dX5_formNow_45
    · have hrun := p_neg hrun c3
      by_cases c4 : x2 = 2
      · have hrun := p_pos hrun c4
        refine j_tswIn  (tgt := 46) hx hb 2 c4 dX5_formNow_6 (by decide) (by decide) rfl rfl ?_
        refine lv_aload_n hx hb dX5_formNow_46 rfl (lv_at hl 0 rfl) ?_
        refine gM_c C inm5_formNow hK I.1 fl5_formNow_167 dX5_formNow_47 ?_
        cases hrun
        exact rE_i C hr hlk hQ I (nbi _) rfl dX5_formNow_50
      · have hrun := p_neg hrun c4
        by_cases c5 : x2 = 3
        · have hrun := p_pos hrun c5
          refine j_tswIn  (tgt := 51) hx hb 3 c5 dX5_formNow_6 (by decide) (by decide) rfl rfl ?_
          refine lv_aload_n hx hb dX5_formNow_51 rfl (lv_at hl 0 rfl) ?_
          refine gM_grade C inm5_formNow hK I.1 fl5_formNow_158 dX5_formNow_52 ?_
          cases hrun
          exact rE_i C hr hlk hQ I (nbi _) rfl dX5_formNow_55
        · have hrun := p_neg hrun c5
          refine lv_tableOut (tgt := 56) hx hb dX5_formNow_6 (j_tswOut (lo := 0) (hi := 3) [0, 1, 2, 3] (by decide) (fun k hk => by simp only [List.mem_cons, List.not_mem_nil, or_false] at hk; rcases hk with rfl | rfl | rfl | rfl <;> assumption)) rfl ?_
          refine lv_aload_n hx hb dX5_formNow_56 rfl (lv_at hl 0 rfl) ?_
          refine gM_a C inm5_formNow hK I.1 fl5_formNow_161 dX5_formNow_57 ?_
          refine lv_aload_n hx hb dX5_formNow_60 rfl (lv_at hl 0 rfl) ?_
          refine gM_b C inm5_formNow hK I.1 fl5_formNow_164 dX5_formNow_61 ?_
          refine lv_aload_n hx hb dX5_formNow_64 rfl (lv_at hl 0 rfl) ?_
          refine gM_c C inm5_formNow hK I.1 fl5_formNow_167 dX5_formNow_65 ?_
          obtain ⟨r6, h_r6, hrun⟩ := p_bnd hrun
          refine jSS_i (rest := []) C (c5_discOf h_r6) gX5_formNow_X5_discOf hd5_discOf rfl ⟨rfl, rfl⟩ ⟨Nat.le_of_ble_eq_true rfl, Nat.le_of_ble_eq_true rfl⟩ rfl hl.1 rfl (Nat.le_of_ble_eq_true rfl) ⟨Nat.le_of_ble_eq_true rfl, Nat.le_of_ble_eq_true rfl⟩ dX5_formNow_68 ?_
          cases hrun
          exact rE_i C hr hlk hQ I (nbi _) rfl dX5_formNow_71

abbrev rm5_form : Room := { frames := 4, cells := 0, slots := 0, locals := 87 }
theorem k5_form_54 : Cond.constant RX5 54 (-2000000102) ∈ wsX5_form := by decide +kernel
theorem k5_form_78 : Cond.constant RX5 78 (-2000000103) ∈ wsX5_form := by decide +kernel
theorem k5_form_145 : Cond.constant RX5 145 (-2000000101) ∈ wsX5_form := by decide +kernel
theorem hd5_form : okD yX5_form 2 := by decide +kernel
set_option maxHeartbeats 8000000 in
set_option maxRecDepth 100000 in
theorem c5_form {x1 : Int32} {x2 : Int32} {res : Int32 × Int32 × (Nat → Int32) × Int32 × Int32 × Int32 × Int32 × Int32 × Int32 × Int32 × Int32} (hrun : P5_form v_roads v_lengths v_signs v_size v_at v_tableA v_tableB v_tableC v_tableD v_a v_b v_c v_grade x1 x2 = some res) : Met l yX5_form wsX5_form rm5_form (va_Pc [.ref h, .int x1, .int x2] (PE D [(cA, .int)] sz (WM0 h ad cA) (WM h ad cA v_pageLength v_page v_roads v_lengths v_signs v_wordsRead v_disc v_forms v_formA v_formB v_formC v_nextOf v_cycleOf v_cycles v_firstOf v_newLength v_newSigns v_mayRun v_size v_at v_otherSize v_other v_tableA v_tableB v_tableC v_tableD v_a v_b v_c v_grade v_flowA v_flowB v_flowC v_seedNow v_h))) (va_Qi (fun (x : Int32) (_ : Unit) => x = res.1) (fun _ t => va_P D vwCl (WM h ad cA v_pageLength v_page v_roads v_lengths v_signs v_wordsRead v_disc v_forms v_formA v_formB v_formC v_nextOf v_cycleOf v_cycles v_firstOf v_newLength v_newSigns v_mayRun res.2.1 res.2.2.1 v_otherSize v_other res.2.2.2.1 res.2.2.2.2.1 res.2.2.2.2.2.1 res.2.2.2.2.2.2.1 res.2.2.2.2.2.2.2.1 res.2.2.2.2.2.2.2.2.1 res.2.2.2.2.2.2.2.2.2.1 res.2.2.2.2.2.2.2.2.2.2 v_flowA v_flowB v_flowC v_seedNow v_h) t.heap) (va_A (WM0 h ad cA) sz)) 0 0 (va_A (WM0 h ad cA) sz) := by
  refine E_in (cc := cX5_form) (maxL := 3) (ret := (some .int)) (by decide) rfl (Nat.le_of_ble_eq_true rfl) ?_
  intro p e s m args below meth c ls Q hQ C hr hlk hK hN hD hA I hl
  have C : CallFix p m c cX5_form 3 s args wsX5_form RX5 := C
  have hx := C.1
  have hb := C.2.1
  have hl : lv_has ls 3 [(0, .ref h), (1, .int x1), (2, .int x2)] := hl
  unfold P5_form at hrun
  refine lv_aload_n hx hb dX5_form_0 rfl (lv_at hl 0 rfl) ?_
  refine lv_iload_n hx hb dX5_form_1 rfl (lv_at hl 1 rfl) ?_
  obtain ⟨r1, h_r1, hrun⟩ := p_bnd hrun
  refine jVS_i (rest := []) C (c5_isRoad h_r1) gX5_form_X5_isRoad hd5_isRoad hK hN I.1 rcM rfl ⟨rfl, rfl⟩ ⟨Nat.le_of_ble_eq_true rfl, Nat.le_of_ble_eq_true rfl⟩ rfl hl.1 rfl (Nat.le_of_ble_eq_true rfl) ⟨Nat.le_of_ble_eq_true rfl, Nat.le_of_ble_eq_true rfl⟩ dX5_form_2 ?_
  refine lv_if_ne (tgt := 11) hx hb dX5_form_5 rfl (fun c2 => ?_) (fun c2 => ?_)
  · have hrun := p_neg hrun c2
    refine lv_iload_n hx hb dX5_form_11 rfl (lv_at hl 2 rfl) ?_
    refine lv_iconst (v := 0) hx hb dX5_form_12 rfl ?_
    refine lv_iconst (v := 4) hx hb dX5_form_13 rfl ?_
    obtain ⟨r3, h_r3, hrun⟩ := p_bnd hrun
    refine jSS_i (rest := []) C (c5_within h_r3) gX5_form_X5_within hd5_within rfl ⟨rfl, rfl⟩ ⟨Nat.le_of_ble_eq_true rfl, Nat.le_of_ble_eq_true rfl⟩ rfl hl.1 rfl (Nat.le_of_ble_eq_true rfl) ⟨Nat.le_of_ble_eq_true rfl, Nat.le_of_ble_eq_true rfl⟩ dX5_form_14 ?_
    refine lv_if_ne (tgt := 23) hx hb dX5_form_17 rfl (fun c4 => ?_) (fun c4 => ?_)
    · have hrun := p_neg hrun c4
      refine lv_aload_n hx hb dX5_form_23 rfl (lv_at hl 0 rfl) ?_
      refine lv_iload_n hx hb dX5_form_24 rfl (lv_at hl 1 rfl) ?_
      obtain ⟨r5, h_r5, hrun⟩ := p_bnd hrun
      refine jVE_i (rest := []) C (c5_isClosed h_r5) gX5_form_X5_isClosed hd5_isClosed hK hN hD hA I rcM rfl ⟨rfl, rfl⟩ ⟨Nat.le_of_ble_eq_true rfl, Nat.le_of_ble_eq_true rfl⟩ rfl hl.1 rfl (Nat.le_of_ble_eq_true rfl) ⟨Nat.le_of_ble_eq_true rfl, Nat.le_of_ble_eq_true rfl⟩ dX5_form_25 (fun H locs I => ?_)
      refine lv_if_eq (tgt := 40) hx hb dX5_form_28 rfl (fun c6 => ?_) (fun c6 => ?_)
      · have hrun := p_pos hrun c6
        refine lv_ldc (v := (-2000000103)) hx hb C.2.2.2.1 (C.2.2.2.2 _ k5_form_78) dX5_form_40 ?_
        cases hrun
        exact rE_i C hr hlk hQ I (nbi _) rfl dX5_form_42
      · have hrun := p_neg hrun c6
        refine lv_aload_n hx hb dX5_form_31 rfl (lv_at hl 0 rfl) ?_
        refine lv_iload_n hx hb dX5_form_32 rfl (lv_at hl 1 rfl) ?_
        refine lv_iload_n hx hb dX5_form_33 rfl (lv_at hl 2 rfl) ?_
        obtain ⟨r7, h_r7, hrun⟩ := p_bnd hrun
        refine jVE_i (rest := []) C (c5_formNow h_r7) gX5_form_X5_formNow hd5_formNow hK hN hD hA I rcM rfl ⟨rfl, rfl⟩ ⟨Nat.le_of_ble_eq_true rfl, Nat.le_of_ble_eq_true rfl⟩ rfl hl.1 rfl (Nat.le_of_ble_eq_true rfl) ⟨Nat.le_of_ble_eq_true rfl, Nat.le_of_ble_eq_true rfl⟩ dX5_form_34 (fun H locs I => ?_)
        refine lv_goto (tgt := 42) hx hb dX5_form_37 rfl ?_
        cases hrun
        exact rE_i C hr hlk hQ I (nbi _) rfl dX5_form_42
    · have hrun := p_pos hrun c4
      refine lv_ldc (v := (-2000000102)) hx hb C.2.2.2.1 (C.2.2.2.2 _ k5_form_54) dX5_form_20 ?_
      cases hrun
      exact rE_i C hr hlk hQ I (nbi _) rfl dX5_form_22
  · have hrun := p_pos hrun c2
    refine lv_ldc (v := (-2000000101)) hx hb C.2.2.2.1 (C.2.2.2.2 _ k5_form_145) dX5_form_8 ?_
    cases hrun
    exact rE_i C hr hlk hQ I (nbi _) rfl dX5_form_10

abbrev rm5_endNow : Room := { frames := 1, cells := 0, slots := 0, locals := 22 }
theorem fl5_endNow_114 : Cond.fieldLink RX5 114 "RiverWordsModel" "tableA" "I" ∈ wsX5_endNow := by decide +kernel
theorem fl5_endNow_117 : Cond.fieldLink RX5 117 "RiverWordsModel" "tableB" "I" ∈ wsX5_endNow := by decide +kernel
theorem fl5_endNow_120 : Cond.fieldLink RX5 120 "RiverWordsModel" "tableC" "I" ∈ wsX5_endNow := by decide +kernel
theorem fl5_endNow_123 : Cond.fieldLink RX5 123 "RiverWordsModel" "tableD" "I" ∈ wsX5_endNow := by decide +kernel
theorem inm5_endNow : ∀ w ∈ wsX50, w ∈ wsX5_endNow := fun w h => by unfold wsX5_endNow; first | exact List.mem_cons_of_mem _ (List.mem_append_right _ h) | exact List.mem_cons_of_mem _ h
theorem hd5_endNow : okD yX5_endNow 2 := by decide +kernel
set_option maxHeartbeats 8000000 in
set_option maxRecDepth 100000 in
theorem c5_endNow {x1 : Int32} {x2 : Int32} {res : Int32 × Int32 × (Nat → Int32) × Int32 × Int32 × Int32 × Int32} (hrun : P5_endNow v_lengths v_signs v_at x1 x2 = some res) : Met l yX5_endNow wsX5_endNow rm5_endNow (va_Pc [.ref h, .int x1, .int x2] (PE D [(cA, .int)] sz (WM0 h ad cA) (WM h ad cA v_pageLength v_page v_roads v_lengths v_signs v_wordsRead v_disc v_forms v_formA v_formB v_formC v_nextOf v_cycleOf v_cycles v_firstOf v_newLength v_newSigns v_mayRun v_size v_at v_otherSize v_other v_tableA v_tableB v_tableC v_tableD v_a v_b v_c v_grade v_flowA v_flowB v_flowC v_seedNow v_h))) (va_Qi (fun (x : Int32) (_ : Unit) => x = res.1) (fun _ t => va_P D vwCl (WM h ad cA v_pageLength v_page v_roads v_lengths v_signs v_wordsRead v_disc v_forms v_formA v_formB v_formC v_nextOf v_cycleOf v_cycles v_firstOf v_newLength v_newSigns v_mayRun res.2.1 res.2.2.1 v_otherSize v_other res.2.2.2.1 res.2.2.2.2.1 res.2.2.2.2.2.1 res.2.2.2.2.2.2 v_a v_b v_c v_grade v_flowA v_flowB v_flowC v_seedNow v_h) t.heap) (va_A (WM0 h ad cA) sz)) 0 0 (va_A (WM0 h ad cA) sz) := by
  refine E_in (cc := cX5_endNow) (maxL := 3) (ret := (some .int)) (by decide) rfl (Nat.le_of_ble_eq_true rfl) ?_
  intro p e s m args below meth c ls Q hQ C hr hlk hK hN hD hA I hl
  have C : CallFix p m c cX5_endNow 3 s args wsX5_endNow RX5 := C
  have hx := C.1
  have hb := C.2.1
  have hl : lv_has ls 3 [(0, .ref h), (1, .int x1), (2, .int x2)] := hl
  unfold P5_endNow at hrun
  refine lv_aload_n hx hb dX5_endNow_0 rfl (lv_at hl 0 rfl) ?_
  refine lv_iload_n hx hb dX5_endNow_1 rfl (lv_at hl 1 rfl) ?_
  obtain ⟨r1, h_r1, hrun⟩ := p_bnd hrun
  refine jVE_v (rest := []) C (c5_look h_r1) gX5_endNow_X5_look hd5_look hK hN hD hA I rcM rfl ⟨rfl, rfl⟩ ⟨Nat.le_of_ble_eq_true rfl, Nat.le_of_ble_eq_true rfl⟩ rfl hl.1 rfl (Nat.le_of_ble_eq_true rfl) ⟨Nat.le_of_ble_eq_true rfl, Nat.le_of_ble_eq_true rfl⟩ dX5_endNow_2 (fun H locs I => ?_)
  refine lv_aload_n hx hb dX5_endNow_5 rfl (lv_at hl 0 rfl) ?_
  obtain ⟨r2, h_r2, hrun⟩ := p_bnd hrun
  refine jVE_v (rest := []) C (c5_layTable h_r2) gX5_endNow_X5_layTable hd5_layTable hK hN hD hA I rcM rfl ⟨rfl, rfl⟩ ⟨Nat.le_of_ble_eq_true rfl, Nat.le_of_ble_eq_true rfl⟩ rfl hl.1 rfl (Nat.le_of_ble_eq_true rfl) ⟨Nat.le_of_ble_eq_true rfl, Nat.le_of_ble_eq_true rfl⟩ dX5_endNow_6 (fun H locs I => ?_)
  refine lv_iload_n hx hb dX5_endNow_9 rfl (lv_at hl 2 rfl) ?_
  refine lv_if_ne (tgt := 25) hx hb dX5_endNow_10 rfl (fun c3 => ?_) (fun c3 => ?_)
  · have hrun := p_neg hrun c3
    refine lv_aload_n hx hb dX5_endNow_25 rfl (lv_at hl 0 rfl) ?_
    refine gM_tableC C inm5_endNow hK I.1 fl5_endNow_120 dX5_endNow_26 ?_
    refine lv_aload_n hx hb dX5_endNow_29 rfl (lv_at hl 0 rfl) ?_
    refine gM_tableD C inm5_endNow hK I.1 fl5_endNow_123 dX5_endNow_30 ?_
    refine lv_iadd hx hb dX5_endNow_33 ?_
    cases hrun
    exact rE_i C hr hlk hQ I (nbi _) rfl dX5_endNow_34
  · have hrun := p_pos hrun c3
    refine lv_aload_n hx hb dX5_endNow_13 rfl (lv_at hl 0 rfl) ?_
    refine gM_tableA C inm5_endNow hK I.1 fl5_endNow_114 dX5_endNow_14 ?_
    refine lv_aload_n hx hb dX5_endNow_17 rfl (lv_at hl 0 rfl) ?_
    refine gM_tableB C inm5_endNow hK I.1 fl5_endNow_117 dX5_endNow_18 ?_
    refine lv_iadd hx hb dX5_endNow_21 ?_
    refine lv_goto (tgt := 34) hx hb dX5_endNow_22 rfl ?_
    cases hrun
    exact rE_i C hr hlk hQ I (nbi _) rfl dX5_endNow_34

abbrev rm5_end : Room := { frames := 2, cells := 0, slots := 0, locals := 44 }
theorem k5_end_54 : Cond.constant RX5 54 (-2000000102) ∈ wsX5_end := by decide +kernel
theorem k5_end_145 : Cond.constant RX5 145 (-2000000101) ∈ wsX5_end := by decide +kernel
theorem hd5_end : okD yX5_end 2 := by decide +kernel
set_option maxHeartbeats 8000000 in
set_option maxRecDepth 100000 in
theorem c5_end {x1 : Int32} {x2 : Int32} {res : Int32 × Int32 × (Nat → Int32) × Int32 × Int32 × Int32 × Int32} (hrun : P5_end v_roads v_lengths v_signs v_size v_at v_tableA v_tableB v_tableC v_tableD x1 x2 = some res) : Met l yX5_end wsX5_end rm5_end (va_Pc [.ref h, .int x1, .int x2] (PE D [(cA, .int)] sz (WM0 h ad cA) (WM h ad cA v_pageLength v_page v_roads v_lengths v_signs v_wordsRead v_disc v_forms v_formA v_formB v_formC v_nextOf v_cycleOf v_cycles v_firstOf v_newLength v_newSigns v_mayRun v_size v_at v_otherSize v_other v_tableA v_tableB v_tableC v_tableD v_a v_b v_c v_grade v_flowA v_flowB v_flowC v_seedNow v_h))) (va_Qi (fun (x : Int32) (_ : Unit) => x = res.1) (fun _ t => va_P D vwCl (WM h ad cA v_pageLength v_page v_roads v_lengths v_signs v_wordsRead v_disc v_forms v_formA v_formB v_formC v_nextOf v_cycleOf v_cycles v_firstOf v_newLength v_newSigns v_mayRun res.2.1 res.2.2.1 v_otherSize v_other res.2.2.2.1 res.2.2.2.2.1 res.2.2.2.2.2.1 res.2.2.2.2.2.2 v_a v_b v_c v_grade v_flowA v_flowB v_flowC v_seedNow v_h) t.heap) (va_A (WM0 h ad cA) sz)) 0 0 (va_A (WM0 h ad cA) sz) := by
  refine E_in (cc := cX5_end) (maxL := 3) (ret := (some .int)) (by decide) rfl (Nat.le_of_ble_eq_true rfl) ?_
  intro p e s m args below meth c ls Q hQ C hr hlk hK hN hD hA I hl
  have C : CallFix p m c cX5_end 3 s args wsX5_end RX5 := C
  have hx := C.1
  have hb := C.2.1
  have hl : lv_has ls 3 [(0, .ref h), (1, .int x1), (2, .int x2)] := hl
  unfold P5_end at hrun
  refine lv_aload_n hx hb dX5_end_0 rfl (lv_at hl 0 rfl) ?_
  refine lv_iload_n hx hb dX5_end_1 rfl (lv_at hl 1 rfl) ?_
  obtain ⟨r1, h_r1, hrun⟩ := p_bnd hrun
  refine jVS_i (rest := []) C (c5_isRoad h_r1) gX5_end_X5_isRoad hd5_isRoad hK hN I.1 rcM rfl ⟨rfl, rfl⟩ ⟨Nat.le_of_ble_eq_true rfl, Nat.le_of_ble_eq_true rfl⟩ rfl hl.1 rfl (Nat.le_of_ble_eq_true rfl) ⟨Nat.le_of_ble_eq_true rfl, Nat.le_of_ble_eq_true rfl⟩ dX5_end_2 ?_
  refine lv_if_ne (tgt := 13) hx hb dX5_end_5 rfl (fun c2 => ?_) (fun c2 => ?_)
  · have hrun := p_neg hrun c2
    refine lv_iload_n hx hb dX5_end_13 rfl (lv_at hl 2 rfl) ?_
    refine lv_iconst (v := 0) hx hb dX5_end_14 rfl ?_
    refine lv_iconst (v := 1) hx hb dX5_end_15 rfl ?_
    obtain ⟨r3, h_r3, hrun⟩ := p_bnd hrun
    refine jSS_i (rest := []) C (c5_within h_r3) gX5_end_X5_within hd5_within rfl ⟨rfl, rfl⟩ ⟨Nat.le_of_ble_eq_true rfl, Nat.le_of_ble_eq_true rfl⟩ rfl hl.1 rfl (Nat.le_of_ble_eq_true rfl) ⟨Nat.le_of_ble_eq_true rfl, Nat.le_of_ble_eq_true rfl⟩ dX5_end_16 ?_
    refine lv_if_eq (tgt := 31) hx hb dX5_end_19 rfl (fun c4 => ?_) (fun c4 => ?_)
    · have hrun := p_pos hrun c4
      refine lv_ldc (v := (-2000000102)) hx hb C.2.2.2.1 (C.2.2.2.2 _ k5_end_54) dX5_end_31 ?_
      cases hrun
      exact rE_i C hr hlk hQ I (nbi _) rfl dX5_end_33
    · have hrun := p_neg hrun c4
      refine lv_aload_n hx hb dX5_end_22 rfl (lv_at hl 0 rfl) ?_
      refine lv_iload_n hx hb dX5_end_23 rfl (lv_at hl 1 rfl) ?_
      refine lv_iload_n hx hb dX5_end_24 rfl (lv_at hl 2 rfl) ?_
      obtain ⟨r5, h_r5, hrun⟩ := p_bnd hrun
      refine jVE_i (rest := []) C (c5_endNow h_r5) gX5_end_X5_endNow hd5_endNow hK hN hD hA I rcM rfl ⟨rfl, rfl⟩ ⟨Nat.le_of_ble_eq_true rfl, Nat.le_of_ble_eq_true rfl⟩ rfl hl.1 rfl (Nat.le_of_ble_eq_true rfl) ⟨Nat.le_of_ble_eq_true rfl, Nat.le_of_ble_eq_true rfl⟩ dX5_end_25 (fun H locs I => ?_)
      refine lv_goto (tgt := 33) hx hb dX5_end_28 rfl ?_
      cases hrun
      exact rE_i C hr hlk hQ I (nbi _) rfl dX5_end_33
  · have hrun := p_pos hrun c2
    refine lv_ldc (v := (-2000000101)) hx hb C.2.2.2.1 (C.2.2.2.2 _ k5_end_145) dX5_end_8 ?_
    refine lv_goto (tgt := 33) hx hb dX5_end_10 rfl ?_
    cases hrun
    exact rE_i C hr hlk hQ I (nbi _) rfl dX5_end_33

abbrev rm5_alikeNow : Room := { frames := 1, cells := 0, slots := 0, locals := 24 }
theorem hd5_alikeNow : okD yX5_alikeNow 2 := by decide +kernel
set_option maxHeartbeats 8000000 in
set_option maxRecDepth 100000 in
theorem c5_alikeNow {x1 : Int32} {x2 : Int32} {res : Int32 × Int32 × (Nat → Int32) × Int32 × (Nat → Int32)} (hrun : P5_alikeNow v_lengths v_signs v_at v_other x1 x2 = some res) : Met l yX5_alikeNow wsX5_alikeNow rm5_alikeNow (va_Pc [.ref h, .int x1, .int x2] (PE D [(cA, .int)] sz (WM0 h ad cA) (WM h ad cA v_pageLength v_page v_roads v_lengths v_signs v_wordsRead v_disc v_forms v_formA v_formB v_formC v_nextOf v_cycleOf v_cycles v_firstOf v_newLength v_newSigns v_mayRun v_size v_at v_otherSize v_other v_tableA v_tableB v_tableC v_tableD v_a v_b v_c v_grade v_flowA v_flowB v_flowC v_seedNow v_h))) (va_Qi (fun (x : Int32) (_ : Unit) => x = res.1) (fun _ t => va_P D vwCl (WM h ad cA v_pageLength v_page v_roads v_lengths v_signs v_wordsRead v_disc v_forms v_formA v_formB v_formC v_nextOf v_cycleOf v_cycles v_firstOf v_newLength v_newSigns v_mayRun res.2.1 res.2.2.1 res.2.2.2.1 res.2.2.2.2 v_tableA v_tableB v_tableC v_tableD v_a v_b v_c v_grade v_flowA v_flowB v_flowC v_seedNow v_h) t.heap) (va_A (WM0 h ad cA) sz)) 0 0 (va_A (WM0 h ad cA) sz) := by
  refine E_in (cc := cX5_alikeNow) (maxL := 3) (ret := (some .int)) (by decide) rfl (Nat.le_of_ble_eq_true rfl) ?_
  intro p e s m args below meth c ls Q hQ C hr hlk hK hN hD hA I hl
  have C : CallFix p m c cX5_alikeNow 3 s args wsX5_alikeNow RX5 := C
  have hx := C.1
  have hb := C.2.1
  have hl : lv_has ls 3 [(0, .ref h), (1, .int x1), (2, .int x2)] := hl
  unfold P5_alikeNow at hrun
  refine lv_aload_n hx hb dX5_alikeNow_0 rfl (lv_at hl 0 rfl) ?_
  refine lv_iload_n hx hb dX5_alikeNow_1 rfl (lv_at hl 2 rfl) ?_
  obtain ⟨r1, h_r1, hrun⟩ := p_bnd hrun
  refine jVE_v (rest := []) C (c5_look h_r1) gX5_alikeNow_X5_look hd5_look hK hN hD hA I rcM rfl ⟨rfl, rfl⟩ ⟨Nat.le_of_ble_eq_true rfl, Nat.le_of_ble_eq_true rfl⟩ rfl hl.1 rfl (Nat.le_of_ble_eq_true rfl) ⟨Nat.le_of_ble_eq_true rfl, Nat.le_of_ble_eq_true rfl⟩ dX5_alikeNow_2 (fun H locs I => ?_)
  refine lv_aload_n hx hb dX5_alikeNow_5 rfl (lv_at hl 0 rfl) ?_
  refine lv_iconst (v := 0) hx hb dX5_alikeNow_6 rfl ?_
  refine lv_iconst (v := 0) hx hb dX5_alikeNow_7 rfl ?_
  obtain ⟨r2, h_r2, hrun⟩ := p_bnd hrun
  refine jVE_v (rest := []) C (c5_layOther h_r2) gX5_alikeNow_X5_layOther hd5_layOther hK hN hD hA I rcM rfl ⟨rfl, rfl⟩ ⟨Nat.le_of_ble_eq_true rfl, Nat.le_of_ble_eq_true rfl⟩ rfl hl.1 rfl (Nat.le_of_ble_eq_true rfl) ⟨Nat.le_of_ble_eq_true rfl, Nat.le_of_ble_eq_true rfl⟩ dX5_alikeNow_8 (fun H locs I => ?_)
  refine lv_aload_n hx hb dX5_alikeNow_11 rfl (lv_at hl 0 rfl) ?_
  refine lv_iload_n hx hb dX5_alikeNow_12 rfl (lv_at hl 1 rfl) ?_
  obtain ⟨r3, h_r3, hrun⟩ := p_bnd hrun
  refine jVE_v (rest := []) C (c5_look h_r3) gX5_alikeNow_X5_look hd5_look hK hN hD hA I rcM rfl ⟨rfl, rfl⟩ ⟨Nat.le_of_ble_eq_true rfl, Nat.le_of_ble_eq_true rfl⟩ rfl hl.1 rfl (Nat.le_of_ble_eq_true rfl) ⟨Nat.le_of_ble_eq_true rfl, Nat.le_of_ble_eq_true rfl⟩ dX5_alikeNow_13 (fun H locs I => ?_)
  refine lv_aload_n hx hb dX5_alikeNow_16 rfl (lv_at hl 0 rfl) ?_
  obtain ⟨r4, h_r4, hrun⟩ := p_bnd hrun
  refine jVS_i (rest := []) C (c5_turnTo h_r4) gX5_alikeNow_X5_turnTo hd5_turnTo hK hN I.1 rcM rfl ⟨rfl, rfl⟩ ⟨Nat.le_of_ble_eq_true rfl, Nat.le_of_ble_eq_true rfl⟩ rfl hl.1 rfl (Nat.le_of_ble_eq_true rfl) ⟨Nat.le_of_ble_eq_true rfl, Nat.le_of_ble_eq_true rfl⟩ dX5_alikeNow_17 ?_
  cases hrun
  exact rE_i C hr hlk hQ I (nbi _) rfl dX5_alikeNow_20

abbrev rm5_alike : Room := { frames := 2, cells := 0, slots := 0, locals := 46 }
theorem k5_alike_145 : Cond.constant RX5 145 (-2000000101) ∈ wsX5_alike := by decide +kernel
theorem hd5_alike : okD yX5_alike 2 := by decide +kernel
set_option maxHeartbeats 8000000 in
set_option maxRecDepth 100000 in
theorem c5_alike {x1 : Int32} {x2 : Int32} {res : Int32 × Int32 × (Nat → Int32) × Int32 × (Nat → Int32)} (hrun : P5_alike v_roads v_lengths v_signs v_size v_at v_otherSize v_other x1 x2 = some res) : Met l yX5_alike wsX5_alike rm5_alike (va_Pc [.ref h, .int x1, .int x2] (PE D [(cA, .int)] sz (WM0 h ad cA) (WM h ad cA v_pageLength v_page v_roads v_lengths v_signs v_wordsRead v_disc v_forms v_formA v_formB v_formC v_nextOf v_cycleOf v_cycles v_firstOf v_newLength v_newSigns v_mayRun v_size v_at v_otherSize v_other v_tableA v_tableB v_tableC v_tableD v_a v_b v_c v_grade v_flowA v_flowB v_flowC v_seedNow v_h))) (va_Qi (fun (x : Int32) (_ : Unit) => x = res.1) (fun _ t => va_P D vwCl (WM h ad cA v_pageLength v_page v_roads v_lengths v_signs v_wordsRead v_disc v_forms v_formA v_formB v_formC v_nextOf v_cycleOf v_cycles v_firstOf v_newLength v_newSigns v_mayRun res.2.1 res.2.2.1 res.2.2.2.1 res.2.2.2.2 v_tableA v_tableB v_tableC v_tableD v_a v_b v_c v_grade v_flowA v_flowB v_flowC v_seedNow v_h) t.heap) (va_A (WM0 h ad cA) sz)) 0 0 (va_A (WM0 h ad cA) sz) := by
  refine E_in (cc := cX5_alike) (maxL := 3) (ret := (some .int)) (by decide) rfl (Nat.le_of_ble_eq_true rfl) ?_
  intro p e s m args below meth c ls Q hQ C hr hlk hK hN hD hA I hl
  have C : CallFix p m c cX5_alike 3 s args wsX5_alike RX5 := C
  have hx := C.1
  have hb := C.2.1
  have hl : lv_has ls 3 [(0, .ref h), (1, .int x1), (2, .int x2)] := hl
  unfold P5_alike at hrun
  refine lv_aload_n hx hb dX5_alike_0 rfl (lv_at hl 0 rfl) ?_
  refine lv_iload_n hx hb dX5_alike_1 rfl (lv_at hl 1 rfl) ?_
  obtain ⟨r1, h_r1, hrun⟩ := p_bnd hrun
  refine jVS_i (rest := []) C (c5_isRoad h_r1) gX5_alike_X5_isRoad hd5_isRoad hK hN I.1 rcM rfl ⟨rfl, rfl⟩ ⟨Nat.le_of_ble_eq_true rfl, Nat.le_of_ble_eq_true rfl⟩ rfl hl.1 rfl (Nat.le_of_ble_eq_true rfl) ⟨Nat.le_of_ble_eq_true rfl, Nat.le_of_ble_eq_true rfl⟩ dX5_alike_2 ?_
  refine lv_if_eq (tgt := 25) hx hb dX5_alike_5 rfl (fun c2 => ?_) (fun c2 => ?_)
  · have hrun := p_pos hrun c2
    refine lv_ldc (v := (-2000000101)) hx hb C.2.2.2.1 (C.2.2.2.2 _ k5_alike_145) dX5_alike_25 ?_
    cases hrun
    exact rE_i C hr hlk hQ I (nbi _) rfl dX5_alike_27
  · have hrun := p_neg hrun c2
    refine lv_aload_n hx hb dX5_alike_8 rfl (lv_at hl 0 rfl) ?_
    refine lv_iload_n hx hb dX5_alike_9 rfl (lv_at hl 2 rfl) ?_
    obtain ⟨r3, h_r3, hrun⟩ := p_bnd hrun
    refine jVS_i (rest := []) C (c5_isRoad h_r3) gX5_alike_X5_isRoad hd5_isRoad hK hN I.1 rcM rfl ⟨rfl, rfl⟩ ⟨Nat.le_of_ble_eq_true rfl, Nat.le_of_ble_eq_true rfl⟩ rfl hl.1 rfl (Nat.le_of_ble_eq_true rfl) ⟨Nat.le_of_ble_eq_true rfl, Nat.le_of_ble_eq_true rfl⟩ dX5_alike_10 ?_
    refine lv_if_eq (tgt := 25) hx hb dX5_alike_13 rfl (fun c4 => ?_) (fun c4 => ?_)
    · have hrun := p_pos hrun c4
      refine lv_ldc (v := (-2000000101)) hx hb C.2.2.2.1 (C.2.2.2.2 _ k5_alike_145) dX5_alike_25 ?_
      cases hrun
      exact rE_i C hr hlk hQ I (nbi _) rfl dX5_alike_27
    · have hrun := p_neg hrun c4
      refine lv_aload_n hx hb dX5_alike_16 rfl (lv_at hl 0 rfl) ?_
      refine lv_iload_n hx hb dX5_alike_17 rfl (lv_at hl 1 rfl) ?_
      refine lv_iload_n hx hb dX5_alike_18 rfl (lv_at hl 2 rfl) ?_
      obtain ⟨r5, h_r5, hrun⟩ := p_bnd hrun
      refine jVE_i (rest := []) C (c5_alikeNow h_r5) gX5_alike_X5_alikeNow hd5_alikeNow hK hN hD hA I rcM rfl ⟨rfl, rfl⟩ ⟨Nat.le_of_ble_eq_true rfl, Nat.le_of_ble_eq_true rfl⟩ rfl hl.1 rfl (Nat.le_of_ble_eq_true rfl) ⟨Nat.le_of_ble_eq_true rfl, Nat.le_of_ble_eq_true rfl⟩ dX5_alike_19 (fun H locs I => ?_)
      refine lv_goto (tgt := 27) hx hb dX5_alike_22 rfl ?_
      cases hrun
      exact rE_i C hr hlk hQ I (nbi _) rfl dX5_alike_27

end M53
