section M511
variable {l : Launch} {D : va_G} {sz : Nat}
variable {h : Nat} {ad : Nat → Nat} {cA : ClassId}
variable {v_pageLength v_roads v_wordsRead v_disc v_forms v_cycles v_newLength v_mayRun v_size v_otherSize v_tableA v_tableB v_tableC v_tableD v_a v_b v_c v_grade v_flowA v_flowB v_flowC : Int32}
variable {v_seedNow v_h : Int64}
variable {v_page v_lengths v_signs v_formA v_formB v_formC v_nextOf v_cycleOf v_firstOf v_newSigns v_at v_other : Nat → Int32}
abbrev rm5_flow : Room := { frames := 3, cells := 0, slots := 0, locals := 64 }
theorem fl5_flow_209 : Cond.fieldLink RX5 209 "RiverWordsModel" "disc" "I" ∈ wsX5_flow := by decide +kernel
theorem fl5_flow_257 : Cond.fieldLink RX5 257 "RiverWordsModel" "flowA" "I" ∈ wsX5_flow := by decide +kernel
theorem fl5_flow_260 : Cond.fieldLink RX5 260 "RiverWordsModel" "flowB" "I" ∈ wsX5_flow := by decide +kernel
theorem fl5_flow_263 : Cond.fieldLink RX5 263 "RiverWordsModel" "flowC" "I" ∈ wsX5_flow := by decide +kernel
theorem k5_flow_54 : Cond.constant RX5 54 (-2000000102) ∈ wsX5_flow := by decide +kernel
theorem k5_flow_78 : Cond.constant RX5 78 (-2000000103) ∈ wsX5_flow := by decide +kernel
theorem inm5_flow : ∀ w ∈ wsX50, w ∈ wsX5_flow := fun w h => by unfold wsX5_flow; first | exact List.mem_cons_of_mem _ (List.mem_append_right _ h) | exact List.mem_cons_of_mem _ h
theorem hd5_flow : okD yX5_flow 4 := by decide +kernel
set_option maxHeartbeats 8000000 in
set_option maxRecDepth 100000 in
theorem c5_flow {x1 : Int32} {x2 : Int32} {x3 : Int32} {x4 : Int32} {res : Int32 × Int32 × Int32 × Int32} (hrun : P5_flow v_disc v_forms v_formA v_formB v_formC v_flowA v_flowB v_flowC x1 x2 x3 x4 = some res) : Met l yX5_flow wsX5_flow rm5_flow (va_Pc [.ref h, .int x1, .int x2, .int x3, .int x4] (PE D [(cA, .int)] sz (WM0 h ad cA) (WM h ad cA v_pageLength v_page v_roads v_lengths v_signs v_wordsRead v_disc v_forms v_formA v_formB v_formC v_nextOf v_cycleOf v_cycles v_firstOf v_newLength v_newSigns v_mayRun v_size v_at v_otherSize v_other v_tableA v_tableB v_tableC v_tableD v_a v_b v_c v_grade v_flowA v_flowB v_flowC v_seedNow v_h))) (va_Qi (fun (x : Int32) (_ : Unit) => x = res.1) (fun _ t => va_P D vwCl (WM h ad cA v_pageLength v_page v_roads v_lengths v_signs v_wordsRead v_disc v_forms v_formA v_formB v_formC v_nextOf v_cycleOf v_cycles v_firstOf v_newLength v_newSigns v_mayRun v_size v_at v_otherSize v_other v_tableA v_tableB v_tableC v_tableD v_a v_b v_c v_grade res.2.1 res.2.2.1 res.2.2.2 v_seedNow v_h) t.heap) (va_A (WM0 h ad cA) sz)) 0 0 (va_A (WM0 h ad cA) sz) := by
  refine E_in (cc := cX5_flow) (maxL := 6) (ret := (some .int)) (by decide) rfl (Nat.le_of_ble_eq_true rfl) ?_
  intro p e s m args below meth c ls Q hQ C hr hlk hK hN hD hA I hl
  have C : CallFix p m c cX5_flow 6 s args wsX5_flow RX5 := C
  have hx := C.1
  have hb := C.2.1
  have hl : lv_has ls 6 [(0, .ref h), (1, .int x1), (2, .int x2), (3, .int x3), (4, .int x4)] := hl
  unfold P5_flow at hrun
  refine lv_aload_n hx hb dX5_flow_0 rfl (lv_at hl 0 rfl) ?_
  obtain ⟨r1, h_r1, hrun⟩ := p_bnd hrun
  refine jVS_i (rest := []) C (c5_isRiver h_r1) gX5_flow_X5_isRiver hd5_isRiver hK hN I.1 rcM rfl ⟨rfl, rfl⟩ ⟨Nat.le_of_ble_eq_true rfl, Nat.le_of_ble_eq_true rfl⟩ rfl hl.1 rfl (Nat.le_of_ble_eq_true rfl) ⟨Nat.le_of_ble_eq_true rfl, Nat.le_of_ble_eq_true rfl⟩ dX5_flow_1 ?_
  refine lv_if_ne (tgt := 10) hx hb dX5_flow_4 rfl (fun c2 => ?_) (fun c2 => ?_)
  · have hrun := p_neg hrun c2
    refine lv_iload_n hx hb dX5_flow_10 rfl (lv_at hl 1 rfl) ?_
    refine lv_sipush (v := (-999)) hx hb dX5_flow_11 rfl ?_
    refine lv_sipush (v := 999) hx hb dX5_flow_14 rfl ?_
    obtain ⟨r3, h_r3, hrun⟩ := p_bnd hrun
    refine jSS_i (rest := []) C (c5_within h_r3) gX5_flow_X5_within hd5_within rfl ⟨rfl, rfl⟩ ⟨Nat.le_of_ble_eq_true rfl, Nat.le_of_ble_eq_true rfl⟩ rfl hl.1 rfl (Nat.le_of_ble_eq_true rfl) ⟨Nat.le_of_ble_eq_true rfl, Nat.le_of_ble_eq_true rfl⟩ dX5_flow_17 ?_
    refine lv_if_eq (tgt := 53) hx hb dX5_flow_20 rfl (fun c4 => ?_) (fun c4 => ?_)
    · have hrun := p_pos hrun c4
      refine lv_iconst (v := 0) hx hb dX5_flow_53 rfl ?_
      refine lv_istore (lv' := [(5, .int 0), (0, .ref h), (1, .int x1), (2, .int x2), (3, .int x3), (4, .int x4)]) hx hb dX5_flow_54 hl (by decide) rfl (fun ls hl => ?_)
      refine lv_iload hx hb dX5_flow_56 (lv_at hl 0 rfl) ?_
      refine lv_if_eq (tgt := 87) hx hb dX5_flow_58 rfl (fun _ => ?_) (fun c => absurd (by decide) c)
      refine lv_ldc (v := (-2000000102)) hx hb C.2.2.2.1 (C.2.2.2.2 _ k5_flow_54) dX5_flow_87 ?_
      cases hrun
      exact rE_i C hr hlk hQ I (nbi _) rfl dX5_flow_89
    · have hrun := p_neg hrun c4
      refine lv_iload_n hx hb dX5_flow_23 rfl (lv_at hl 2 rfl) ?_
      refine lv_sipush (v := (-999)) hx hb dX5_flow_24 rfl ?_
      refine lv_sipush (v := 999) hx hb dX5_flow_27 rfl ?_
      obtain ⟨r5, h_r5, hrun⟩ := p_bnd hrun
      refine jSS_i (rest := []) C (c5_within h_r5) gX5_flow_X5_within hd5_within rfl ⟨rfl, rfl⟩ ⟨Nat.le_of_ble_eq_true rfl, Nat.le_of_ble_eq_true rfl⟩ rfl hl.1 rfl (Nat.le_of_ble_eq_true rfl) ⟨Nat.le_of_ble_eq_true rfl, Nat.le_of_ble_eq_true rfl⟩ dX5_flow_30 ?_
      refine lv_if_eq (tgt := 53) hx hb dX5_flow_33 rfl (fun c6 => ?_) (fun c6 => ?_)
      · have hrun := p_pos hrun c6
        refine lv_iconst (v := 0) hx hb dX5_flow_53 rfl ?_
        refine lv_istore (lv' := [(5, .int 0), (0, .ref h), (1, .int x1), (2, .int x2), (3, .int x3), (4, .int x4)]) hx hb dX5_flow_54 hl (by decide) rfl (fun ls hl => ?_)
        refine lv_iload hx hb dX5_flow_56 (lv_at hl 0 rfl) ?_
        refine lv_if_eq (tgt := 87) hx hb dX5_flow_58 rfl (fun _ => ?_) (fun c => absurd (by decide) c)
        refine lv_ldc (v := (-2000000102)) hx hb C.2.2.2.1 (C.2.2.2.2 _ k5_flow_54) dX5_flow_87 ?_
        cases hrun
        exact rE_i C hr hlk hQ I (nbi _) rfl dX5_flow_89
      · have hrun := p_neg hrun c6
        refine lv_iload_n hx hb dX5_flow_36 rfl (lv_at hl 3 rfl) ?_
        refine lv_sipush (v := (-999)) hx hb dX5_flow_37 rfl ?_
        refine lv_sipush (v := 999) hx hb dX5_flow_40 rfl ?_
        obtain ⟨r7, h_r7, hrun⟩ := p_bnd hrun
        refine jSS_i (rest := []) C (c5_within h_r7) gX5_flow_X5_within hd5_within rfl ⟨rfl, rfl⟩ ⟨Nat.le_of_ble_eq_true rfl, Nat.le_of_ble_eq_true rfl⟩ rfl hl.1 rfl (Nat.le_of_ble_eq_true rfl) ⟨Nat.le_of_ble_eq_true rfl, Nat.le_of_ble_eq_true rfl⟩ dX5_flow_43 ?_
        refine lv_if_eq (tgt := 53) hx hb dX5_flow_46 rfl (fun c8 => ?_) (fun c8 => ?_)
        · have hrun := p_pos hrun c8
          refine lv_iconst (v := 0) hx hb dX5_flow_53 rfl ?_
          refine lv_istore (lv' := [(5, .int 0), (0, .ref h), (1, .int x1), (2, .int x2), (3, .int x3), (4, .int x4)]) hx hb dX5_flow_54 hl (by decide) rfl (fun ls hl => ?_)
          refine lv_iload hx hb dX5_flow_56 (lv_at hl 0 rfl) ?_
          refine lv_if_eq (tgt := 87) hx hb dX5_flow_58 rfl (fun _ => ?_) (fun c => absurd (by decide) c)
          refine lv_ldc (v := (-2000000102)) hx hb C.2.2.2.1 (C.2.2.2.2 _ k5_flow_54) dX5_flow_87 ?_
          cases hrun
          exact rE_i C hr hlk hQ I (nbi _) rfl dX5_flow_89
        · have hrun := p_neg hrun c8
          refine lv_iconst (v := 1) hx hb dX5_flow_49 rfl ?_
          refine lv_goto (tgt := 54) hx hb dX5_flow_50 rfl ?_
          refine lv_istore (lv' := [(5, .int 1), (0, .ref h), (1, .int x1), (2, .int x2), (3, .int x3), (4, .int x4)]) hx hb dX5_flow_54 hl (by decide) rfl (fun ls hl => ?_)
          refine lv_iload hx hb dX5_flow_56 (lv_at hl 0 rfl) ?_
          refine lv_if_eq (tgt := 87) hx hb dX5_flow_58 rfl (fun c => absurd c (by decide)) (fun _ => ?_)
          refine lv_iload_n hx hb dX5_flow_61 rfl (lv_at hl 2 rfl) ?_
          refine lv_iload_n hx hb dX5_flow_62 rfl (lv_at hl 3 rfl) ?_
          refine lv_iload_n hx hb dX5_flow_63 rfl (lv_at hl 4 rfl) ?_
          obtain ⟨r9, h_r9, hrun⟩ := p_bnd hrun
          refine jSS_i (rest := []) C (c5_discOf h_r9) gX5_flow_X5_discOf hd5_discOf rfl ⟨rfl, rfl⟩ ⟨Nat.le_of_ble_eq_true rfl, Nat.le_of_ble_eq_true rfl⟩ rfl hl.1 rfl (Nat.le_of_ble_eq_true rfl) ⟨Nat.le_of_ble_eq_true rfl, Nat.le_of_ble_eq_true rfl⟩ dX5_flow_64 ?_
          refine lv_aload_n hx hb dX5_flow_67 rfl (lv_at hl 1 rfl) ?_
          refine gM_disc C inm5_flow hK I.1 fl5_flow_209 dX5_flow_68 ?_
          refine lv_icmp_ne (tgt := 87) hx hb dX5_flow_71 rfl (fun c10 => ?_) (fun c10 => ?_)
          · have hrun := p_neg hrun c10
            refine lv_ldc (v := (-2000000102)) hx hb C.2.2.2.1 (C.2.2.2.2 _ k5_flow_54) dX5_flow_87 ?_
            cases hrun
            exact rE_i C hr hlk hQ I (nbi _) rfl dX5_flow_89
          · have hrun := p_pos hrun c10
            refine lv_iload_n hx hb dX5_flow_74 rfl (lv_at hl 2 rfl) ?_
            refine lv_iload_n hx hb dX5_flow_75 rfl (lv_at hl 3 rfl) ?_
            obtain ⟨r11, h_r11, hrun⟩ := p_bnd hrun
            refine jSS_i (rest := []) C (c5_common h_r11) gX5_flow_X5_common hd5_common rfl ⟨rfl, rfl⟩ ⟨Nat.le_of_ble_eq_true rfl, Nat.le_of_ble_eq_true rfl⟩ rfl hl.1 rfl (Nat.le_of_ble_eq_true rfl) ⟨Nat.le_of_ble_eq_true rfl, Nat.le_of_ble_eq_true rfl⟩ dX5_flow_76 ?_
            refine lv_iload_n hx hb dX5_flow_79 rfl (lv_at hl 4 rfl) ?_
            obtain ⟨r12, h_r12, hrun⟩ := p_bnd hrun
            refine jSS_i (rest := []) C (c5_common h_r12) gX5_flow_X5_common hd5_common rfl ⟨rfl, rfl⟩ ⟨Nat.le_of_ble_eq_true rfl, Nat.le_of_ble_eq_true rfl⟩ rfl hl.1 rfl (Nat.le_of_ble_eq_true rfl) ⟨Nat.le_of_ble_eq_true rfl, Nat.le_of_ble_eq_true rfl⟩ dX5_flow_80 ?_
            refine lv_iconst (v := 1) hx hb dX5_flow_83 rfl ?_
            refine lv_icmp_le (tgt := 90) hx hb dX5_flow_84 rfl (fun c13 => ?_) (fun c13 => ?_)
            · have hrun := p_pos hrun c13
              refine lv_aload_n hx hb dX5_flow_90 rfl (lv_at hl 1 rfl) ?_
              refine lv_iload_n hx hb dX5_flow_91 rfl (lv_at hl 2 rfl) ?_
              refine pM_flowA C inm5_flow hK hD I fl5_flow_257 dX5_flow_92 (fun H locs I => ?_)
              refine lv_aload_n hx hb dX5_flow_95 rfl (lv_at hl 1 rfl) ?_
              refine lv_iload_n hx hb dX5_flow_96 rfl (lv_at hl 3 rfl) ?_
              refine pM_flowB C inm5_flow hK hD I fl5_flow_260 dX5_flow_97 (fun H locs I => ?_)
              refine lv_aload_n hx hb dX5_flow_100 rfl (lv_at hl 1 rfl) ?_
              refine lv_iload_n hx hb dX5_flow_101 rfl (lv_at hl 4 rfl) ?_
              refine pM_flowC C inm5_flow hK hD I fl5_flow_263 dX5_flow_102 (fun H locs I => ?_)
              refine lv_aload_n hx hb dX5_flow_105 rfl (lv_at hl 1 rfl) ?_
              refine lv_iload hx hb dX5_flow_106 (lv_at hl 5 rfl) ?_
              obtain ⟨r14, h_r14, hrun⟩ := p_bnd hrun
              refine jVE_i (rest := []) C (c5_flowNow h_r14) gX5_flow_X5_flowNow hd5_flowNow hK hN hD hA I rcM rfl ⟨rfl, rfl⟩ ⟨Nat.le_of_ble_eq_true rfl, Nat.le_of_ble_eq_true rfl⟩ rfl hl.1 rfl (Nat.le_of_ble_eq_true rfl) ⟨Nat.le_of_ble_eq_true rfl, Nat.le_of_ble_eq_true rfl⟩ dX5_flow_108 (fun H locs I => ?_)
              cases hrun
              exact rE_i C hr hlk hQ I (nbi _) rfl dX5_flow_111
            · have hrun := p_neg hrun c13
              refine lv_ldc (v := (-2000000102)) hx hb C.2.2.2.1 (C.2.2.2.2 _ k5_flow_54) dX5_flow_87 ?_
              cases hrun
              exact rE_i C hr hlk hQ I (nbi _) rfl dX5_flow_89
  · have hrun := p_pos hrun c2
    refine lv_ldc (v := (-2000000103)) hx hb C.2.2.2.1 (C.2.2.2.2 _ k5_flow_78) dX5_flow_7 ?_
    cases hrun
    exact rE_i C hr hlk hQ I (nbi _) rfl dX5_flow_9

abbrev rm5_lay : Room := { frames := 2, cells := 0, slots := 0, locals := 43 }
theorem fl5_lay_37 : Cond.fieldLink RX5 37 "RiverWordsModel" "newSigns" "[I" ∈ wsX5_lay := by decide +kernel
theorem fl5_lay_60 : Cond.fieldLink RX5 60 "RiverWordsModel" "newLength" "I" ∈ wsX5_lay := by decide +kernel
theorem fl5_lay_75 : Cond.fieldLink RX5 75 "RiverWordsModel" "roads" "I" ∈ wsX5_lay := by decide +kernel
theorem k5_lay_59 : Cond.constant RX5 59 (-2000000104) ∈ wsX5_lay := by decide +kernel
theorem k5_lay_78 : Cond.constant RX5 78 (-2000000103) ∈ wsX5_lay := by decide +kernel
theorem k5_lay_145 : Cond.constant RX5 145 (-2000000101) ∈ wsX5_lay := by decide +kernel
theorem inm5_lay : ∀ w ∈ wsX50, w ∈ wsX5_lay := fun w h => by unfold wsX5_lay; first | exact List.mem_cons_of_mem _ (List.mem_append_right _ h) | exact List.mem_cons_of_mem _ h
theorem hd5_lay : okD yX5_lay 1 := by decide +kernel
set_option maxHeartbeats 8000000 in
set_option maxRecDepth 100000 in
theorem c5_lay {x1 : Int32} {res : Int32 × Int32 × (Nat → Int32) × (Nat → Int32) × Int32 × (Nat → Int32)} (hrun : P5_lay v_roads v_lengths v_signs v_forms v_formA v_formB v_formC v_nextOf v_cycleOf v_cycles v_firstOf v_newLength v_newSigns x1 = some res) : Met l yX5_lay wsX5_lay rm5_lay (va_Pc [.ref h, .int x1] (PE D [(cA, .int)] sz (WM0 h ad cA) (WM h ad cA v_pageLength v_page v_roads v_lengths v_signs v_wordsRead v_disc v_forms v_formA v_formB v_formC v_nextOf v_cycleOf v_cycles v_firstOf v_newLength v_newSigns v_mayRun v_size v_at v_otherSize v_other v_tableA v_tableB v_tableC v_tableD v_a v_b v_c v_grade v_flowA v_flowB v_flowC v_seedNow v_h))) (va_Qi (fun (x : Int32) (_ : Unit) => x = res.1) (fun _ t => va_P D vwCl (WM h ad cA v_pageLength v_page res.2.1 res.2.2.1 res.2.2.2.1 v_wordsRead v_disc v_forms v_formA v_formB v_formC v_nextOf v_cycleOf v_cycles v_firstOf res.2.2.2.2.1 res.2.2.2.2.2 v_mayRun v_size v_at v_otherSize v_other v_tableA v_tableB v_tableC v_tableD v_a v_b v_c v_grade v_flowA v_flowB v_flowC v_seedNow v_h) t.heap) (va_A (WM0 h ad cA) sz)) 0 0 (va_A (WM0 h ad cA) sz) := by
  refine E_in (cc := cX5_lay) (maxL := 4) (ret := (some .int)) (by decide) rfl (Nat.le_of_ble_eq_true rfl) ?_
  intro p e s m args below meth c ls Q hQ C hr hlk hK hN hD hA I hl
  have C : CallFix p m c cX5_lay 4 s args wsX5_lay RX5 := C
  have hx := C.1
  have hb := C.2.1
  have hl : lv_has ls 4 [(0, .ref h), (1, .int x1)] := hl
  have loop_45 : ∀ (v_roads : Int32) (v_lengths : Nat → Int32) (v_signs : Nat → Int32) (v_newLength : Int32) (x2 : Int32) (n : Nat) (v_newSigns : Nat → Int32) (x3 : Int32) (out : (Nat → Int32)), P5_lay_45 v_formA v_formB v_formC v_nextOf v_firstOf x1 x2 n v_newSigns x3 = some out → (∀ (H : Heap) (locs : List Loc) (ls : Array Slot), IM D (va_A (WM0 h ad cA) sz) s.heap H locs (WM h ad cA v_pageLength v_page v_roads v_lengths v_signs v_wordsRead v_disc v_forms v_formA v_formB v_formC v_nextOf v_cycleOf v_cycles v_firstOf v_newLength out v_mayRun v_size v_at v_otherSize v_other v_tableA v_tableB v_tableC v_tableD v_a v_b v_c v_grade v_flowA v_flowB v_flowC v_seedNow v_h) → lv_has ls 4 [(0, .ref h)] → W p l e rm5_lay s m args below meth c H locs 0 0 Q (F0 m 80 ls [])) → ∀ (H : Heap) (locs : List Loc) (ls : Array Slot), IM D (va_A (WM0 h ad cA) sz) s.heap H locs (WM h ad cA v_pageLength v_page v_roads v_lengths v_signs v_wordsRead v_disc v_forms v_formA v_formB v_formC v_nextOf v_cycleOf v_cycles v_firstOf v_newLength v_newSigns v_mayRun v_size v_at v_otherSize v_other v_tableA v_tableB v_tableC v_tableD v_a v_b v_c v_grade v_flowA v_flowB v_flowC v_seedNow v_h) → lv_has ls 4 [(0, .ref h), (1, .int x1), (2, .int x2), (3, .int x3)] → W p l e rm5_lay s m args below meth c H locs 0 0 Q (F0 m 45 ls []) := by
    intro v_roads v_lengths v_signs v_newLength x2 n
    induction n with
    | zero =>
      intro v_newSigns x3 out hrun K H locs ls I hl
      cases hrun
    | succ n ih =>
      intro v_newSigns x3 out hrun K H locs ls I hl
      rw [P5_lay_45] at hrun
      refine lv_iload_n hx hb dX5_lay_45 rfl (lv_at hl 3 rfl) ?_
      refine lv_iload_n hx hb dX5_lay_46 rfl (lv_at hl 2 rfl) ?_
      refine lv_icmp_ge (tgt := 80) hx hb dX5_lay_47 rfl (fun c6 => ?_) (fun c6 => ?_)
      · have hrun := p_pos hrun c6
        cases hrun
        exact K _ _ _ I (lv_sub hl [0] rfl)
      · have hrun := p_neg hrun c6
        refine lv_aload_n hx hb dX5_lay_50 rfl (lv_at hl 0 rfl) ?_
        refine gM_newSigns C inm5_lay hK I.1 fl5_lay_37 dX5_lay_51 ?_
        refine lv_iload_n hx hb dX5_lay_54 rfl (lv_at hl 3 rfl) ?_
        refine lv_aload_n hx hb dX5_lay_55 rfl (lv_at hl 0 rfl) ?_
        refine lv_aload_n hx hb dX5_lay_56 rfl (lv_at hl 0 rfl) ?_
        refine lv_iload_n hx hb dX5_lay_57 rfl (lv_at hl 1 rfl) ?_
        refine lv_iload_n hx hb dX5_lay_58 rfl (lv_at hl 3 rfl) ?_
        obtain ⟨r7, h_r7, hrun⟩ := p_bnd hrun
        refine jVS_i (rest := [.ref h, .int x3, .ref (ad 9)]) C (c5_formAt h_r7) gX5_lay_X5_formAt hd5_formAt hK hN I.1 rcM rfl ⟨rfl, rfl⟩ ⟨Nat.le_of_ble_eq_true rfl, Nat.le_of_ble_eq_true rfl⟩ rfl hl.1 rfl (Nat.le_of_ble_eq_true rfl) ⟨Nat.le_of_ble_eq_true rfl, Nat.le_of_ble_eq_true rfl⟩ dX5_lay_59 ?_
        obtain ⟨r8, h_r8, hrun⟩ := p_bnd hrun
        refine jVS_i (rest := [.int x3, .ref (ad 9)]) C (c5_isLeft h_r8) gX5_lay_X5_isLeft hd5_isLeft hK hN I.1 rcM rfl ⟨rfl, rfl⟩ ⟨Nat.le_of_ble_eq_true rfl, Nat.le_of_ble_eq_true rfl⟩ rfl hl.1 rfl (Nat.le_of_ble_eq_true rfl) ⟨Nat.le_of_ble_eq_true rfl, Nat.le_of_ble_eq_true rfl⟩ dX5_lay_62 ?_
        refine lv_if_eq (tgt := 72) hx hb dX5_lay_65 rfl (fun c9 => ?_) (fun c9 => ?_)
        · have hrun := p_pos hrun c9
          refine lv_iconst (v := 1) hx hb dX5_lay_72 rfl ?_
          obtain ⟨b10, hrun⟩ := p_chk hrun
          refine stM_newSigns C hK hD I b10 dX5_lay_73 (fun H locs I => ?_)
          refine lv_iinc (v := x3 + 1) (lv' := [(3, .int (x3 + 1)), (0, .ref h), (1, .int x1), (2, .int x2)]) hx hb dX5_lay_74 hl (k := 3) rfl rfl (by decide) rfl (fun ls hl => ?_)
          refine lv_goto (tgt := 45) hx hb dX5_lay_77 rfl ?_
          exact ih (upd v_newSigns (Int32.toNatClampNeg x3) 1) (x3 + 1) out hrun K _ _ _ I (lv_sub hl [1, 2, 3, 0] rfl)
        · have hrun := p_neg hrun c9
          refine lv_iconst (v := 0) hx hb dX5_lay_68 rfl ?_
          refine lv_goto (tgt := 73) hx hb dX5_lay_69 rfl ?_
          obtain ⟨b11, hrun⟩ := p_chk hrun
          refine stM_newSigns C hK hD I b11 dX5_lay_73 (fun H locs I => ?_)
          refine lv_iinc (v := x3 + 1) (lv' := [(3, .int (x3 + 1)), (0, .ref h), (1, .int x1), (2, .int x2)]) hx hb dX5_lay_74 hl (k := 3) rfl rfl (by decide) rfl (fun ls hl => ?_)
          refine lv_goto (tgt := 45) hx hb dX5_lay_77 rfl ?_
          exact ih (upd v_newSigns (Int32.toNatClampNeg x3) 0) (x3 + 1) out hrun K _ _ _ I (lv_sub hl [1, 2, 3, 0] rfl)
  unfold P5_lay at hrun
  refine lv_aload_n hx hb dX5_lay_0 rfl (lv_at hl 0 rfl) ?_
  refine lv_iload_n hx hb dX5_lay_1 rfl (lv_at hl 1 rfl) ?_
  obtain ⟨r1, h_r1, hrun⟩ := p_bnd hrun
  refine jVS_i (rest := []) C (c5_isCycle h_r1) gX5_lay_X5_isCycle hd5_isCycle hK hN I.1 rcM rfl ⟨rfl, rfl⟩ ⟨Nat.le_of_ble_eq_true rfl, Nat.le_of_ble_eq_true rfl⟩ rfl hl.1 rfl (Nat.le_of_ble_eq_true rfl) ⟨Nat.le_of_ble_eq_true rfl, Nat.le_of_ble_eq_true rfl⟩ dX5_lay_2 ?_
  refine lv_if_ne (tgt := 11) hx hb dX5_lay_5 rfl (fun c2 => ?_) (fun c2 => ?_)
  · have hrun := p_neg hrun c2
    refine lv_aload_n hx hb dX5_lay_11 rfl (lv_at hl 0 rfl) ?_
    refine lv_iload_n hx hb dX5_lay_12 rfl (lv_at hl 1 rfl) ?_
    obtain ⟨r3, h_r3, hrun⟩ := p_bnd hrun
    refine jVS_i (rest := []) C (c5_sizeOf h_r3) gX5_lay_X5_sizeOf hd5_sizeOf hK hN I.1 rcM rfl ⟨rfl, rfl⟩ ⟨Nat.le_of_ble_eq_true rfl, Nat.le_of_ble_eq_true rfl⟩ rfl hl.1 rfl (Nat.le_of_ble_eq_true rfl) ⟨Nat.le_of_ble_eq_true rfl, Nat.le_of_ble_eq_true rfl⟩ dX5_lay_13 ?_
    refine lv_istore_n (lv' := [(2, .int r3), (0, .ref h), (1, .int x1)]) hx hb dX5_lay_16 rfl hl (by decide) rfl (fun ls hl => ?_)
    refine lv_iload_n hx hb dX5_lay_17 rfl (lv_at hl 0 rfl) ?_
    refine lv_bipush (v := 20) hx hb dX5_lay_18 rfl ?_
    refine lv_icmp_le (tgt := 26) hx hb dX5_lay_20 rfl (fun c4 => ?_) (fun c4 => ?_)
    · have hrun := p_pos hrun c4
      refine lv_aload_n hx hb dX5_lay_26 rfl (lv_at hl 1 rfl) ?_
      refine gM_roads C inm5_lay hK I.1 fl5_lay_75 dX5_lay_27 ?_
      refine lv_bipush (v := 6) hx hb dX5_lay_30 rfl ?_
      refine lv_icmp_ne (tgt := 38) hx hb dX5_lay_32 rfl (fun c5 => ?_) (fun c5 => ?_)
      · have hrun := p_neg hrun c5
        refine lv_aload_n hx hb dX5_lay_38 rfl (lv_at hl 1 rfl) ?_
        refine lv_iload_n hx hb dX5_lay_39 rfl (lv_at hl 0 rfl) ?_
        refine pM_newLength C inm5_lay hK hD I fl5_lay_60 dX5_lay_40 (fun H locs I => ?_)
        refine lv_iconst (v := 0) hx hb dX5_lay_43 rfl ?_
        refine lv_istore_n (lv' := [(3, .int 0), (2, .int r3), (0, .ref h), (1, .int x1)]) hx hb dX5_lay_44 rfl hl (by decide) rfl (fun ls hl => ?_)
        obtain ⟨o12, h_o12, hrun⟩ := p_bnd hrun
        refine loop_45 v_roads v_lengths v_signs r3 r3 FU v_newSigns 0 o12 h_o12 (fun H locs ls I hl => ?_) _ _ _ I (lv_sub hl [2, 3, 1, 0] rfl)
        refine lv_aload_n hx hb dX5_lay_80 rfl (lv_at hl 0 rfl) ?_
        obtain ⟨r13, h_r13, hrun⟩ := p_bnd hrun
        refine jVE_i (rest := []) C (c5_keepNew h_r13) gX5_lay_X5_keepNew hd5_keepNew hK hN hD hA I rcM rfl ⟨rfl, rfl⟩ ⟨Nat.le_of_ble_eq_true rfl, Nat.le_of_ble_eq_true rfl⟩ rfl hl.1 rfl (Nat.le_of_ble_eq_true rfl) ⟨Nat.le_of_ble_eq_true rfl, Nat.le_of_ble_eq_true rfl⟩ dX5_lay_81 (fun H locs I => ?_)
        cases hrun
        exact rE_i C hr hlk hQ I (nbi _) rfl dX5_lay_84
      · have hrun := p_pos hrun c5
        refine lv_ldc (v := (-2000000104)) hx hb C.2.2.2.1 (C.2.2.2.2 _ k5_lay_59) dX5_lay_35 ?_
        cases hrun
        exact rE_i C hr hlk hQ I (nbi _) rfl dX5_lay_37
    · have hrun := p_neg hrun c4
      refine lv_ldc (v := (-2000000103)) hx hb C.2.2.2.1 (C.2.2.2.2 _ k5_lay_78) dX5_lay_23 ?_
      cases hrun
      exact rE_i C hr hlk hQ I (nbi _) rfl dX5_lay_25
  · have hrun := p_pos hrun c2
    refine lv_ldc (v := (-2000000101)) hx hb C.2.2.2.1 (C.2.2.2.2 _ k5_lay_145) dX5_lay_8 ?_
    cases hrun
    exact rE_i C hr hlk hQ I (nbi _) rfl dX5_lay_10

abbrev rm5_whereNow : Room := { frames := 3, cells := 0, slots := 0, locals := 65 }
theorem fl5_whereNow_161 : Cond.fieldLink RX5 161 "RiverWordsModel" "a" "I" ∈ wsX5_whereNow := by decide +kernel
theorem fl5_whereNow_164 : Cond.fieldLink RX5 164 "RiverWordsModel" "b" "I" ∈ wsX5_whereNow := by decide +kernel
theorem fl5_whereNow_167 : Cond.fieldLink RX5 167 "RiverWordsModel" "c" "I" ∈ wsX5_whereNow := by decide +kernel
theorem fl5_whereNow_209 : Cond.fieldLink RX5 209 "RiverWordsModel" "disc" "I" ∈ wsX5_whereNow := by decide +kernel
theorem k5_whereNow_106 : Cond.constant RX5 106 (-2000000001) ∈ wsX5_whereNow := by decide +kernel
theorem inm5_whereNow : ∀ w ∈ wsX50, w ∈ wsX5_whereNow := fun w h => by unfold wsX5_whereNow; first | exact List.mem_cons_of_mem _ (List.mem_append_right _ h) | exact List.mem_cons_of_mem _ h
theorem hd5_whereNow : okD yX5_whereNow 1 := by decide +kernel
set_option maxHeartbeats 8000000 in
set_option maxRecDepth 100000 in
theorem c5_whereNow {x1 : Int32} {res : Int32 × Int32 × (Nat → Int32) × Int32 × Int32 × Int32 × Int32 × Int32 × Int32 × Int32 × Int32} (hrun : P5_whereNow v_lengths v_signs v_disc v_forms v_formA v_formB v_formC v_at x1 = some res) : Met l yX5_whereNow wsX5_whereNow rm5_whereNow (va_Pc [.ref h, .int x1] (PE D [(cA, .int)] sz (WM0 h ad cA) (WM h ad cA v_pageLength v_page v_roads v_lengths v_signs v_wordsRead v_disc v_forms v_formA v_formB v_formC v_nextOf v_cycleOf v_cycles v_firstOf v_newLength v_newSigns v_mayRun v_size v_at v_otherSize v_other v_tableA v_tableB v_tableC v_tableD v_a v_b v_c v_grade v_flowA v_flowB v_flowC v_seedNow v_h))) (va_Qi (fun (x : Int32) (_ : Unit) => x = res.1) (fun _ t => va_P D vwCl (WM h ad cA v_pageLength v_page v_roads v_lengths v_signs v_wordsRead v_disc v_forms v_formA v_formB v_formC v_nextOf v_cycleOf v_cycles v_firstOf v_newLength v_newSigns v_mayRun res.2.1 res.2.2.1 v_otherSize v_other res.2.2.2.1 res.2.2.2.2.1 res.2.2.2.2.2.1 res.2.2.2.2.2.2.1 res.2.2.2.2.2.2.2.1 res.2.2.2.2.2.2.2.2.1 res.2.2.2.2.2.2.2.2.2.1 res.2.2.2.2.2.2.2.2.2.2 v_flowA v_flowB v_flowC v_seedNow v_h) t.heap) (va_A (WM0 h ad cA) sz)) 0 0 (va_A (WM0 h ad cA) sz) := by
  refine E_in (cc := cX5_whereNow) (maxL := 2) (ret := (some .int)) (by decide) rfl (Nat.le_of_ble_eq_true rfl) ?_
  intro p e s m args below meth c ls Q hQ C hr hlk hK hN hD hA I hl
  have C : CallFix p m c cX5_whereNow 2 s args wsX5_whereNow RX5 := C
  have hx := C.1
  have hb := C.2.1
  have hl : lv_has ls 2 [(0, .ref h), (1, .int x1)] := hl
  unfold P5_whereNow at hrun
  refine lv_aload_n hx hb dX5_whereNow_0 rfl (lv_at hl 0 rfl) ?_
  refine lv_iload_n hx hb dX5_whereNow_1 rfl (lv_at hl 1 rfl) ?_
  obtain ⟨r1, h_r1, hrun⟩ := p_bnd hrun
  refine jVE_v (rest := []) C (c5_layForm h_r1) gX5_whereNow_X5_layForm hd5_layForm hK hN hD hA I rcM rfl ⟨rfl, rfl⟩ ⟨Nat.le_of_ble_eq_true rfl, Nat.le_of_ble_eq_true rfl⟩ rfl hl.1 rfl (Nat.le_of_ble_eq_true rfl) ⟨Nat.le_of_ble_eq_true rfl, Nat.le_of_ble_eq_true rfl⟩ dX5_whereNow_2 (fun H locs I => ?_)
  refine lv_aload_n hx hb dX5_whereNow_5 rfl (lv_at hl 0 rfl) ?_
  refine gM_a C inm5_whereNow hK I.1 fl5_whereNow_161 dX5_whereNow_6 ?_
  refine lv_aload_n hx hb dX5_whereNow_9 rfl (lv_at hl 0 rfl) ?_
  refine gM_b C inm5_whereNow hK I.1 fl5_whereNow_164 dX5_whereNow_10 ?_
  refine lv_aload_n hx hb dX5_whereNow_13 rfl (lv_at hl 0 rfl) ?_
  refine gM_c C inm5_whereNow hK I.1 fl5_whereNow_167 dX5_whereNow_14 ?_
  obtain ⟨r2, h_r2, hrun⟩ := p_bnd hrun
  refine jSS_i (rest := []) C (c5_discOf h_r2) gX5_whereNow_X5_discOf hd5_discOf rfl ⟨rfl, rfl⟩ ⟨Nat.le_of_ble_eq_true rfl, Nat.le_of_ble_eq_true rfl⟩ rfl hl.1 rfl (Nat.le_of_ble_eq_true rfl) ⟨Nat.le_of_ble_eq_true rfl, Nat.le_of_ble_eq_true rfl⟩ dX5_whereNow_17 ?_
  refine lv_aload_n hx hb dX5_whereNow_20 rfl (lv_at hl 0 rfl) ?_
  refine gM_disc C inm5_whereNow hK I.1 fl5_whereNow_209 dX5_whereNow_21 ?_
  refine lv_icmp_ne (tgt := 46) hx hb dX5_whereNow_24 rfl (fun c3 => ?_) (fun c3 => ?_)
  · have hrun := p_neg hrun c3
    refine lv_ldc (v := (-2000000001)) hx hb C.2.2.2.1 (C.2.2.2.2 _ k5_whereNow_106) dX5_whereNow_46 ?_
    cases hrun
    exact rE_i C hr hlk hQ I (nbi _) rfl dX5_whereNow_48
  · have hrun := p_pos hrun c3
    refine lv_aload_n hx hb dX5_whereNow_27 rfl (lv_at hl 0 rfl) ?_
    refine lv_aload_n hx hb dX5_whereNow_28 rfl (lv_at hl 0 rfl) ?_
    refine gM_a C inm5_whereNow hK I.1 fl5_whereNow_161 dX5_whereNow_29 ?_
    refine lv_aload_n hx hb dX5_whereNow_32 rfl (lv_at hl 0 rfl) ?_
    refine gM_b C inm5_whereNow hK I.1 fl5_whereNow_164 dX5_whereNow_33 ?_
    refine lv_aload_n hx hb dX5_whereNow_36 rfl (lv_at hl 0 rfl) ?_
    refine gM_c C inm5_whereNow hK I.1 fl5_whereNow_167 dX5_whereNow_37 ?_
    obtain ⟨r4, h_r4, hrun⟩ := p_bnd hrun
    refine jVS_i (rest := []) C (c5_numberOf h_r4) gX5_whereNow_X5_numberOf hd5_numberOf hK hN I.1 rcM rfl ⟨rfl, rfl⟩ ⟨Nat.le_of_ble_eq_true rfl, Nat.le_of_ble_eq_true rfl⟩ rfl hl.1 rfl (Nat.le_of_ble_eq_true rfl) ⟨Nat.le_of_ble_eq_true rfl, Nat.le_of_ble_eq_true rfl⟩ dX5_whereNow_40 ?_
    refine lv_goto (tgt := 48) hx hb dX5_whereNow_43 rfl ?_
    cases hrun
    exact rE_i C hr hlk hQ I (nbi _) rfl dX5_whereNow_48

abbrev rm5_where : Room := { frames := 4, cells := 0, slots := 0, locals := 86 }
theorem k5_where_78 : Cond.constant RX5 78 (-2000000103) ∈ wsX5_where := by decide +kernel
theorem k5_where_145 : Cond.constant RX5 145 (-2000000101) ∈ wsX5_where := by decide +kernel
theorem hd5_where : okD yX5_where 1 := by decide +kernel
set_option maxHeartbeats 8000000 in
set_option maxRecDepth 100000 in
theorem c5_where {x1 : Int32} {res : Int32 × Int32 × (Nat → Int32) × Int32 × Int32 × Int32 × Int32 × Int32 × Int32 × Int32 × Int32} (hrun : P5_where v_roads v_lengths v_signs v_disc v_forms v_formA v_formB v_formC v_size v_at v_tableA v_tableB v_tableC v_tableD v_a v_b v_c v_grade x1 = some res) : Met l yX5_where wsX5_where rm5_where (va_Pc [.ref h, .int x1] (PE D [(cA, .int)] sz (WM0 h ad cA) (WM h ad cA v_pageLength v_page v_roads v_lengths v_signs v_wordsRead v_disc v_forms v_formA v_formB v_formC v_nextOf v_cycleOf v_cycles v_firstOf v_newLength v_newSigns v_mayRun v_size v_at v_otherSize v_other v_tableA v_tableB v_tableC v_tableD v_a v_b v_c v_grade v_flowA v_flowB v_flowC v_seedNow v_h))) (va_Qi (fun (x : Int32) (_ : Unit) => x = res.1) (fun _ t => va_P D vwCl (WM h ad cA v_pageLength v_page v_roads v_lengths v_signs v_wordsRead v_disc v_forms v_formA v_formB v_formC v_nextOf v_cycleOf v_cycles v_firstOf v_newLength v_newSigns v_mayRun res.2.1 res.2.2.1 v_otherSize v_other res.2.2.2.1 res.2.2.2.2.1 res.2.2.2.2.2.1 res.2.2.2.2.2.2.1 res.2.2.2.2.2.2.2.1 res.2.2.2.2.2.2.2.2.1 res.2.2.2.2.2.2.2.2.2.1 res.2.2.2.2.2.2.2.2.2.2 v_flowA v_flowB v_flowC v_seedNow v_h) t.heap) (va_A (WM0 h ad cA) sz)) 0 0 (va_A (WM0 h ad cA) sz) := by
  refine E_in (cc := cX5_where) (maxL := 2) (ret := (some .int)) (by decide) rfl (Nat.le_of_ble_eq_true rfl) ?_
  intro p e s m args below meth c ls Q hQ C hr hlk hK hN hD hA I hl
  have C : CallFix p m c cX5_where 2 s args wsX5_where RX5 := C
  have hx := C.1
  have hb := C.2.1
  have hl : lv_has ls 2 [(0, .ref h), (1, .int x1)] := hl
  unfold P5_where at hrun
  refine lv_aload_n hx hb dX5_where_0 rfl (lv_at hl 0 rfl) ?_
  refine lv_iload_n hx hb dX5_where_1 rfl (lv_at hl 1 rfl) ?_
  obtain ⟨r1, h_r1, hrun⟩ := p_bnd hrun
  refine jVS_i (rest := []) C (c5_isRoad h_r1) gX5_where_X5_isRoad hd5_isRoad hK hN I.1 rcM rfl ⟨rfl, rfl⟩ ⟨Nat.le_of_ble_eq_true rfl, Nat.le_of_ble_eq_true rfl⟩ rfl hl.1 rfl (Nat.le_of_ble_eq_true rfl) ⟨Nat.le_of_ble_eq_true rfl, Nat.le_of_ble_eq_true rfl⟩ dX5_where_2 ?_
  refine lv_if_ne (tgt := 11) hx hb dX5_where_5 rfl (fun c2 => ?_) (fun c2 => ?_)
  · have hrun := p_neg hrun c2
    refine lv_aload_n hx hb dX5_where_11 rfl (lv_at hl 0 rfl) ?_
    refine lv_iload_n hx hb dX5_where_12 rfl (lv_at hl 1 rfl) ?_
    obtain ⟨r3, h_r3, hrun⟩ := p_bnd hrun
    refine jVE_i (rest := []) C (c5_isClosed h_r3) gX5_where_X5_isClosed hd5_isClosed hK hN hD hA I rcM rfl ⟨rfl, rfl⟩ ⟨Nat.le_of_ble_eq_true rfl, Nat.le_of_ble_eq_true rfl⟩ rfl hl.1 rfl (Nat.le_of_ble_eq_true rfl) ⟨Nat.le_of_ble_eq_true rfl, Nat.le_of_ble_eq_true rfl⟩ dX5_where_13 (fun H locs I => ?_)
    refine lv_if_eq (tgt := 34) hx hb dX5_where_16 rfl (fun c4 => ?_) (fun c4 => ?_)
    · have hrun := p_pos hrun c4
      refine lv_ldc (v := (-2000000103)) hx hb C.2.2.2.1 (C.2.2.2.2 _ k5_where_78) dX5_where_34 ?_
      cases hrun
      exact rE_i C hr hlk hQ I (nbi _) rfl dX5_where_36
    · have hrun := p_neg hrun c4
      refine lv_aload_n hx hb dX5_where_19 rfl (lv_at hl 0 rfl) ?_
      obtain ⟨r5, h_r5, hrun⟩ := p_bnd hrun
      refine jVS_i (rest := []) C (c5_isRiver h_r5) gX5_where_X5_isRiver hd5_isRiver hK hN I.1 rcM rfl ⟨rfl, rfl⟩ ⟨Nat.le_of_ble_eq_true rfl, Nat.le_of_ble_eq_true rfl⟩ rfl hl.1 rfl (Nat.le_of_ble_eq_true rfl) ⟨Nat.le_of_ble_eq_true rfl, Nat.le_of_ble_eq_true rfl⟩ dX5_where_20 ?_
      refine lv_if_eq (tgt := 34) hx hb dX5_where_23 rfl (fun c6 => ?_) (fun c6 => ?_)
      · have hrun := p_pos hrun c6
        refine lv_ldc (v := (-2000000103)) hx hb C.2.2.2.1 (C.2.2.2.2 _ k5_where_78) dX5_where_34 ?_
        cases hrun
        exact rE_i C hr hlk hQ I (nbi _) rfl dX5_where_36
      · have hrun := p_neg hrun c6
        refine lv_aload_n hx hb dX5_where_26 rfl (lv_at hl 0 rfl) ?_
        refine lv_iload_n hx hb dX5_where_27 rfl (lv_at hl 1 rfl) ?_
        obtain ⟨r7, h_r7, hrun⟩ := p_bnd hrun
        refine jVE_i (rest := []) C (c5_whereNow h_r7) gX5_where_X5_whereNow hd5_whereNow hK hN hD hA I rcM rfl ⟨rfl, rfl⟩ ⟨Nat.le_of_ble_eq_true rfl, Nat.le_of_ble_eq_true rfl⟩ rfl hl.1 rfl (Nat.le_of_ble_eq_true rfl) ⟨Nat.le_of_ble_eq_true rfl, Nat.le_of_ble_eq_true rfl⟩ dX5_where_28 (fun H locs I => ?_)
        refine lv_goto (tgt := 36) hx hb dX5_where_31 rfl ?_
        cases hrun
        exact rE_i C hr hlk hQ I (nbi _) rfl dX5_where_36
  · have hrun := p_pos hrun c2
    refine lv_ldc (v := (-2000000101)) hx hb C.2.2.2.1 (C.2.2.2.2 _ k5_where_145) dX5_where_8 ?_
    cases hrun
    exact rE_i C hr hlk hQ I (nbi _) rfl dX5_where_10

abbrev rm5_drawOf : Room := { frames := 0, cells := 0, slots := 0, locals := 0 }
theorem fl5_drawOf_281 : Cond.fieldLink RX5 281 "RiverWordsModel" "seedNow" "J" ∈ wsX5_drawOf := by decide +kernel
theorem k5_drawOf_279 : Cond.constantLong RX5 279 1103515245 ∈ wsX5_drawOf := by decide +kernel
theorem k5_drawOf_285 : Cond.constantLong RX5 285 12345 ∈ wsX5_drawOf := by decide +kernel
theorem k5_drawOf_287 : Cond.constantLong RX5 287 2147483648 ∈ wsX5_drawOf := by decide +kernel
theorem k5_drawOf_289 : Cond.constantLong RX5 289 65536 ∈ wsX5_drawOf := by decide +kernel
theorem inm5_drawOf : ∀ w ∈ wsX50, w ∈ wsX5_drawOf := fun w h => by unfold wsX5_drawOf; first | exact List.mem_cons_of_mem _ (List.mem_append_right _ h) | exact List.mem_cons_of_mem _ h
theorem hd5_drawOf : okD yX5_drawOf 1 := by decide +kernel
set_option maxHeartbeats 8000000 in
set_option maxRecDepth 100000 in
theorem c5_drawOf {x1 : Int32} {res : Int32 × Int64} (hrun : P5_drawOf v_seedNow x1 = some res) : Met l yX5_drawOf wsX5_drawOf rm5_drawOf (va_Pc [.ref h, .int x1] (PE D [(cA, .int)] sz (WM0 h ad cA) (WM h ad cA v_pageLength v_page v_roads v_lengths v_signs v_wordsRead v_disc v_forms v_formA v_formB v_formC v_nextOf v_cycleOf v_cycles v_firstOf v_newLength v_newSigns v_mayRun v_size v_at v_otherSize v_other v_tableA v_tableB v_tableC v_tableD v_a v_b v_c v_grade v_flowA v_flowB v_flowC v_seedNow v_h))) (va_Qi (fun (x : Int32) (_ : Unit) => x = res.1) (fun _ t => va_P D vwCl (WM h ad cA v_pageLength v_page v_roads v_lengths v_signs v_wordsRead v_disc v_forms v_formA v_formB v_formC v_nextOf v_cycleOf v_cycles v_firstOf v_newLength v_newSigns v_mayRun v_size v_at v_otherSize v_other v_tableA v_tableB v_tableC v_tableD v_a v_b v_c v_grade v_flowA v_flowB v_flowC res.2 v_h) t.heap) (va_A (WM0 h ad cA) sz)) 0 0 (va_A (WM0 h ad cA) sz) := by
  refine E_in (cc := cX5_drawOf) (maxL := 2) (ret := (some .int)) (by decide) rfl (Nat.le_of_ble_eq_true rfl) ?_
  intro p e s m args below meth c ls Q hQ C hr hlk hK hN hD hA I hl
  have C : CallFix p m c cX5_drawOf 2 s args wsX5_drawOf RX5 := C
  have hx := C.1
  have hb := C.2.1
  have hl : lv_has ls 2 [(0, .ref h), (1, .int x1)] := hl
  unfold P5_drawOf at hrun
  refine lv_aload_n hx hb dX5_drawOf_0 rfl (lv_at hl 0 rfl) ?_
  refine lv_ldc2 (v := 1103515245) hx hb C.2.2.2.1 (C.2.2.2.2 _ k5_drawOf_279) dX5_drawOf_1 ?_
  refine lv_aload_n hx hb dX5_drawOf_4 rfl (lv_at hl 0 rfl) ?_
  refine gM_seedNow C inm5_drawOf hK I.1 fl5_drawOf_281 dX5_drawOf_5 ?_
  refine lv_lmul hx hb dX5_drawOf_8 ?_
  refine lv_ldc2 (v := 12345) hx hb C.2.2.2.1 (C.2.2.2.2 _ k5_drawOf_285) dX5_drawOf_9 ?_
  refine lv_ladd hx hb dX5_drawOf_12 ?_
  refine lv_ldc2 (v := 2147483648) hx hb C.2.2.2.1 (C.2.2.2.2 _ k5_drawOf_287) dX5_drawOf_13 ?_
  refine j_lrem hx hb dX5_drawOf_16 (by decide) ?_
  refine pM_seedNow C inm5_drawOf hK hD I fl5_drawOf_281 dX5_drawOf_17 (fun H locs I => ?_)
  refine lv_aload_n hx hb dX5_drawOf_20 rfl (lv_at hl 0 rfl) ?_
  refine gM_seedNow C inm5_drawOf hK I.1 fl5_drawOf_281 dX5_drawOf_21 ?_
  refine lv_ldc2 (v := 65536) hx hb C.2.2.2.1 (C.2.2.2.2 _ k5_drawOf_289) dX5_drawOf_24 ?_
  refine lv_ldiv hx hb dX5_drawOf_27 (by decide) ?_
  refine lv_iload_n hx hb dX5_drawOf_28 rfl (lv_at hl 1 rfl) ?_
  refine lv_i2l (v := Int32.toInt64 x1) hx hb dX5_drawOf_29 rfl ?_
  obtain ⟨z1, hrun⟩ := p_chk hrun
  refine j_lrem hx hb dX5_drawOf_30 z1 ?_
  refine lv_l2i (v := Int64.toInt32 (jlrem ((jlrem ((1103515245 * v_seedNow) + 12345) 2147483648) / 65536) (Int32.toInt64 x1))) hx hb dX5_drawOf_31 rfl ?_
  cases hrun
  exact rE_i C hr hlk hQ I (nbi _) rfl dX5_drawOf_32

end M511
