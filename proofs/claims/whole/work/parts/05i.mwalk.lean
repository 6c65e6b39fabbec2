section M58
variable {l : Launch} {D : va_G} {sz : Nat}
variable {h : Nat} {ad : Nat → Nat} {cA : ClassId}
variable {v_pageLength v_roads v_wordsRead v_disc v_forms v_cycles v_newLength v_mayRun v_size v_otherSize v_tableA v_tableB v_tableC v_tableD v_a v_b v_c v_grade v_flowA v_flowB v_flowC : Int32}
variable {v_seedNow v_h : Int64}
variable {v_page v_lengths v_signs v_formA v_formB v_formC v_nextOf v_cycleOf v_firstOf v_newSigns v_at v_other : Nat → Int32}
abbrev rm5_simpleNow : Room := { frames := 1, cells := 0, slots := 0, locals := 24 }
theorem fl5_simpleNow_19 : Cond.fieldLink RX5 19 "RiverWordsModel" "formA" "[I" ∈ wsX5_simpleNow := by decide +kernel
theorem fl5_simpleNow_22 : Cond.fieldLink RX5 22 "RiverWordsModel" "formB" "[I" ∈ wsX5_simpleNow := by decide +kernel
theorem fl5_simpleNow_25 : Cond.fieldLink RX5 25 "RiverWordsModel" "formC" "[I" ∈ wsX5_simpleNow := by decide +kernel
theorem fl5_simpleNow_28 : Cond.fieldLink RX5 28 "RiverWordsModel" "nextOf" "[I" ∈ wsX5_simpleNow := by decide +kernel
theorem fl5_simpleNow_31 : Cond.fieldLink RX5 31 "RiverWordsModel" "cycleOf" "[I" ∈ wsX5_simpleNow := by decide +kernel
theorem inm5_simpleNow : ∀ w ∈ wsX50, w ∈ wsX5_simpleNow := fun w h => by unfold wsX5_simpleNow; first | exact List.mem_cons_of_mem _ (List.mem_append_right _ h) | exact List.mem_cons_of_mem _ h
theorem hd5_simpleNow : okD yX5_simpleNow 2 := by decide +kernel
set_option maxHeartbeats 8000000 in
set_option maxRecDepth 100000 in
theorem c5_simpleNow {x1 : Int32} {x2 : Int32} {res : Int32} (hrun : P5_simpleNow v_forms v_formA v_formB v_formC v_nextOf v_cycleOf x1 x2 = some res) : Met l yX5_simpleNow wsX5_simpleNow rm5_simpleNow (va_Pc [.ref h, .int x1, .int x2] (PS D [(cA, .int)] (WM h ad cA v_pageLength v_page v_roads v_lengths v_signs v_wordsRead v_disc v_forms v_formA v_formB v_formC v_nextOf v_cycleOf v_cycles v_firstOf v_newLength v_newSigns v_mayRun v_size v_at v_otherSize v_other v_tableA v_tableB v_tableC v_tableD v_a v_b v_c v_grade v_flowA v_flowB v_flowC v_seedNow v_h))) (vp_Si (fun x => x = res)) 0 0 (fun _ => False) := by
  refine S_in (cc := cX5_simpleNow) (maxL := 3) (ret := (some .int)) (by decide) rfl (Nat.le_of_ble_eq_true rfl) ?_
  intro p e s m args below meth c ls Q hQ C hr hlk hK hN hP hl
  have C : CallFix p m c cX5_simpleNow 3 s args wsX5_simpleNow RX5 := C
  have hx := C.1
  have hb := C.2.1
  have hl : lv_has ls 3 [(0, .ref h), (1, .int x1), (2, .int x2)] := hl
  unfold P5_simpleNow at hrun
  refine lv_iload_n hx hb dX5_simpleNow_0 rfl (lv_at hl 2 rfl) ?_
  by_cases c1 : x2 = 0
  · have hrun := p_pos hrun c1
    refine j_tswIn  (tgt := 44) hx hb 0 c1 dX5_simpleNow_1 (by decide) (by decide) rfl rfl ?_
    refine lv_aload_n hx hb dX5_simpleNow_44 rfl (lv_at hl 0 rfl) ?_
    refine gM_formA C inm5_simpleNow hK hP fl5_simpleNow_19 dX5_simpleNow_45 ?_
    refine lv_iload_n hx hb dX5_simpleNow_48 rfl (lv_at hl 1 rfl) ?_
    obtain ⟨b2, hrun⟩ := p_chk hrun
    refine ldM_formA C hK hP b2 dX5_simpleNow_49 ?_
    cases hrun
    exact rS_i C hr hlk hQ (nbi _) rfl dX5_simpleNow_50
  · have hrun := p_neg hrun c1
    by_cases c3 : x2 = 1
    · have hrun := p_pos hrun c3
      refine j_tswIn  (tgt := 51) hx hb 1 c3 dX5_simpleNow_1 (by decide) (by decide) rfl rfl ?_
      refine lv_aload_n hx hb dX5_simpleNow_51 rfl (lv_at hl 0 rfl) ?_
      refine gM_formB C inm5_simpleNow hK hP fl5_simpleNow_22 dX5_simpleNow_52 ?_
      refine lv_iload_n hx hb dX5_simpleNow_55 rfl (lv_at hl 1 rfl) ?_
      obtain ⟨b4, hrun⟩ := p_chk hrun
      refine ldM_formB C hK hP b4 dX5_simpleNow_56 ?_
      cases hrun
      exact rS_i C hr hlk hQ (nbi _) rfl dX5_simpleNow_57
    · have hrun := p_neg hrun c3
      by_cases c5 : x2 = 2
      · have hrun := p_pos hrun c5
        refine j_tswIn  (tgt := 58) hx hb 2 c5 dX5_simpleNow_1 (by decide) (by decide) rfl rfl ?_
        refine lv_aload_n hx hb dX5_simpleNow_58 rfl (lv_at hl 0 rfl) ?_
        refine gM_formC C inm5_simpleNow hK hP fl5_simpleNow_25 dX5_simpleNow_59 ?_
        refine lv_iload_n hx hb dX5_simpleNow_62 rfl (lv_at hl 1 rfl) ?_
        obtain ⟨b6, hrun⟩ := p_chk hrun
        refine ldM_formC C hK hP b6 dX5_simpleNow_63 ?_
        cases hrun
        exact rS_i C hr hlk hQ (nbi _) rfl dX5_simpleNow_64
      · have hrun := p_neg hrun c5
        by_cases c7 : x2 = 3
        · have hrun := p_pos hrun c7
          refine j_tswIn  (tgt := 65) hx hb 3 c7 dX5_simpleNow_1 (by decide) (by decide) rfl rfl ?_
          refine lv_aload_n hx hb dX5_simpleNow_65 rfl (lv_at hl 0 rfl) ?_
          refine gM_cycleOf C inm5_simpleNow hK hP fl5_simpleNow_31 dX5_simpleNow_66 ?_
          refine lv_iload_n hx hb dX5_simpleNow_69 rfl (lv_at hl 1 rfl) ?_
          obtain ⟨b8, hrun⟩ := p_chk hrun
          refine ldM_cycleOf C hK hP b8 dX5_simpleNow_70 ?_
          cases hrun
          exact rS_i C hr hlk hQ (nbi _) rfl dX5_simpleNow_71
        · have hrun := p_neg hrun c7
          by_cases c9 : x2 = 4
          · have hrun := p_pos hrun c9
            refine j_tswIn  (tgt := 72) hx hb 4 c9 dX5_simpleNow_1 (by decide) (by decide) rfl rfl ?_
            refine lv_aload_n hx hb dX5_simpleNow_72 rfl (lv_at hl 0 rfl) ?_
            refine gM_nextOf C inm5_simpleNow hK hP fl5_simpleNow_28 dX5_simpleNow_73 ?_
            refine lv_iload_n hx hb dX5_simpleNow_76 rfl (lv_at hl 1 rfl) ?_
            obtain ⟨b10, hrun⟩ := p_chk hrun
            refine ldM_nextOf C hK hP b10 dX5_simpleNow_77 ?_
            cases hrun
            exact rS_i C hr hlk hQ (nbi _) rfl dX5_simpleNow_78
          · have hrun := p_neg hrun c9
            by_cases c11 : x2 = 5
            · have hrun := p_pos hrun c11
              refine j_tswIn  (tgt := 79) hx hb 5 c11 dX5_simpleNow_1 (by decide) (by decide) rfl rfl ?_
              refine lv_aload_n hx hb dX5_simpleNow_79 rfl (lv_at hl 0 rfl) ?_
              refine lv_iload_n hx hb dX5_simpleNow_80 rfl (lv_at hl 1 rfl) ?_
              obtain ⟨r12, h_r12, hrun⟩ := p_bnd hrun
              refine jVS_i (rest := []) C (c5_isLeft h_r12) gX5_simpleNow_X5_isLeft hd5_isLeft hK hN hP rcM rfl ⟨rfl, rfl⟩ ⟨Nat.le_of_ble_eq_true rfl, Nat.le_of_ble_eq_true rfl⟩ rfl hl.1 rfl (Nat.le_of_ble_eq_true rfl) ⟨Nat.le_of_ble_eq_true rfl, Nat.le_of_ble_eq_true rfl⟩ dX5_simpleNow_81 ?_
              refine lv_if_eq (tgt := 91) hx hb dX5_simpleNow_84 rfl (fun c13 => ?_) (fun c13 => ?_)
              · have hrun := p_pos hrun c13
                refine lv_iconst (v := 1) hx hb dX5_simpleNow_91 rfl ?_
                obtain ⟨r14, h_r14, hrun⟩ := p_bnd hrun
                refine jSS_i (rest := []) C (c5_codeOf h_r14) gX5_simpleNow_X5_codeOf hd5_codeOf rfl ⟨rfl, rfl⟩ ⟨Nat.le_of_ble_eq_true rfl, Nat.le_of_ble_eq_true rfl⟩ rfl hl.1 rfl (Nat.le_of_ble_eq_true rfl) ⟨Nat.le_of_ble_eq_true rfl, Nat.le_of_ble_eq_true rfl⟩ dX5_simpleNow_92 ?_
                cases hrun
                exact rS_i C hr hlk hQ (nbi _) rfl dX5_simpleNow_95
              · have hrun := p_neg hrun c13
                refine lv_iconst (v := 0) hx hb dX5_simpleNow_87 rfl ?_
                refine lv_goto (tgt := 92) hx hb dX5_simpleNow_88 rfl ?_
                obtain ⟨r15, h_r15, hrun⟩ := p_bnd hrun
                refine jSS_i (rest := []) C (c5_codeOf h_r15) gX5_simpleNow_X5_codeOf hd5_codeOf rfl ⟨rfl, rfl⟩ ⟨Nat.le_of_ble_eq_true rfl, Nat.le_of_ble_eq_true rfl⟩ rfl hl.1 rfl (Nat.le_of_ble_eq_true rfl) ⟨Nat.le_of_ble_eq_true rfl, Nat.le_of_ble_eq_true rfl⟩ dX5_simpleNow_92 ?_
                cases hrun
                exact rS_i C hr hlk hQ (nbi _) rfl dX5_simpleNow_95
            · have hrun := p_neg hrun c11
              by_cases c16 : x2 = 6
              · have hrun := p_pos hrun c16
                refine j_tswIn  (tgt := 96) hx hb 6 c16 dX5_simpleNow_1 (by decide) (by decide) rfl rfl ?_
                refine lv_aload_n hx hb dX5_simpleNow_96 rfl (lv_at hl 0 rfl) ?_
                refine lv_aload_n hx hb dX5_simpleNow_97 rfl (lv_at hl 0 rfl) ?_
                refine gM_formA C inm5_simpleNow hK hP fl5_simpleNow_19 dX5_simpleNow_98 ?_
                refine lv_iload_n hx hb dX5_simpleNow_101 rfl (lv_at hl 1 rfl) ?_
                obtain ⟨b17, hrun⟩ := p_chk hrun
                refine ldM_formA C hK hP b17 dX5_simpleNow_102 ?_
                refine lv_aload_n hx hb dX5_simpleNow_103 rfl (lv_at hl 0 rfl) ?_
                refine gM_formB C inm5_simpleNow hK hP fl5_simpleNow_22 dX5_simpleNow_104 ?_
                refine lv_iload_n hx hb dX5_simpleNow_107 rfl (lv_at hl 1 rfl) ?_
                obtain ⟨b18, hrun⟩ := p_chk hrun
                refine ldM_formB C hK hP b18 dX5_simpleNow_108 ?_
                refine lv_ineg hx hb dX5_simpleNow_109 ?_
                refine lv_aload_n hx hb dX5_simpleNow_110 rfl (lv_at hl 0 rfl) ?_
                refine gM_formC C inm5_simpleNow hK hP fl5_simpleNow_25 dX5_simpleNow_111 ?_
                refine lv_iload_n hx hb dX5_simpleNow_114 rfl (lv_at hl 1 rfl) ?_
                obtain ⟨b19, hrun⟩ := p_chk hrun
                refine ldM_formC C hK hP b19 dX5_simpleNow_115 ?_
                obtain ⟨r20, h_r20, hrun⟩ := p_bnd hrun
                refine jVS_i (rest := []) C (c5_numberOf h_r20) gX5_simpleNow_X5_numberOf hd5_numberOf hK hN hP rcM rfl ⟨rfl, rfl⟩ ⟨Nat.le_of_ble_eq_true rfl, Nat.le_of_ble_eq_true rfl⟩ rfl hl.1 rfl (Nat.le_of_ble_eq_true rfl) ⟨Nat.le_of_ble_eq_true rfl, Nat.le_of_ble_eq_true rfl⟩ dX5_simpleNow_116 ?_
                cases hrun
                exact rS_i C hr hlk hQ (nbi _) rfl dX5_simpleNow_119
              · have hrun := p_neg hrun c16
                refine lv_tableOut (tgt := 120) hx hb dX5_simpleNow_1 (j_tswOut (lo := 0) (hi := 6) [0, 1, 2, 3, 4, 5, 6] (by decide) (fun k hk => by simp only [List.mem_cons, List.not_mem_nil, or_false] at hk; rcases hk with rfl | rfl | rfl | rfl | rfl | rfl | rfl <;> assumption)) rfl ?_
                refine lv_aload_n hx hb dX5_simpleNow_120 rfl (lv_at hl 0 rfl) ?_
                refine lv_aload_n hx hb dX5_simpleNow_121 rfl (lv_at hl 0 rfl) ?_
                refine gM_formC C inm5_simpleNow hK hP fl5_simpleNow_25 dX5_simpleNow_122 ?_
                refine lv_iload_n hx hb dX5_simpleNow_125 rfl (lv_at hl 1 rfl) ?_
                obtain ⟨b21, hrun⟩ := p_chk hrun
                refine ldM_formC C hK hP b21 dX5_simpleNow_126 ?_
                refine lv_ineg hx hb dX5_simpleNow_127 ?_
                refine lv_aload_n hx hb dX5_simpleNow_128 rfl (lv_at hl 0 rfl) ?_
                refine gM_formB C inm5_simpleNow hK hP fl5_simpleNow_22 dX5_simpleNow_129 ?_
                refine lv_iload_n hx hb dX5_simpleNow_132 rfl (lv_at hl 1 rfl) ?_
                obtain ⟨b22, hrun⟩ := p_chk hrun
                refine ldM_formB C hK hP b22 dX5_simpleNow_133 ?_
                refine lv_ineg hx hb dX5_simpleNow_134 ?_
                refine lv_aload_n hx hb dX5_simpleNow_135 rfl (lv_at hl 0 rfl) ?_
                refine gM_formA C inm5_simpleNow hK hP fl5_simpleNow_19 dX5_simpleNow_136 ?_
                refine lv_iload_n hx hb dX5_simpleNow_139 rfl (lv_at hl 1 rfl) ?_
                obtain ⟨b23, hrun⟩ := p_chk hrun
                refine ldM_formA C hK hP b23 dX5_simpleNow_140 ?_
                refine lv_ineg hx hb dX5_simpleNow_141 ?_
                obtain ⟨r24, h_r24, hrun⟩ := p_bnd hrun
                refine jVS_i (rest := []) C (c5_numberOf h_r24) gX5_simpleNow_X5_numberOf hd5_numberOf hK hN hP rcM rfl ⟨rfl, rfl⟩ ⟨Nat.le_of_ble_eq_true rfl, Nat.le_of_ble_eq_true rfl⟩ rfl hl.1 rfl (Nat.le_of_ble_eq_true rfl) ⟨Nat.le_of_ble_eq_true rfl, Nat.le_of_ble_eq_true rfl⟩ dX5_simpleNow_142 ?_
                cases hrun
                exact rS_i C hr hlk hQ (nbi _) rfl dX5_simpleNow_145

abbrev rm5_simple : Room := { frames := 2, cells := 0, slots := 0, locals := 46 }
theorem fl5_simple_212 : Cond.fieldLink RX5 212 "RiverWordsModel" "forms" "I" ∈ wsX5_simple := by decide +kernel
theorem k5_simple_54 : Cond.constant RX5 54 (-2000000102) ∈ wsX5_simple := by decide +kernel
theorem k5_simple_145 : Cond.constant RX5 145 (-2000000101) ∈ wsX5_simple := by decide +kernel
theorem inm5_simple : ∀ w ∈ wsX50, w ∈ wsX5_simple := fun w h => by unfold wsX5_simple; first | exact List.mem_cons_of_mem _ (List.mem_append_right _ h) | exact List.mem_cons_of_mem _ h
theorem hd5_simple : okD yX5_simple 2 := by decide +kernel
set_option maxHeartbeats 8000000 in
set_option maxRecDepth 100000 in
theorem c5_simple {x1 : Int32} {x2 : Int32} {res : Int32} (hrun : P5_simple v_forms v_formA v_formB v_formC v_nextOf v_cycleOf x1 x2 = some res) : Met l yX5_simple wsX5_simple rm5_simple (va_Pc [.ref h, .int x1, .int x2] (PS D [(cA, .int)] (WM h ad cA v_pageLength v_page v_roads v_lengths v_signs v_wordsRead v_disc v_forms v_formA v_formB v_formC v_nextOf v_cycleOf v_cycles v_firstOf v_newLength v_newSigns v_mayRun v_size v_at v_otherSize v_other v_tableA v_tableB v_tableC v_tableD v_a v_b v_c v_grade v_flowA v_flowB v_flowC v_seedNow v_h))) (vp_Si (fun x => x = res)) 0 0 (fun _ => False) := by
  refine S_in (cc := cX5_simple) (maxL := 3) (ret := (some .int)) (by decide) rfl (Nat.le_of_ble_eq_true rfl) ?_
  intro p e s m args below meth c ls Q hQ C hr hlk hK hN hP hl
  have C : CallFix p m c cX5_simple 3 s args wsX5_simple RX5 := C
  have hx := C.1
  have hb := C.2.1
  have hl : lv_has ls 3 [(0, .ref h), (1, .int x1), (2, .int x2)] := hl
  unfold P5_simple at hrun
  refine lv_iload_n hx hb dX5_simple_0 rfl (lv_at hl 1 rfl) ?_
  refine lv_iconst (v := 0) hx hb dX5_simple_1 rfl ?_
  refine lv_aload_n hx hb dX5_simple_2 rfl (lv_at hl 0 rfl) ?_
  refine gM_forms C inm5_simple hK hP fl5_simple_212 dX5_simple_3 ?_
  refine lv_iconst (v := 1) hx hb dX5_simple_6 rfl ?_
  refine lv_isub hx hb dX5_simple_7 ?_
  obtain ⟨r1, h_r1, hrun⟩ := p_bnd hrun
  refine jSS_i (rest := []) C (c5_within h_r1) gX5_simple_X5_within hd5_within rfl ⟨rfl, rfl⟩ ⟨Nat.le_of_ble_eq_true rfl, Nat.le_of_ble_eq_true rfl⟩ rfl hl.1 rfl (Nat.le_of_ble_eq_true rfl) ⟨Nat.le_of_ble_eq_true rfl, Nat.le_of_ble_eq_true rfl⟩ dX5_simple_8 ?_
  refine lv_if_ne (tgt := 17) hx hb dX5_simple_11 rfl (fun c2 => ?_) (fun c2 => ?_)
  · have hrun := p_neg hrun c2
    refine lv_iload_n hx hb dX5_simple_17 rfl (lv_at hl 2 rfl) ?_
    refine lv_iconst (v := 0) hx hb dX5_simple_18 rfl ?_
    refine lv_bipush (v := 7) hx hb dX5_simple_19 rfl ?_
    obtain ⟨r3, h_r3, hrun⟩ := p_bnd hrun
    refine jSS_i (rest := []) C (c5_within h_r3) gX5_simple_X5_within hd5_within rfl ⟨rfl, rfl⟩ ⟨Nat.le_of_ble_eq_true rfl, Nat.le_of_ble_eq_true rfl⟩ rfl hl.1 rfl (Nat.le_of_ble_eq_true rfl) ⟨Nat.le_of_ble_eq_true rfl, Nat.le_of_ble_eq_true rfl⟩ dX5_simple_21 ?_
    refine lv_if_eq (tgt := 36) hx hb dX5_simple_24 rfl (fun c4 => ?_) (fun c4 => ?_)
    · have hrun := p_pos hrun c4
      refine lv_ldc (v := (-2000000102)) hx hb C.2.2.2.1 (C.2.2.2.2 _ k5_simple_54) dX5_simple_36 ?_
      cases hrun
      exact rS_i C hr hlk hQ (nbi _) rfl dX5_simple_38
    · have hrun := p_neg hrun c4
      refine lv_aload_n hx hb dX5_simple_27 rfl (lv_at hl 0 rfl) ?_
      refine lv_iload_n hx hb dX5_simple_28 rfl (lv_at hl 1 rfl) ?_
      refine lv_iload_n hx hb dX5_simple_29 rfl (lv_at hl 2 rfl) ?_
      obtain ⟨r5, h_r5, hrun⟩ := p_bnd hrun
      refine jVS_i (rest := []) C (c5_simpleNow h_r5) gX5_simple_X5_simpleNow hd5_simpleNow hK hN hP rcM rfl ⟨rfl, rfl⟩ ⟨Nat.le_of_ble_eq_true rfl, Nat.le_of_ble_eq_true rfl⟩ rfl hl.1 rfl (Nat.le_of_ble_eq_true rfl) ⟨Nat.le_of_ble_eq_true rfl, Nat.le_of_ble_eq_true rfl⟩ dX5_simple_30 ?_
      refine lv_goto (tgt := 38) hx hb dX5_simple_33 rfl ?_
      cases hrun
      exact rS_i C hr hlk hQ (nbi _) rfl dX5_simple_38
  · have hrun := p_pos hrun c2
    refine lv_ldc (v := (-2000000101)) hx hb C.2.2.2.1 (C.2.2.2.2 _ k5_simple_145) dX5_simple_14 ?_
    cases hrun
    exact rS_i C hr hlk hQ (nbi _) rfl dX5_simple_16

abbrev rm5_isCycle : Room := { frames := 1, cells := 0, slots := 0, locals := 22 }
theorem fl5_isCycle_224 : Cond.fieldLink RX5 224 "RiverWordsModel" "cycles" "I" ∈ wsX5_isCycle := by decide +kernel
theorem inm5_isCycle : ∀ w ∈ wsX50, w ∈ wsX5_isCycle := fun w h => by unfold wsX5_isCycle; first | exact List.mem_cons_of_mem _ (List.mem_append_right _ h) | exact List.mem_cons_of_mem _ h
theorem hd5_isCycle : okD yX5_isCycle 1 := by decide +kernel
set_option maxHeartbeats 8000000 in
set_option maxRecDepth 100000 in
theorem c5_isCycle {x1 : Int32} {res : Int32} (hrun : P5_isCycle v_cycles x1 = some res) : Met l yX5_isCycle wsX5_isCycle rm5_isCycle (va_Pc [.ref h, .int x1] (PS D [(cA, .int)] (WM h ad cA v_pageLength v_page v_roads v_lengths v_signs v_wordsRead v_disc v_forms v_formA v_formB v_formC v_nextOf v_cycleOf v_cycles v_firstOf v_newLength v_newSigns v_mayRun v_size v_at v_otherSize v_other v_tableA v_tableB v_tableC v_tableD v_a v_b v_c v_grade v_flowA v_flowB v_flowC v_seedNow v_h))) (vp_Si (fun x => x = res)) 0 0 (fun _ => False) := by
  refine S_in (cc := cX5_isCycle) (maxL := 2) (ret := (some .boolean)) (by decide) rfl (Nat.le_of_ble_eq_true rfl) ?_
  intro p e s m args below meth c ls Q hQ C hr hlk hK hN hP hl
  have C : CallFix p m c cX5_isCycle 2 s args wsX5_isCycle RX5 := C
  have hx := C.1
  have hb := C.2.1
  have hl : lv_has ls 2 [(0, .ref h), (1, .int x1)] := hl
  unfold P5_isCycle at hrun
  refine lv_iload_n hx hb dX5_isCycle_0 rfl (lv_at hl 1 rfl) ?_
  refine lv_iconst (v := 0) hx hb dX5_isCycle_1 rfl ?_
  refine lv_aload_n hx hb dX5_isCycle_2 rfl (lv_at hl 0 rfl) ?_
  refine gM_cycles C inm5_isCycle hK hP fl5_isCycle_224 dX5_isCycle_3 ?_
  refine lv_iconst (v := 1) hx hb dX5_isCycle_6 rfl ?_
  refine lv_isub hx hb dX5_isCycle_7 ?_
  obtain ⟨r1, h_r1, hrun⟩ := p_bnd hrun
  refine jSS_i (rest := []) C (c5_within h_r1) gX5_isCycle_X5_within hd5_within rfl ⟨rfl, rfl⟩ ⟨Nat.le_of_ble_eq_true rfl, Nat.le_of_ble_eq_true rfl⟩ rfl hl.1 rfl (Nat.le_of_ble_eq_true rfl) ⟨Nat.le_of_ble_eq_true rfl, Nat.le_of_ble_eq_true rfl⟩ dX5_isCycle_8 ?_
  obtain ⟨z2, hrun⟩ := p_chk hrun
  cases hrun
  exact rS_i C hr hlk hQ (nb01 z2) rfl dX5_isCycle_11

abbrev rm5_sizeOf : Room := { frames := 0, cells := 0, slots := 0, locals := 0 }
theorem fl5_sizeOf_31 : Cond.fieldLink RX5 31 "RiverWordsModel" "cycleOf" "[I" ∈ wsX5_sizeOf := by decide +kernel
theorem fl5_sizeOf_212 : Cond.fieldLink RX5 212 "RiverWordsModel" "forms" "I" ∈ wsX5_sizeOf := by decide +kernel
theorem inm5_sizeOf : ∀ w ∈ wsX50, w ∈ wsX5_sizeOf := fun w h => by unfold wsX5_sizeOf; first | exact List.mem_cons_of_mem _ (List.mem_append_right _ h) | exact List.mem_cons_of_mem _ h
theorem hd5_sizeOf : okD yX5_sizeOf 1 := by decide +kernel
set_option maxHeartbeats 8000000 in
set_option maxRecDepth 100000 in
theorem c5_sizeOf {x1 : Int32} {res : Int32} (hrun : P5_sizeOf v_forms v_cycleOf x1 = some res) : Met l yX5_sizeOf wsX5_sizeOf rm5_sizeOf (va_Pc [.ref h, .int x1] (PS D [(cA, .int)] (WM h ad cA v_pageLength v_page v_roads v_lengths v_signs v_wordsRead v_disc v_forms v_formA v_formB v_formC v_nextOf v_cycleOf v_cycles v_firstOf v_newLength v_newSigns v_mayRun v_size v_at v_otherSize v_other v_tableA v_tableB v_tableC v_tableD v_a v_b v_c v_grade v_flowA v_flowB v_flowC v_seedNow v_h))) (vp_Si (fun x => x = res)) 0 0 (fun _ => False) := by
  refine S_in (cc := cX5_sizeOf) (maxL := 4) (ret := (some .int)) (by decide) rfl (Nat.le_of_ble_eq_true rfl) ?_
  intro p e s m args below meth c ls Q hQ C hr hlk hK hN hP hl
  have C : CallFix p m c cX5_sizeOf 4 s args wsX5_sizeOf RX5 := C
  have hx := C.1
  have hb := C.2.1
  have hl : lv_has ls 4 [(0, .ref h), (1, .int x1)] := hl
  have loop_4 : ∀ (n : Nat) (x2 : Int32) (x3 : Int32) (out : Int32), P5_sizeOf_4 v_forms v_cycleOf x1 n x2 x3 = some out → (∀ (ls : Array Slot), lv_has ls 4 [(2, .int out)] → W p l e rm5_sizeOf s m args below meth c s.heap [] 0 0 Q (F0 m 36 ls [])) → ∀ (ls : Array Slot), lv_has ls 4 [(0, .ref h), (1, .int x1), (2, .int x2), (3, .int x3)] → W p l e rm5_sizeOf s m args below meth c s.heap [] 0 0 Q (F0 m 4 ls []) := by
    intro n
    induction n with
    | zero =>
      intro x2 x3 out hrun K ls hl
      cases hrun
    | succ n ih =>
      intro x2 x3 out hrun K ls hl
      rw [P5_sizeOf_4] at hrun
      refine lv_iload_n hx hb dX5_sizeOf_4 rfl (lv_at hl 3 rfl) ?_
      refine lv_aload_n hx hb dX5_sizeOf_5 rfl (lv_at hl 0 rfl) ?_
      refine gM_forms C inm5_sizeOf hK hP fl5_sizeOf_212 dX5_sizeOf_6 ?_
      refine lv_icmp_ge (tgt := 36) hx hb dX5_sizeOf_9 rfl (fun c1 => ?_) (fun c1 => ?_)
      · have hrun := p_pos hrun c1
        cases hrun
        exact K _ (lv_sub hl [2] rfl)
      · have hrun := p_neg hrun c1
        refine lv_iload_n hx hb dX5_sizeOf_12 rfl (lv_at hl 2 rfl) ?_
        refine lv_aload_n hx hb dX5_sizeOf_13 rfl (lv_at hl 0 rfl) ?_
        refine gM_cycleOf C inm5_sizeOf hK hP fl5_sizeOf_31 dX5_sizeOf_14 ?_
        refine lv_iload_n hx hb dX5_sizeOf_17 rfl (lv_at hl 3 rfl) ?_
        obtain ⟨b2, hrun⟩ := p_chk hrun
        refine ldM_cycleOf C hK hP b2 dX5_sizeOf_18 ?_
        refine lv_iload_n hx hb dX5_sizeOf_19 rfl (lv_at hl 1 rfl) ?_
        refine lv_icmp_ne (tgt := 27) hx hb dX5_sizeOf_20 rfl (fun c3 => ?_) (fun c3 => ?_)
        · have hrun := p_neg hrun c3
          refine lv_iconst (v := 0) hx hb dX5_sizeOf_27 rfl ?_
          refine lv_iadd hx hb dX5_sizeOf_28 ?_
          refine lv_istore_n (lv' := [(2, .int (x2 + 0)), (0, .ref h), (1, .int x1), (3, .int x3)]) hx hb dX5_sizeOf_29 rfl hl (by decide) rfl (fun ls hl => ?_)
          refine lv_iinc (v := x3 + 1) (lv' := [(3, .int (x3 + 1)), (2, .int (x2 + 0)), (0, .ref h), (1, .int x1)]) hx hb dX5_sizeOf_30 hl (k := 3) rfl rfl (by decide) rfl (fun ls hl => ?_)
          refine lv_goto (tgt := 4) hx hb dX5_sizeOf_33 rfl ?_
          exact ih (x2 + 0) (x3 + 1) out hrun K _ (lv_sub hl [2, 3, 1, 0] rfl)
        · have hrun := p_pos hrun c3
          refine lv_iconst (v := 1) hx hb dX5_sizeOf_23 rfl ?_
          refine lv_goto (tgt := 28) hx hb dX5_sizeOf_24 rfl ?_
          refine lv_iadd hx hb dX5_sizeOf_28 ?_
          refine lv_istore_n (lv' := [(2, .int (x2 + 1)), (0, .ref h), (1, .int x1), (3, .int x3)]) hx hb dX5_sizeOf_29 rfl hl (by decide) rfl (fun ls hl => ?_)
          refine lv_iinc (v := x3 + 1) (lv' := [(3, .int (x3 + 1)), (2, .int (x2 + 1)), (0, .ref h), (1, .int x1)]) hx hb dX5_sizeOf_30 hl (k := 3) rfl rfl (by decide) rfl (fun ls hl => ?_)
          refine lv_goto (tgt := 4) hx hb dX5_sizeOf_33 rfl ?_
          exact ih (x2 + 1) (x3 + 1) out hrun K _ (lv_sub hl [2, 3, 1, 0] rfl)
  unfold P5_sizeOf at hrun
  refine lv_iconst (v := 0) hx hb dX5_sizeOf_0 rfl ?_
  refine lv_istore_n (lv' := [(2, .int 0), (0, .ref h), (1, .int x1)]) hx hb dX5_sizeOf_1 rfl hl (by decide) rfl (fun ls hl => ?_)
  refine lv_iconst (v := 0) hx hb dX5_sizeOf_2 rfl ?_
  refine lv_istore_n (lv' := [(3, .int 0), (2, .int 0), (0, .ref h), (1, .int x1)]) hx hb dX5_sizeOf_3 rfl hl (by decide) rfl (fun ls hl => ?_)
  obtain ⟨o4, h_o4, hrun⟩ := p_bnd hrun
  refine loop_4 FU 0 0 o4 h_o4 (fun ls hl => ?_) _ (lv_sub hl [2, 3, 1, 0] rfl)
  refine lv_iload_n hx hb dX5_sizeOf_36 rfl (lv_at hl 0 rfl) ?_
  cases hrun
  exact rS_i C hr hlk hQ (nbi _) rfl dX5_sizeOf_37

abbrev rm5_leftsOf : Room := { frames := 1, cells := 0, slots := 0, locals := 21 }
theorem fl5_leftsOf_31 : Cond.fieldLink RX5 31 "RiverWordsModel" "cycleOf" "[I" ∈ wsX5_leftsOf := by decide +kernel
theorem fl5_leftsOf_212 : Cond.fieldLink RX5 212 "RiverWordsModel" "forms" "I" ∈ wsX5_leftsOf := by decide +kernel
theorem inm5_leftsOf : ∀ w ∈ wsX50, w ∈ wsX5_leftsOf := fun w h => by unfold wsX5_leftsOf; first | exact List.mem_cons_of_mem _ (List.mem_append_right _ h) | exact List.mem_cons_of_mem _ h
theorem hd5_leftsOf : okD yX5_leftsOf 1 := by decide +kernel
set_option maxHeartbeats 8000000 in
set_option maxRecDepth 100000 in
theorem c5_leftsOf {x1 : Int32} {res : Int32} (hrun : P5_leftsOf v_forms v_formA v_formB v_formC v_cycleOf x1 = some res) : Met l yX5_leftsOf wsX5_leftsOf rm5_leftsOf (va_Pc [.ref h, .int x1] (PS D [(cA, .int)] (WM h ad cA v_pageLength v_page v_roads v_lengths v_signs v_wordsRead v_disc v_forms v_formA v_formB v_formC v_nextOf v_cycleOf v_cycles v_firstOf v_newLength v_newSigns v_mayRun v_size v_at v_otherSize v_other v_tableA v_tableB v_tableC v_tableD v_a v_b v_c v_grade v_flowA v_flowB v_flowC v_seedNow v_h))) (vp_Si (fun x => x = res)) 0 0 (fun _ => False) := by
  refine S_in (cc := cX5_leftsOf) (maxL := 4) (ret := (some .int)) (by decide) rfl (Nat.le_of_ble_eq_true rfl) ?_
  intro p e s m args below meth c ls Q hQ C hr hlk hK hN hP hl
  have C : CallFix p m c cX5_leftsOf 4 s args wsX5_leftsOf RX5 := C
  have hx := C.1
  have hb := C.2.1
  have hl : lv_has ls 4 [(0, .ref h), (1, .int x1)] := hl
  have loop_4 : ∀ (n : Nat) (x2 : Int32) (x3 : Int32) (out : Int32), P5_leftsOf_4 v_forms v_formA v_formB v_formC v_cycleOf x1 n x2 x3 = some out → (∀ (ls : Array Slot), lv_has ls 4 [(2, .int out)] → W p l e rm5_leftsOf s m args below meth c s.heap [] 0 0 Q (F0 m 44 ls [])) → ∀ (ls : Array Slot), lv_has ls 4 [(0, .ref h), (1, .int x1), (2, .int x2), (3, .int x3)] → W p l e rm5_leftsOf s m args below meth c s.heap [] 0 0 Q (F0 m 4 ls []) := by
    intro n
    induction n with
    | zero =>
      intro x2 x3 out hrun K ls hl
      cases hrun
    | succ n ih =>
      intro x2 x3 out hrun K ls hl
      rw [P5_leftsOf_4] at hrun
      refine lv_iload_n hx hb dX5_leftsOf_4 rfl (lv_at hl 3 rfl) ?_
      refine lv_aload_n hx hb dX5_leftsOf_5 rfl (lv_at hl 0 rfl) ?_
      refine gM_forms C inm5_leftsOf hK hP fl5_leftsOf_212 dX5_leftsOf_6 ?_
      refine lv_icmp_ge (tgt := 44) hx hb dX5_leftsOf_9 rfl (fun c1 => ?_) (fun c1 => ?_)
      · have hrun := p_pos hrun c1
        cases hrun
        exact K _ (lv_sub hl [2] rfl)
      · have hrun := p_neg hrun c1
        refine lv_iload_n hx hb dX5_leftsOf_12 rfl (lv_at hl 2 rfl) ?_
        refine lv_aload_n hx hb dX5_leftsOf_13 rfl (lv_at hl 0 rfl) ?_
        refine gM_cycleOf C inm5_leftsOf hK hP fl5_leftsOf_31 dX5_leftsOf_14 ?_
        refine lv_iload_n hx hb dX5_leftsOf_17 rfl (lv_at hl 3 rfl) ?_
        obtain ⟨b2, hrun⟩ := p_chk hrun
        refine ldM_cycleOf C hK hP b2 dX5_leftsOf_18 ?_
        refine lv_iload_n hx hb dX5_leftsOf_19 rfl (lv_at hl 1 rfl) ?_
        refine lv_icmp_ne (tgt := 35) hx hb dX5_leftsOf_20 rfl (fun c3 => ?_) (fun c3 => ?_)
        · have hrun := p_neg hrun c3
          refine lv_iconst (v := 0) hx hb dX5_leftsOf_35 rfl ?_
          refine lv_iadd hx hb dX5_leftsOf_36 ?_
          refine lv_istore_n (lv' := [(2, .int (x2 + 0)), (0, .ref h), (1, .int x1), (3, .int x3)]) hx hb dX5_leftsOf_37 rfl hl (by decide) rfl (fun ls hl => ?_)
          refine lv_iinc (v := x3 + 1) (lv' := [(3, .int (x3 + 1)), (2, .int (x2 + 0)), (0, .ref h), (1, .int x1)]) hx hb dX5_leftsOf_38 hl (k := 3) rfl rfl (by decide) rfl (fun ls hl => ?_)
          refine lv_goto (tgt := 4) hx hb dX5_leftsOf_41 rfl ?_
          exact ih (x2 + 0) (x3 + 1) out hrun K _ (lv_sub hl [2, 3, 1, 0] rfl)
        · have hrun := p_pos hrun c3
          refine lv_aload_n hx hb dX5_leftsOf_23 rfl (lv_at hl 0 rfl) ?_
          refine lv_iload_n hx hb dX5_leftsOf_24 rfl (lv_at hl 3 rfl) ?_
          obtain ⟨r4, h_r4, hrun⟩ := p_bnd hrun
          refine jVS_i (rest := [.int x2]) C (c5_isLeft h_r4) gX5_leftsOf_X5_isLeft hd5_isLeft hK hN hP rcM rfl ⟨rfl, rfl⟩ ⟨Nat.le_of_ble_eq_true rfl, Nat.le_of_ble_eq_true rfl⟩ rfl hl.1 rfl (Nat.le_of_ble_eq_true rfl) ⟨Nat.le_of_ble_eq_true rfl, Nat.le_of_ble_eq_true rfl⟩ dX5_leftsOf_25 ?_
          refine lv_if_eq (tgt := 35) hx hb dX5_leftsOf_28 rfl (fun c5 => ?_) (fun c5 => ?_)
          · have hrun := p_pos hrun c5
            refine lv_iconst (v := 0) hx hb dX5_leftsOf_35 rfl ?_
            refine lv_iadd hx hb dX5_leftsOf_36 ?_
            refine lv_istore_n (lv' := [(2, .int (x2 + 0)), (0, .ref h), (1, .int x1), (3, .int x3)]) hx hb dX5_leftsOf_37 rfl hl (by decide) rfl (fun ls hl => ?_)
            refine lv_iinc (v := x3 + 1) (lv' := [(3, .int (x3 + 1)), (2, .int (x2 + 0)), (0, .ref h), (1, .int x1)]) hx hb dX5_leftsOf_38 hl (k := 3) rfl rfl (by decide) rfl (fun ls hl => ?_)
            refine lv_goto (tgt := 4) hx hb dX5_leftsOf_41 rfl ?_
            exact ih (x2 + 0) (x3 + 1) out hrun K _ (lv_sub hl [2, 3, 1, 0] rfl)
          · have hrun := p_neg hrun c5
            refine lv_iconst (v := 1) hx hb dX5_leftsOf_31 rfl ?_
            refine lv_goto (tgt := 36) hx hb dX5_leftsOf_32 rfl ?_
            refine lv_iadd hx hb dX5_leftsOf_36 ?_
            refine lv_istore_n (lv' := [(2, .int (x2 + 1)), (0, .ref h), (1, .int x1), (3, .int x3)]) hx hb dX5_leftsOf_37 rfl hl (by decide) rfl (fun ls hl => ?_)
            refine lv_iinc (v := x3 + 1) (lv' := [(3, .int (x3 + 1)), (2, .int (x2 + 1)), (0, .ref h), (1, .int x1)]) hx hb dX5_leftsOf_38 hl (k := 3) rfl rfl (by decide) rfl (fun ls hl => ?_)
            refine lv_goto (tgt := 4) hx hb dX5_leftsOf_41 rfl ?_
            exact ih (x2 + 1) (x3 + 1) out hrun K _ (lv_sub hl [2, 3, 1, 0] rfl)
  unfold P5_leftsOf at hrun
  refine lv_iconst (v := 0) hx hb dX5_leftsOf_0 rfl ?_
  refine lv_istore_n (lv' := [(2, .int 0), (0, .ref h), (1, .int x1)]) hx hb dX5_leftsOf_1 rfl hl (by decide) rfl (fun ls hl => ?_)
  refine lv_iconst (v := 0) hx hb dX5_leftsOf_2 rfl ?_
  refine lv_istore_n (lv' := [(3, .int 0), (2, .int 0), (0, .ref h), (1, .int x1)]) hx hb dX5_leftsOf_3 rfl hl (by decide) rfl (fun ls hl => ?_)
  obtain ⟨o6, h_o6, hrun⟩ := p_bnd hrun
  refine loop_4 FU 0 0 o6 h_o6 (fun ls hl => ?_) _ (lv_sub hl [2, 3, 1, 0] rfl)
  refine lv_iload_n hx hb dX5_leftsOf_44 rfl (lv_at hl 0 rfl) ?_
  cases hrun
  exact rS_i C hr hlk hQ (nbi _) rfl dX5_leftsOf_45

abbrev rm5_cycleNow : Room := { frames := 2, cells := 0, slots := 0, locals := 46 }
theorem fl5_cycleNow_31 : Cond.fieldLink RX5 31 "RiverWordsModel" "cycleOf" "[I" ∈ wsX5_cycleNow := by decide +kernel
theorem fl5_cycleNow_34 : Cond.fieldLink RX5 34 "RiverWordsModel" "firstOf" "[I" ∈ wsX5_cycleNow := by decide +kernel
theorem inm5_cycleNow : ∀ w ∈ wsX50, w ∈ wsX5_cycleNow := fun w h => by unfold wsX5_cycleNow; first | exact List.mem_cons_of_mem _ (List.mem_append_right _ h) | exact List.mem_cons_of_mem _ h
theorem hd5_cycleNow : okD yX5_cycleNow 2 := by decide +kernel
set_option maxHeartbeats 8000000 in
set_option maxRecDepth 100000 in
theorem c5_cycleNow {x1 : Int32} {x2 : Int32} {res : Int32} (hrun : P5_cycleNow v_forms v_formA v_formB v_formC v_nextOf v_cycleOf v_firstOf x1 x2 = some res) : Met l yX5_cycleNow wsX5_cycleNow rm5_cycleNow (va_Pc [.ref h, .int x1, .int x2] (PS D [(cA, .int)] (WM h ad cA v_pageLength v_page v_roads v_lengths v_signs v_wordsRead v_disc v_forms v_formA v_formB v_formC v_nextOf v_cycleOf v_cycles v_firstOf v_newLength v_newSigns v_mayRun v_size v_at v_otherSize v_other v_tableA v_tableB v_tableC v_tableD v_a v_b v_c v_grade v_flowA v_flowB v_flowC v_seedNow v_h))) (vp_Si (fun x => x = res)) 0 0 (fun _ => False) := by
  refine S_in (cc := cX5_cycleNow) (maxL := 4) (ret := (some .int)) (by decide) rfl (Nat.le_of_ble_eq_true rfl) ?_
  intro p e s m args below meth c ls Q hQ C hr hlk hK hN hP hl
  have C : CallFix p m c cX5_cycleNow 4 s args wsX5_cycleNow RX5 := C
  have hx := C.1
  have hb := C.2.1
  have hl : lv_has ls 4 [(0, .ref h), (1, .int x1), (2, .int x2)] := hl
  unfold P5_cycleNow at hrun
  refine lv_aload_n hx hb dX5_cycleNow_0 rfl (lv_at hl 0 rfl) ?_
  refine gM_firstOf C inm5_cycleNow hK hP fl5_cycleNow_34 dX5_cycleNow_1 ?_
  refine lv_iload_n hx hb dX5_cycleNow_4 rfl (lv_at hl 1 rfl) ?_
  obtain ⟨b1, hrun⟩ := p_chk hrun
  refine ldM_firstOf C hK hP b1 dX5_cycleNow_5 ?_
  refine lv_istore_n (lv' := [(3, .int (v_firstOf (Int32.toNatClampNeg x1))), (0, .ref h), (1, .int x1), (2, .int x2)]) hx hb dX5_cycleNow_6 rfl hl (by decide) rfl (fun ls hl => ?_)
  refine lv_iload_n hx hb dX5_cycleNow_7 rfl (lv_at hl 3 rfl) ?_
  by_cases c2 : x2 = 0
  · have hrun := p_pos hrun c2
    refine j_tswIn  (tgt := 40) hx hb 0 c2 dX5_cycleNow_8 (by decide) (by decide) rfl rfl ?_
    refine lv_iload_n hx hb dX5_cycleNow_40 rfl (lv_at hl 0 rfl) ?_
    cases hrun
    exact rS_i C hr hlk hQ (nbi _) rfl dX5_cycleNow_41
  · have hrun := p_neg hrun c2
    by_cases c3 : x2 = 1
    · have hrun := p_pos hrun c3
      refine j_tswIn  (tgt := 42) hx hb 1 c3 dX5_cycleNow_8 (by decide) (by decide) rfl rfl ?_
      refine lv_aload_n hx hb dX5_cycleNow_42 rfl (lv_at hl 1 rfl) ?_
      refine lv_iload_n hx hb dX5_cycleNow_43 rfl (lv_at hl 2 rfl) ?_
      obtain ⟨r4, h_r4, hrun⟩ := p_bnd hrun
      refine jVS_i (rest := []) C (c5_sizeOf h_r4) gX5_cycleNow_X5_sizeOf hd5_sizeOf hK hN hP rcM rfl ⟨rfl, rfl⟩ ⟨Nat.le_of_ble_eq_true rfl, Nat.le_of_ble_eq_true rfl⟩ rfl hl.1 rfl (Nat.le_of_ble_eq_true rfl) ⟨Nat.le_of_ble_eq_true rfl, Nat.le_of_ble_eq_true rfl⟩ dX5_cycleNow_44 ?_
      cases hrun
      exact rS_i C hr hlk hQ (nbi _) rfl dX5_cycleNow_47
    · have hrun := p_neg hrun c3
      by_cases c5 : x2 = 2
      · have hrun := p_pos hrun c5
        refine j_tswIn  (tgt := 48) hx hb 2 c5 dX5_cycleNow_8 (by decide) (by decide) rfl rfl ?_
        refine lv_aload_n hx hb dX5_cycleNow_48 rfl (lv_at hl 1 rfl) ?_
        refine lv_iload_n hx hb dX5_cycleNow_49 rfl (lv_at hl 2 rfl) ?_
        obtain ⟨r6, h_r6, hrun⟩ := p_bnd hrun
        refine jVS_i (rest := []) C (c5_leftsOf h_r6) gX5_cycleNow_X5_leftsOf hd5_leftsOf hK hN hP rcM rfl ⟨rfl, rfl⟩ ⟨Nat.le_of_ble_eq_true rfl, Nat.le_of_ble_eq_true rfl⟩ rfl hl.1 rfl (Nat.le_of_ble_eq_true rfl) ⟨Nat.le_of_ble_eq_true rfl, Nat.le_of_ble_eq_true rfl⟩ dX5_cycleNow_50 ?_
        cases hrun
        exact rS_i C hr hlk hQ (nbi _) rfl dX5_cycleNow_53
      · have hrun := p_neg hrun c5
        by_cases c7 : x2 = 3
        · have hrun := p_pos hrun c7
          refine j_tswIn  (tgt := 54) hx hb 3 c7 dX5_cycleNow_8 (by decide) (by decide) rfl rfl ?_
          refine lv_aload_n hx hb dX5_cycleNow_54 rfl (lv_at hl 1 rfl) ?_
          refine gM_cycleOf C inm5_cycleNow hK hP fl5_cycleNow_31 dX5_cycleNow_55 ?_
          refine lv_aload_n hx hb dX5_cycleNow_58 rfl (lv_at hl 1 rfl) ?_
          refine lv_iload_n hx hb dX5_cycleNow_59 rfl (lv_at hl 0 rfl) ?_
          refine lv_bipush (v := 6) hx hb dX5_cycleNow_60 rfl ?_
          obtain ⟨r8, h_r8, hrun⟩ := p_bnd hrun
          refine jVS_i (rest := [.ref (ad 7)]) C (c5_simpleNow h_r8) gX5_cycleNow_X5_simpleNow hd5_simpleNow hK hN hP rcM rfl ⟨rfl, rfl⟩ ⟨Nat.le_of_ble_eq_true rfl, Nat.le_of_ble_eq_true rfl⟩ rfl hl.1 rfl (Nat.le_of_ble_eq_true rfl) ⟨Nat.le_of_ble_eq_true rfl, Nat.le_of_ble_eq_true rfl⟩ dX5_cycleNow_62 ?_
          obtain ⟨b9, hrun⟩ := p_chk hrun
          refine ldM_cycleOf C hK hP b9 dX5_cycleNow_65 ?_
          cases hrun
          exact rS_i C hr hlk hQ (nbi _) rfl dX5_cycleNow_66
        · have hrun := p_neg hrun c7
          refine lv_tableOut (tgt := 67) hx hb dX5_cycleNow_8 (j_tswOut (lo := 0) (hi := 3) [0, 1, 2, 3] (by decide) (fun k hk => by simp only [List.mem_cons, List.not_mem_nil, or_false] at hk; rcases hk with rfl | rfl | rfl | rfl <;> assumption)) rfl ?_
          refine lv_aload_n hx hb dX5_cycleNow_67 rfl (lv_at hl 1 rfl) ?_
          refine gM_cycleOf C inm5_cycleNow hK hP fl5_cycleNow_31 dX5_cycleNow_68 ?_
          refine lv_aload_n hx hb dX5_cycleNow_71 rfl (lv_at hl 1 rfl) ?_
          refine lv_iload_n hx hb dX5_cycleNow_72 rfl (lv_at hl 0 rfl) ?_
          refine lv_bipush (v := 7) hx hb dX5_cycleNow_73 rfl ?_
          obtain ⟨r10, h_r10, hrun⟩ := p_bnd hrun
          refine jVS_i (rest := [.ref (ad 7)]) C (c5_simpleNow h_r10) gX5_cycleNow_X5_simpleNow hd5_simpleNow hK hN hP rcM rfl ⟨rfl, rfl⟩ ⟨Nat.le_of_ble_eq_true rfl, Nat.le_of_ble_eq_true rfl⟩ rfl hl.1 rfl (Nat.le_of_ble_eq_true rfl) ⟨Nat.le_of_ble_eq_true rfl, Nat.le_of_ble_eq_true rfl⟩ dX5_cycleNow_75 ?_
          obtain ⟨b11, hrun⟩ := p_chk hrun
          refine ldM_cycleOf C hK hP b11 dX5_cycleNow_78 ?_
          cases hrun
          exact rS_i C hr hlk hQ (nbi _) rfl dX5_cycleNow_79

abbrev rm5_cycle : Room := { frames := 3, cells := 0, slots := 0, locals := 69 }
theorem k5_cycle_54 : Cond.constant RX5 54 (-2000000102) ∈ wsX5_cycle := by decide +kernel
theorem k5_cycle_145 : Cond.constant RX5 145 (-2000000101) ∈ wsX5_cycle := by decide +kernel
theorem hd5_cycle : okD yX5_cycle 2 := by decide +kernel
set_option maxHeartbeats 8000000 in
set_option maxRecDepth 100000 in
theorem c5_cycle {x1 : Int32} {x2 : Int32} {res : Int32} (hrun : P5_cycle v_forms v_formA v_formB v_formC v_nextOf v_cycleOf v_cycles v_firstOf x1 x2 = some res) : Met l yX5_cycle wsX5_cycle rm5_cycle (va_Pc [.ref h, .int x1, .int x2] (PS D [(cA, .int)] (WM h ad cA v_pageLength v_page v_roads v_lengths v_signs v_wordsRead v_disc v_forms v_formA v_formB v_formC v_nextOf v_cycleOf v_cycles v_firstOf v_newLength v_newSigns v_mayRun v_size v_at v_otherSize v_other v_tableA v_tableB v_tableC v_tableD v_a v_b v_c v_grade v_flowA v_flowB v_flowC v_seedNow v_h))) (vp_Si (fun x => x = res)) 0 0 (fun _ => False) := by
  refine S_in (cc := cX5_cycle) (maxL := 3) (ret := (some .int)) (by decide) rfl (Nat.le_of_ble_eq_true rfl) ?_
  intro p e s m args below meth c ls Q hQ C hr hlk hK hN hP hl
  have C : CallFix p m c cX5_cycle 3 s args wsX5_cycle RX5 := C
  have hx := C.1
  have hb := C.2.1
  have hl : lv_has ls 3 [(0, .ref h), (1, .int x1), (2, .int x2)] := hl
  unfold P5_cycle at hrun
  refine lv_aload_n hx hb dX5_cycle_0 rfl (lv_at hl 0 rfl) ?_
  refine lv_iload_n hx hb dX5_cycle_1 rfl (lv_at hl 1 rfl) ?_
  obtain ⟨r1, h_r1, hrun⟩ := p_bnd hrun
  refine jVS_i (rest := []) C (c5_isCycle h_r1) gX5_cycle_X5_isCycle hd5_isCycle hK hN hP rcM rfl ⟨rfl, rfl⟩ ⟨Nat.le_of_ble_eq_true rfl, Nat.le_of_ble_eq_true rfl⟩ rfl hl.1 rfl (Nat.le_of_ble_eq_true rfl) ⟨Nat.le_of_ble_eq_true rfl, Nat.le_of_ble_eq_true rfl⟩ dX5_cycle_2 ?_
  refine lv_if_ne (tgt := 13) hx hb dX5_cycle_5 rfl (fun c2 => ?_) (fun c2 => ?_)
  · have hrun := p_neg hrun c2
    refine lv_iload_n hx hb dX5_cycle_13 rfl (lv_at hl 2 rfl) ?_
    refine lv_iconst (v := 0) hx hb dX5_cycle_14 rfl ?_
    refine lv_iconst (v := 4) hx hb dX5_cycle_15 rfl ?_
    obtain ⟨r3, h_r3, hrun⟩ := p_bnd hrun
    refine jSS_i (rest := []) C (c5_within h_r3) gX5_cycle_X5_within hd5_within rfl ⟨rfl, rfl⟩ ⟨Nat.le_of_ble_eq_true rfl, Nat.le_of_ble_eq_true rfl⟩ rfl hl.1 rfl (Nat.le_of_ble_eq_true rfl) ⟨Nat.le_of_ble_eq_true rfl, Nat.le_of_ble_eq_true rfl⟩ dX5_cycle_16 ?_
    refine lv_if_eq (tgt := 31) hx hb dX5_cycle_19 rfl (fun c4 => ?_) (fun c4 => ?_)
    · have hrun := p_pos hrun c4
      refine lv_ldc (v := (-2000000102)) hx hb C.2.2.2.1 (C.2.2.2.2 _ k5_cycle_54) dX5_cycle_31 ?_
      cases hrun
      exact rS_i C hr hlk hQ (nbi _) rfl dX5_cycle_33
    · have hrun := p_neg hrun c4
      refine lv_aload_n hx hb dX5_cycle_22 rfl (lv_at hl 0 rfl) ?_
      refine lv_iload_n hx hb dX5_cycle_23 rfl (lv_at hl 1 rfl) ?_
      refine lv_iload_n hx hb dX5_cycle_24 rfl (lv_at hl 2 rfl) ?_
      obtain ⟨r5, h_r5, hrun⟩ := p_bnd hrun
      refine jVS_i (rest := []) C (c5_cycleNow h_r5) gX5_cycle_X5_cycleNow hd5_cycleNow hK hN hP rcM rfl ⟨rfl, rfl⟩ ⟨Nat.le_of_ble_eq_true rfl, Nat.le_of_ble_eq_true rfl⟩ rfl hl.1 rfl (Nat.le_of_ble_eq_true rfl) ⟨Nat.le_of_ble_eq_true rfl, Nat.le_of_ble_eq_true rfl⟩ dX5_cycle_25 ?_
      refine lv_goto (tgt := 33) hx hb dX5_cycle_28 rfl ?_
      cases hrun
      exact rS_i C hr hlk hQ (nbi _) rfl dX5_cycle_33
  · have hrun := p_pos hrun c2
    refine lv_ldc (v := (-2000000101)) hx hb C.2.2.2.1 (C.2.2.2.2 _ k5_cycle_145) dX5_cycle_8 ?_
    refine lv_goto (tgt := 33) hx hb dX5_cycle_10 rfl ?_
    cases hrun
    exact rS_i C hr hlk hQ (nbi _) rfl dX5_cycle_33

abbrev rm5_formAt : Room := { frames := 0, cells := 0, slots := 0, locals := 0 }
theorem fl5_formAt_28 : Cond.fieldLink RX5 28 "RiverWordsModel" "nextOf" "[I" ∈ wsX5_formAt := by decide +kernel
theorem fl5_formAt_34 : Cond.fieldLink RX5 34 "RiverWordsModel" "firstOf" "[I" ∈ wsX5_formAt := by decide +kernel
theorem inm5_formAt : ∀ w ∈ wsX50, w ∈ wsX5_formAt := fun w h => by unfold wsX5_formAt; first | exact List.mem_cons_of_mem _ (List.mem_append_right _ h) | exact List.mem_cons_of_mem _ h
theorem hd5_formAt : okD yX5_formAt 2 := by decide +kernel
set_option maxHeartbeats 8000000 in
set_option maxRecDepth 100000 in
theorem c5_formAt {x1 : Int32} {x2 : Int32} {res : Int32} (hrun : P5_formAt v_nextOf v_firstOf x1 x2 = some res) : Met l yX5_formAt wsX5_formAt rm5_formAt (va_Pc [.ref h, .int x1, .int x2] (PS D [(cA, .int)] (WM h ad cA v_pageLength v_page v_roads v_lengths v_signs v_wordsRead v_disc v_forms v_formA v_formB v_formC v_nextOf v_cycleOf v_cycles v_firstOf v_newLength v_newSigns v_mayRun v_size v_at v_otherSize v_other v_tableA v_tableB v_tableC v_tableD v_a v_b v_c v_grade v_flowA v_flowB v_flowC v_seedNow v_h))) (vp_Si (fun x => x = res)) 0 0 (fun _ => False) := by
  refine S_in (cc := cX5_formAt) (maxL := 5) (ret := (some .int)) (by decide) rfl (Nat.le_of_ble_eq_true rfl) ?_
  intro p e s m args below meth c ls Q hQ C hr hlk hK hN hP hl
  have C : CallFix p m c cX5_formAt 5 s args wsX5_formAt RX5 := C
  have hx := C.1
  have hb := C.2.1
  have hl : lv_has ls 5 [(0, .ref h), (1, .int x1), (2, .int x2)] := hl
  have loop_10 : ∀ (n : Nat) (x3 : Int32) (x4 : Int32) (out : Int32), P5_formAt_10 v_nextOf x2 n x3 x4 = some out → (∀ (ls : Array Slot), lv_has ls 5 [(3, .int out)] → W p l e rm5_formAt s m args below meth c s.heap [] 0 0 Q (F0 m 29 ls [])) → ∀ (ls : Array Slot), lv_has ls 5 [(0, .ref h), (2, .int x2), (3, .int x3), (4, .int x4)] → W p l e rm5_formAt s m args below meth c s.heap [] 0 0 Q (F0 m 10 ls []) := by
    intro n
    induction n with
    | zero =>
      intro x3 x4 out hrun K ls hl
      cases hrun
    | succ n ih =>
      intro x3 x4 out hrun K ls hl
      rw [P5_formAt_10] at hrun
      refine lv_iload hx hb dX5_formAt_10 (lv_at hl 3 rfl) ?_
      refine lv_iload_n hx hb dX5_formAt_12 rfl (lv_at hl 1 rfl) ?_
      refine lv_icmp_ge (tgt := 29) hx hb dX5_formAt_13 rfl (fun c2 => ?_) (fun c2 => ?_)
      · have hrun := p_pos hrun c2
        cases hrun
        exact K _ (lv_sub hl [2] rfl)
      · have hrun := p_neg hrun c2
        refine lv_aload_n hx hb dX5_formAt_16 rfl (lv_at hl 0 rfl) ?_
        refine gM_nextOf C inm5_formAt hK hP fl5_formAt_28 dX5_formAt_17 ?_
        refine lv_iload_n hx hb dX5_formAt_20 rfl (lv_at hl 2 rfl) ?_
        obtain ⟨b3, hrun⟩ := p_chk hrun
        refine ldM_nextOf C hK hP b3 dX5_formAt_21 ?_
        refine lv_istore_n (lv' := [(3, .int (v_nextOf (Int32.toNatClampNeg x3))), (0, .ref h), (2, .int x2), (4, .int x4)]) hx hb dX5_formAt_22 rfl hl (by decide) rfl (fun ls hl => ?_)
        refine lv_iinc (v := x4 + 1) (lv' := [(4, .int (x4 + 1)), (3, .int (v_nextOf (Int32.toNatClampNeg x3))), (0, .ref h), (2, .int x2)]) hx hb dX5_formAt_23 hl (k := 3) rfl rfl (by decide) rfl (fun ls hl => ?_)
        refine lv_goto (tgt := 10) hx hb dX5_formAt_26 rfl ?_
        exact ih (v_nextOf (Int32.toNatClampNeg x3)) (x4 + 1) out hrun K _ (lv_sub hl [2, 3, 1, 0] rfl)
  unfold P5_formAt at hrun
  refine lv_aload_n hx hb dX5_formAt_0 rfl (lv_at hl 0 rfl) ?_
  refine gM_firstOf C inm5_formAt hK hP fl5_formAt_34 dX5_formAt_1 ?_
  refine lv_iload_n hx hb dX5_formAt_4 rfl (lv_at hl 1 rfl) ?_
  obtain ⟨b1, hrun⟩ := p_chk hrun
  refine ldM_firstOf C hK hP b1 dX5_formAt_5 ?_
  refine lv_istore_n (lv' := [(3, .int (v_firstOf (Int32.toNatClampNeg x1))), (0, .ref h), (1, .int x1), (2, .int x2)]) hx hb dX5_formAt_6 rfl hl (by decide) rfl (fun ls hl => ?_)
  refine lv_iconst (v := 0) hx hb dX5_formAt_7 rfl ?_
  refine lv_istore (lv' := [(4, .int 0), (3, .int (v_firstOf (Int32.toNatClampNeg x1))), (0, .ref h), (1, .int x1), (2, .int x2)]) hx hb dX5_formAt_8 hl (by decide) rfl (fun ls hl => ?_)
  obtain ⟨o4, h_o4, hrun⟩ := p_bnd hrun
  refine loop_10 FU (v_firstOf (Int32.toNatClampNeg x1)) 0 o4 h_o4 (fun ls hl => ?_) _ (lv_sub hl [2, 4, 1, 0] rfl)
  refine lv_iload_n hx hb dX5_formAt_29 rfl (lv_at hl 0 rfl) ?_
  cases hrun
  exact rS_i C hr hlk hQ (nbi _) rfl dX5_formAt_30

end M58
