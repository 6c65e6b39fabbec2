section M510
variable {l : Launch} {D : va_G} {sz : Nat}
variable {h : Nat} {ad : Nat → Nat} {cA : ClassId}
variable {v_pageLength v_roads v_wordsRead v_disc v_forms v_cycles v_newLength v_mayRun v_size v_otherSize v_tableA v_tableB v_tableC v_tableD v_a v_b v_c v_grade v_flowA v_flowB v_flowC : Int32}
variable {v_seedNow v_h : Int64}
variable {v_page v_lengths v_signs v_formA v_formB v_formC v_nextOf v_cycleOf v_firstOf v_newSigns v_at v_other : Nat → Int32}
abbrev rm5_flowStep : Room := { frames := 1, cells := 0, slots := 0, locals := 20 }
theorem fl5_flowStep_257 : Cond.fieldLink RX5 257 "RiverWordsModel" "flowA" "I" ∈ wsX5_flowStep := by decide +kernel
theorem fl5_flowStep_260 : Cond.fieldLink RX5 260 "RiverWordsModel" "flowB" "I" ∈ wsX5_flowStep := by decide +kernel
theorem fl5_flowStep_263 : Cond.fieldLink RX5 263 "RiverWordsModel" "flowC" "I" ∈ wsX5_flowStep := by decide +kernel
theorem inm5_flowStep : ∀ w ∈ wsX50, w ∈ wsX5_flowStep := fun w h => by unfold wsX5_flowStep; first | exact List.mem_cons_of_mem _ (List.mem_append_right _ h) | exact List.mem_cons_of_mem _ h
theorem hd5_flowStep : okD yX5_flowStep 0 := by decide +kernel
set_option maxHeartbeats 8000000 in
set_option maxRecDepth 100000 in
theorem c5_flowStep {res : Int32 × Int32 × Int32} (hrun : P5_flowStep v_flowA v_flowB v_flowC = some res) : Met l yX5_flowStep wsX5_flowStep rm5_flowStep (va_Pc [.ref h] (PE D [(cA, .int)] sz (WM0 h ad cA) (WM h ad cA v_pageLength v_page v_roads v_lengths v_signs v_wordsRead v_disc v_forms v_formA v_formB v_formC v_nextOf v_cycleOf v_cycles v_firstOf v_newLength v_newSigns v_mayRun v_size v_at v_otherSize v_other v_tableA v_tableB v_tableC v_tableD v_a v_b v_c v_grade v_flowA v_flowB v_flowC v_seedNow v_h))) (va_Qv (fun _ : Unit => True) (fun _ t => va_P D vwCl (WM h ad cA v_pageLength v_page v_roads v_lengths v_signs v_wordsRead v_disc v_forms v_formA v_formB v_formC v_nextOf v_cycleOf v_cycles v_firstOf v_newLength v_newSigns v_mayRun v_size v_at v_otherSize v_other v_tableA v_tableB v_tableC v_tableD v_a v_b v_c v_grade res.1 res.2.1 res.2.2 v_seedNow v_h) t.heap) (va_A (WM0 h ad cA) sz)) 0 0 (va_A (WM0 h ad cA) sz) := by
  refine E_in (cc := cX5_flowStep) (maxL := 3) (ret := none) (by decide) rfl (Nat.le_of_ble_eq_true rfl) ?_
  intro p e s m args below meth c ls Q hQ C hr hlk hK hN hD hA I hl
  have C : CallFix p m c cX5_flowStep 3 s args wsX5_flowStep RX5 := C
  have hx := C.1
  have hb := C.2.1
  have hl : lv_has ls 3 [(0, .ref h)] := hl
  unfold P5_flowStep at hrun
  refine lv_aload_n hx hb dX5_flowStep_0 rfl (lv_at hl 0 rfl) ?_
  refine gM_flowA C inm5_flowStep hK I.1 fl5_flowStep_257 dX5_flowStep_1 ?_
  refine lv_if_le (tgt := 11) hx hb dX5_flowStep_4 rfl (fun c1 => ?_) (fun c1 => ?_)
  · have hrun := p_pos hrun c1
    refine lv_iconst (v := 0) hx hb dX5_flowStep_11 rfl ?_
    refine lv_aload_n hx hb dX5_flowStep_12 rfl (lv_at hl 0 rfl) ?_
    refine gM_flowB C inm5_flowStep hK I.1 fl5_flowStep_260 dX5_flowStep_13 ?_
    refine lv_if_le (tgt := 23) hx hb dX5_flowStep_16 rfl (fun c2 => ?_) (fun c2 => ?_)
    · have hrun := p_pos hrun c2
      refine lv_iconst (v := 0) hx hb dX5_flowStep_23 rfl ?_
      refine lv_icmp_ne (tgt := 31) hx hb dX5_flowStep_24 rfl (fun c => absurd rfl c) (fun _ => ?_)
      refine lv_iconst (v := (-1)) hx hb dX5_flowStep_27 rfl ?_
      refine lv_goto (tgt := 32) hx hb dX5_flowStep_28 rfl ?_
      refine lv_istore_n (lv' := [(1, .int (-1)), (0, .ref h)]) hx hb dX5_flowStep_32 rfl hl (by decide) rfl (fun ls hl => ?_)
      refine lv_aload_n hx hb dX5_flowStep_33 rfl (lv_at hl 1 rfl) ?_
      refine gM_flowA C inm5_flowStep hK I.1 fl5_flowStep_257 dX5_flowStep_34 ?_
      refine lv_aload_n hx hb dX5_flowStep_37 rfl (lv_at hl 1 rfl) ?_
      refine gM_flowC C inm5_flowStep hK I.1 fl5_flowStep_263 dX5_flowStep_38 ?_
      refine lv_iadd hx hb dX5_flowStep_41 ?_
      refine lv_iload_n hx hb dX5_flowStep_42 rfl (lv_at hl 0 rfl) ?_
      refine lv_aload_n hx hb dX5_flowStep_43 rfl (lv_at hl 1 rfl) ?_
      refine gM_flowB C inm5_flowStep hK I.1 fl5_flowStep_260 dX5_flowStep_44 ?_
      refine lv_imul hx hb dX5_flowStep_47 ?_
      refine lv_iadd hx hb dX5_flowStep_48 ?_
      refine lv_istore_n (lv' := [(2, .int ((v_flowA + v_flowC) + ((-1) * v_flowB))), (1, .int (-1)), (0, .ref h)]) hx hb dX5_flowStep_49 rfl hl (by decide) rfl (fun ls hl => ?_)
      refine lv_aload_n hx hb dX5_flowStep_50 rfl (lv_at hl 2 rfl) ?_
      refine gM_flowA C inm5_flowStep hK I.1 fl5_flowStep_257 dX5_flowStep_51 ?_
      obtain ⟨r3, h_r3, hrun⟩ := p_bnd hrun
      refine jSS_i (rest := []) C (c5_abs h_r3) gX5_flowStep_X5_abs hd5_abs rfl ⟨rfl, rfl⟩ ⟨Nat.le_of_ble_eq_true rfl, Nat.le_of_ble_eq_true rfl⟩ rfl hl.1 rfl (Nat.le_of_ble_eq_true rfl) ⟨Nat.le_of_ble_eq_true rfl, Nat.le_of_ble_eq_true rfl⟩ dX5_flowStep_54 ?_
      refine lv_aload_n hx hb dX5_flowStep_57 rfl (lv_at hl 2 rfl) ?_
      refine gM_flowC C inm5_flowStep hK I.1 fl5_flowStep_263 dX5_flowStep_58 ?_
      obtain ⟨r4, h_r4, hrun⟩ := p_bnd hrun
      refine jSS_i (rest := [.int r3]) C (c5_abs h_r4) gX5_flowStep_X5_abs hd5_abs rfl ⟨rfl, rfl⟩ ⟨Nat.le_of_ble_eq_true rfl, Nat.le_of_ble_eq_true rfl⟩ rfl hl.1 rfl (Nat.le_of_ble_eq_true rfl) ⟨Nat.le_of_ble_eq_true rfl, Nat.le_of_ble_eq_true rfl⟩ dX5_flowStep_61 ?_
      refine lv_icmp_lt (tgt := 92) hx hb dX5_flowStep_64 rfl (fun c5 => ?_) (fun c5 => ?_)
      · have hrun := p_pos hrun c5
        refine lv_aload_n hx hb dX5_flowStep_92 rfl (lv_at hl 2 rfl) ?_
        refine lv_dup hx hb dX5_flowStep_93 rfl ?_
        refine gM_flowB C inm5_flowStep hK I.1 fl5_flowStep_260 dX5_flowStep_94 ?_
        refine lv_iconst (v := 2) hx hb dX5_flowStep_97 rfl ?_
        refine lv_iload_n hx hb dX5_flowStep_98 rfl (lv_at hl 1 rfl) ?_
        refine lv_imul hx hb dX5_flowStep_99 ?_
        refine lv_aload_n hx hb dX5_flowStep_100 rfl (lv_at hl 2 rfl) ?_
        refine gM_flowA C inm5_flowStep hK I.1 fl5_flowStep_257 dX5_flowStep_101 ?_
        refine lv_imul hx hb dX5_flowStep_104 ?_
        refine lv_iadd hx hb dX5_flowStep_105 ?_
        refine pM_flowB C inm5_flowStep hK hD I fl5_flowStep_260 dX5_flowStep_106 (fun H locs I => ?_)
        refine lv_aload_n hx hb dX5_flowStep_109 rfl (lv_at hl 2 rfl) ?_
        refine lv_iload_n hx hb dX5_flowStep_110 rfl (lv_at hl 0 rfl) ?_
        refine pM_flowC C inm5_flowStep hK hD I fl5_flowStep_263 dX5_flowStep_111 (fun H locs I => ?_)
        cases hrun
        exact rE_v C hr hlk hQ I dX5_flowStep_114
      · have hrun := p_neg hrun c5
        refine lv_aload_n hx hb dX5_flowStep_67 rfl (lv_at hl 2 rfl) ?_
        refine lv_dup hx hb dX5_flowStep_68 rfl ?_
        refine gM_flowB C inm5_flowStep hK I.1 fl5_flowStep_260 dX5_flowStep_69 ?_
        refine lv_iconst (v := 2) hx hb dX5_flowStep_72 rfl ?_
        refine lv_iload_n hx hb dX5_flowStep_73 rfl (lv_at hl 1 rfl) ?_
        refine lv_imul hx hb dX5_flowStep_74 ?_
        refine lv_aload_n hx hb dX5_flowStep_75 rfl (lv_at hl 2 rfl) ?_
        refine gM_flowC C inm5_flowStep hK I.1 fl5_flowStep_263 dX5_flowStep_76 ?_
        refine lv_imul hx hb dX5_flowStep_79 ?_
        refine lv_iadd hx hb dX5_flowStep_80 ?_
        refine pM_flowB C inm5_flowStep hK hD I fl5_flowStep_260 dX5_flowStep_81 (fun H locs I => ?_)
        refine lv_aload_n hx hb dX5_flowStep_84 rfl (lv_at hl 2 rfl) ?_
        refine lv_iload_n hx hb dX5_flowStep_85 rfl (lv_at hl 0 rfl) ?_
        refine pM_flowA C inm5_flowStep hK hD I fl5_flowStep_257 dX5_flowStep_86 (fun H locs I => ?_)
        refine lv_goto (tgt := 114) hx hb dX5_flowStep_89 rfl ?_
        cases hrun
        exact rE_v C hr hlk hQ I dX5_flowStep_114
    · have hrun := p_neg hrun c2
      refine lv_iconst (v := 1) hx hb dX5_flowStep_19 rfl ?_
      refine lv_goto (tgt := 24) hx hb dX5_flowStep_20 rfl ?_
      refine lv_icmp_ne (tgt := 31) hx hb dX5_flowStep_24 rfl (fun _ => ?_) (fun c => absurd c (by decide))
      refine lv_iconst (v := 1) hx hb dX5_flowStep_31 rfl ?_
      refine lv_istore_n (lv' := [(1, .int 1), (0, .ref h)]) hx hb dX5_flowStep_32 rfl hl (by decide) rfl (fun ls hl => ?_)
      refine lv_aload_n hx hb dX5_flowStep_33 rfl (lv_at hl 1 rfl) ?_
      refine gM_flowA C inm5_flowStep hK I.1 fl5_flowStep_257 dX5_flowStep_34 ?_
      refine lv_aload_n hx hb dX5_flowStep_37 rfl (lv_at hl 1 rfl) ?_
      refine gM_flowC C inm5_flowStep hK I.1 fl5_flowStep_263 dX5_flowStep_38 ?_
      refine lv_iadd hx hb dX5_flowStep_41 ?_
      refine lv_iload_n hx hb dX5_flowStep_42 rfl (lv_at hl 0 rfl) ?_
      refine lv_aload_n hx hb dX5_flowStep_43 rfl (lv_at hl 1 rfl) ?_
      refine gM_flowB C inm5_flowStep hK I.1 fl5_flowStep_260 dX5_flowStep_44 ?_
      refine lv_imul hx hb dX5_flowStep_47 ?_
      refine lv_iadd hx hb dX5_flowStep_48 ?_
      refine lv_istore_n (lv' := [(2, .int ((v_flowA + v_flowC) + (1 * v_flowB))), (1, .int 1), (0, .ref h)]) hx hb dX5_flowStep_49 rfl hl (by decide) rfl (fun ls hl => ?_)
      refine lv_aload_n hx hb dX5_flowStep_50 rfl (lv_at hl 2 rfl) ?_
      refine gM_flowA C inm5_flowStep hK I.1 fl5_flowStep_257 dX5_flowStep_51 ?_
      obtain ⟨r6, h_r6, hrun⟩ := p_bnd hrun
      refine jSS_i (rest := []) C (c5_abs h_r6) gX5_flowStep_X5_abs hd5_abs rfl ⟨rfl, rfl⟩ ⟨Nat.le_of_ble_eq_true rfl, Nat.le_of_ble_eq_true rfl⟩ rfl hl.1 rfl (Nat.le_of_ble_eq_true rfl) ⟨Nat.le_of_ble_eq_true rfl, Nat.le_of_ble_eq_true rfl⟩ dX5_flowStep_54 ?_
      refine lv_aload_n hx hb dX5_flowStep_57 rfl (lv_at hl 2 rfl) ?_
      refine gM_flowC C inm5_flowStep hK I.1 fl5_flowStep_263 dX5_flowStep_58 ?_
      obtain ⟨r7, h_r7, hrun⟩ := p_bnd hrun
      refine jSS_i (rest := [.int r6]) C (c5_abs h_r7) gX5_flowStep_X5_abs hd5_abs rfl ⟨rfl, rfl⟩ ⟨Nat.le_of_ble_eq_true rfl, Nat.le_of_ble_eq_true rfl⟩ rfl hl.1 rfl (Nat.le_of_ble_eq_true rfl) ⟨Nat.le_of_ble_eq_true rfl, Nat.le_of_ble_eq_true rfl⟩ dX5_flowStep_61 ?_
      refine lv_icmp_lt (tgt := 92) hx hb dX5_flowStep_64 rfl (fun c8 => ?_) (fun c8 => ?_)
      · have hrun := p_pos hrun c8
        refine lv_aload_n hx hb dX5_flowStep_92 rfl (lv_at hl 2 rfl) ?_
        refine lv_dup hx hb dX5_flowStep_93 rfl ?_
        refine gM_flowB C inm5_flowStep hK I.1 fl5_flowStep_260 dX5_flowStep_94 ?_
        refine lv_iconst (v := 2) hx hb dX5_flowStep_97 rfl ?_
        refine lv_iload_n hx hb dX5_flowStep_98 rfl (lv_at hl 1 rfl) ?_
        refine lv_imul hx hb dX5_flowStep_99 ?_
        refine lv_aload_n hx hb dX5_flowStep_100 rfl (lv_at hl 2 rfl) ?_
        refine gM_flowA C inm5_flowStep hK I.1 fl5_flowStep_257 dX5_flowStep_101 ?_
        refine lv_imul hx hb dX5_flowStep_104 ?_
        refine lv_iadd hx hb dX5_flowStep_105 ?_
        refine pM_flowB C inm5_flowStep hK hD I fl5_flowStep_260 dX5_flowStep_106 (fun H locs I => ?_)
        refine lv_aload_n hx hb dX5_flowStep_109 rfl (lv_at hl 2 rfl) ?_
        refine lv_iload_n hx hb dX5_flowStep_110 rfl (lv_at hl 0 rfl) ?_
        refine pM_flowC C inm5_flowStep hK hD I fl5_flowStep_263 dX5_flowStep_111 (fun H locs I => ?_)
        cases hrun
        exact rE_v C hr hlk hQ I dX5_flowStep_114
      · have hrun := p_neg hrun c8
        refine lv_aload_n hx hb dX5_flowStep_67 rfl (lv_at hl 2 rfl) ?_
        refine lv_dup hx hb dX5_flowStep_68 rfl ?_
        refine gM_flowB C inm5_flowStep hK I.1 fl5_flowStep_260 dX5_flowStep_69 ?_
        refine lv_iconst (v := 2) hx hb dX5_flowStep_72 rfl ?_
        refine lv_iload_n hx hb dX5_flowStep_73 rfl (lv_at hl 1 rfl) ?_
        refine lv_imul hx hb dX5_flowStep_74 ?_
        refine lv_aload_n hx hb dX5_flowStep_75 rfl (lv_at hl 2 rfl) ?_
        refine gM_flowC C inm5_flowStep hK I.1 fl5_flowStep_263 dX5_flowStep_76 ?_
        refine lv_imul hx hb dX5_flowStep_79 ?_
        refine lv_iadd hx hb dX5_flowStep_80 ?_
        refine pM_flowB C inm5_flowStep hK hD I fl5_flowStep_260 dX5_flowStep_81 (fun H locs I => ?_)
        refine lv_aload_n hx hb dX5_flowStep_84 rfl (lv_at hl 2 rfl) ?_
        refine lv_iload_n hx hb dX5_flowStep_85 rfl (lv_at hl 0 rfl) ?_
        refine pM_flowA C inm5_flowStep hK hD I fl5_flowStep_257 dX5_flowStep_86 (fun H locs I => ?_)
        refine lv_goto (tgt := 114) hx hb dX5_flowStep_89 rfl ?_
        cases hrun
        exact rE_v C hr hlk hQ I dX5_flowStep_114
  · have hrun := p_neg hrun c1
    refine lv_iconst (v := 1) hx hb dX5_flowStep_7 rfl ?_
    refine lv_goto (tgt := 12) hx hb dX5_flowStep_8 rfl ?_
    refine lv_aload_n hx hb dX5_flowStep_12 rfl (lv_at hl 0 rfl) ?_
    refine gM_flowB C inm5_flowStep hK I.1 fl5_flowStep_260 dX5_flowStep_13 ?_
    refine lv_if_le (tgt := 23) hx hb dX5_flowStep_16 rfl (fun c9 => ?_) (fun c9 => ?_)
    · have hrun := p_pos hrun c9
      refine lv_iconst (v := 0) hx hb dX5_flowStep_23 rfl ?_
      refine lv_icmp_ne (tgt := 31) hx hb dX5_flowStep_24 rfl (fun _ => ?_) (fun c => absurd c (by decide))
      refine lv_iconst (v := 1) hx hb dX5_flowStep_31 rfl ?_
      refine lv_istore_n (lv' := [(1, .int 1), (0, .ref h)]) hx hb dX5_flowStep_32 rfl hl (by decide) rfl (fun ls hl => ?_)
      refine lv_aload_n hx hb dX5_flowStep_33 rfl (lv_at hl 1 rfl) ?_
      refine gM_flowA C inm5_flowStep hK I.1 fl5_flowStep_257 dX5_flowStep_34 ?_
      refine lv_aload_n hx hb dX5_flowStep_37 rfl (lv_at hl 1 rfl) ?_
      refine gM_flowC C inm5_flowStep hK I.1 fl5_flowStep_263 dX5_flowStep_38 ?_
      refine lv_iadd hx hb dX5_flowStep_41 ?_
      refine lv_iload_n hx hb dX5_flowStep_42 rfl (lv_at hl 0 rfl) ?_
      refine lv_aload_n hx hb dX5_flowStep_43 rfl (lv_at hl 1 rfl) ?_
      refine gM_flowB C inm5_flowStep hK I.1 fl5_flowStep_260 dX5_flowStep_44 ?_
      refine lv_imul hx hb dX5_flowStep_47 ?_
      refine lv_iadd hx hb dX5_flowStep_48 ?_
      refine lv_istore_n (lv' := [(2, .int ((v_flowA + v_flowC) + (1 * v_flowB))), (1, .int 1), (0, .ref h)]) hx hb dX5_flowStep_49 rfl hl (by decide) rfl (fun ls hl => ?_)
      refine lv_aload_n hx hb dX5_flowStep_50 rfl (lv_at hl 2 rfl) ?_
      refine gM_flowA C inm5_flowStep hK I.1 fl5_flowStep_257 dX5_flowStep_51 ?_
      obtain ⟨r10, h_r10, hrun⟩ := p_bnd hrun
      refine jSS_i (rest := []) C (c5_abs h_r10) gX5_flowStep_X5_abs hd5_abs rfl ⟨rfl, rfl⟩ ⟨Nat.le_of_ble_eq_true rfl, Nat.le_of_ble_eq_true rfl⟩ rfl hl.1 rfl (Nat.le_of_ble_eq_true rfl) ⟨Nat.le_of_ble_eq_true rfl, Nat.le_of_ble_eq_true rfl⟩ dX5_flowStep_54 ?_
      refine lv_aload_n hx hb dX5_flowStep_57 rfl (lv_at hl 2 rfl) ?_
      refine gM_flowC C inm5_flowStep hK I.1 fl5_flowStep_263 dX5_flowStep_58 ?_
      obtain ⟨r11, h_r11, hrun⟩ := p_bnd hrun
      refine jSS_i (rest := [.int r10]) C (c5_abs h_r11) gX5_flowStep_X5_abs hd5_abs rfl ⟨rfl, rfl⟩ ⟨Nat.le_of_ble_eq_true rfl, Nat.le_of_ble_eq_true rfl⟩ rfl hl.1 rfl (Nat.le_of_ble_eq_true rfl) ⟨Nat.le_of_ble_eq_true rfl, Nat.le_of_ble_eq_true rfl⟩ dX5_flowStep_61 ?_
      refine lv_icmp_lt (tgt := 92) hx hb dX5_flowStep_64 rfl (fun c12 => ?_) (fun c12 => ?_)
      · have hrun := p_pos hrun c12
        refine lv_aload_n hx hb dX5_flowStep_92 rfl (lv_at hl 2 rfl) ?_
        refine lv_dup hx hb dX5_flowStep_93 rfl ?_
        refine gM_flowB C inm5_flowStep hK I.1 fl5_flowStep_260 dX5_flowStep_94 ?_
        refine lv_iconst (v := 2) hx hb dX5_flowStep_97 rfl ?_
        refine lv_iload_n hx hb dX5_flowStep_98 rfl (lv_at hl 1 rfl) ?_
        refine lv_imul hx hb dX5_flowStep_99 ?_
        refine lv_aload_n hx hb dX5_flowStep_100 rfl (lv_at hl 2 rfl) ?_
        refine gM_flowA C inm5_flowStep hK I.1 fl5_flowStep_257 dX5_flowStep_101 ?_
        refine lv_imul hx hb dX5_flowStep_104 ?_
        refine lv_iadd hx hb dX5_flowStep_105 ?_
        refine pM_flowB C inm5_flowStep hK hD I fl5_flowStep_260 dX5_flowStep_106 (fun H locs I => ?_)
        refine lv_aload_n hx hb dX5_flowStep_109 rfl (lv_at hl 2 rfl) ?_
        refine lv_iload_n hx hb dX5_flowStep_110 rfl (lv_at hl 0 rfl) ?_
        refine pM_flowC C inm5_flowStep hK hD I fl5_flowStep_263 dX5_flowStep_111 (fun H locs I => ?_)
        cases hrun
        exact rE_v C hr hlk hQ I dX5_flowStep_114
      · have hrun := p_neg hrun c12
        refine lv_aload_n hx hb dX5_flowStep_67 rfl (lv_at hl 2 rfl) ?_
        refine lv_dup hx hb dX5_flowStep_68 rfl ?_
        refine gM_flowB C inm5_flowStep hK I.1 fl5_flowStep_260 dX5_flowStep_69 ?_
        refine lv_iconst (v := 2) hx hb dX5_flowStep_72 rfl ?_
        refine lv_iload_n hx hb dX5_flowStep_73 rfl (lv_at hl 1 rfl) ?_
        refine lv_imul hx hb dX5_flowStep_74 ?_
        refine lv_aload_n hx hb dX5_flowStep_75 rfl (lv_at hl 2 rfl) ?_
        refine gM_flowC C inm5_flowStep hK I.1 fl5_flowStep_263 dX5_flowStep_76 ?_
        refine lv_imul hx hb dX5_flowStep_79 ?_
        refine lv_iadd hx hb dX5_flowStep_80 ?_
        refine pM_flowB C inm5_flowStep hK hD I fl5_flowStep_260 dX5_flowStep_81 (fun H locs I => ?_)
        refine lv_aload_n hx hb dX5_flowStep_84 rfl (lv_at hl 2 rfl) ?_
        refine lv_iload_n hx hb dX5_flowStep_85 rfl (lv_at hl 0 rfl) ?_
        refine pM_flowA C inm5_flowStep hK hD I fl5_flowStep_257 dX5_flowStep_86 (fun H locs I => ?_)
        refine lv_goto (tgt := 114) hx hb dX5_flowStep_89 rfl ?_
        cases hrun
        exact rE_v C hr hlk hQ I dX5_flowStep_114
    · have hrun := p_neg hrun c9
      refine lv_iconst (v := 1) hx hb dX5_flowStep_19 rfl ?_
      refine lv_goto (tgt := 24) hx hb dX5_flowStep_20 rfl ?_
      refine lv_icmp_ne (tgt := 31) hx hb dX5_flowStep_24 rfl (fun c => absurd rfl c) (fun _ => ?_)
      refine lv_iconst (v := (-1)) hx hb dX5_flowStep_27 rfl ?_
      refine lv_goto (tgt := 32) hx hb dX5_flowStep_28 rfl ?_
      refine lv_istore_n (lv' := [(1, .int (-1)), (0, .ref h)]) hx hb dX5_flowStep_32 rfl hl (by decide) rfl (fun ls hl => ?_)
      refine lv_aload_n hx hb dX5_flowStep_33 rfl (lv_at hl 1 rfl) ?_
      refine gM_flowA C inm5_flowStep hK I.1 fl5_flowStep_257 dX5_flowStep_34 ?_
      refine lv_aload_n hx hb dX5_flowStep_37 rfl (lv_at hl 1 rfl) ?_
      refine gM_flowC C inm5_flowStep hK I.1 fl5_flowStep_263 dX5_flowStep_38 ?_
      refine lv_iadd hx hb dX5_flowStep_41 ?_
      refine lv_iload_n hx hb dX5_flowStep_42 rfl (lv_at hl 0 rfl) ?_
      refine lv_aload_n hx hb dX5_flowStep_43 rfl (lv_at hl 1 rfl) ?_
      refine gM_flowB C inm5_flowStep hK I.1 fl5_flowStep_260 dX5_flowStep_44 ?_
      refine lv_imul hx hb dX5_flowStep_47 ?_
      refine lv_iadd hx hb dX5_flowStep_48 ?_
      refine lv_istore_n (lv' := [(2, .int ((v_flowA + v_flowC) + ((-1) * v_flowB))), (1, .int (-1)), (0, .ref h)]) hx hb dX5_flowStep_49 rfl hl (by decide) rfl (fun ls hl => ?_)
      refine lv_aload_n hx hb dX5_flowStep_50 rfl (lv_at hl 2 rfl) ?_
      refine gM_flowA C inm5_flowStep hK I.1 fl5_flowStep_257 dX5_flowStep_51 ?_
      obtain ⟨r13, h_r13, hrun⟩ := p_bnd hrun
      refine jSS_i (rest := []) C (c5_abs h_r13) gX5_flowStep_X5_abs hd5_abs rfl ⟨rfl, rfl⟩ ⟨Nat.le_of_ble_eq_true rfl, Nat.le_of_ble_eq_true rfl⟩ rfl hl.1 rfl (Nat.le_of_ble_eq_true rfl) ⟨Nat.le_of_ble_eq_true rfl, Nat.le_of_ble_eq_true rfl⟩ dX5_flowStep_54 ?_
      refine lv_aload_n hx hb dX5_flowStep_57 rfl (lv_at hl 2 rfl) ?_
      refine gM_flowC C inm5_flowStep hK I.1 fl5_flowStep_263 dX5_flowStep_58 ?_
      obtain ⟨r14, h_r14, hrun⟩ := p_bnd hrun
      refine jSS_i (rest := [.int r13]) C (c5_abs h_r14) gX5_flowStep_X5_abs hd5_abs rfl ⟨rfl, rfl⟩ ⟨Nat.le_of_ble_eq_true rfl, Nat.le_of_ble_eq_true rfl⟩ rfl hl.1 rfl (Nat.le_of_ble_eq_true rfl) ⟨Nat.le_of_ble_eq_true rfl, Nat.le_of_ble_eq_true rfl⟩ dX5_flowStep_61 ?_
      refine lv_icmp_lt (tgt := 92) hx hb dX5_flowStep_64 rfl (fun c15 => ?_) (fun c15 => ?_)
      · have hrun := p_pos hrun c15
        refine lv_aload_n hx hb dX5_flowStep_92 rfl (lv_at hl 2 rfl) ?_
        refine lv_dup hx hb dX5_flowStep_93 rfl ?_
        refine gM_flowB C inm5_flowStep hK I.1 fl5_flowStep_260 dX5_flowStep_94 ?_
        refine lv_iconst (v := 2) hx hb dX5_flowStep_97 rfl ?_
        refine lv_iload_n hx hb dX5_flowStep_98 rfl (lv_at hl 1 rfl) ?_
        refine lv_imul hx hb dX5_flowStep_99 ?_
        refine lv_aload_n hx hb dX5_flowStep_100 rfl (lv_at hl 2 rfl) ?_
        refine gM_flowA C inm5_flowStep hK I.1 fl5_flowStep_257 dX5_flowStep_101 ?_
        refine lv_imul hx hb dX5_flowStep_104 ?_
        refine lv_iadd hx hb dX5_flowStep_105 ?_
        refine pM_flowB C inm5_flowStep hK hD I fl5_flowStep_260 dX5_flowStep_106 (fun H locs I => ?_)
        refine lv_aload_n hx hb dX5_flowStep_109 rfl (lv_at hl 2 rfl) ?_
        refine lv_iload_n hx hb dX5_flowStep_110 rfl (lv_at hl 0 rfl) ?_
        refine pM_flowC C inm5_flowStep hK hD I fl5_flowStep_263 dX5_flowStep_111 (fun H locs I => ?_)
        cases hrun
        exact rE_v C hr hlk hQ I dX5_flowStep_114
      · have hrun := p_neg hrun c15
        refine lv_aload_n hx hb dX5_flowStep_67 rfl (lv_at hl 2 rfl) ?_
        refine lv_dup hx hb dX5_flowStep_68 rfl ?_
        refine gM_flowB C inm5_flowStep hK I.1 fl5_flowStep_260 dX5_flowStep_69 ?_
        refine lv_iconst (v := 2) hx hb dX5_flowStep_72 rfl ?_
        refine lv_iload_n hx hb dX5_flowStep_73 rfl (lv_at hl 1 rfl) ?_
        refine lv_imul hx hb dX5_flowStep_74 ?_
        refine lv_aload_n hx hb dX5_flowStep_75 rfl (lv_at hl 2 rfl) ?_
        refine gM_flowC C inm5_flowStep hK I.1 fl5_flowStep_263 dX5_flowStep_76 ?_
        refine lv_imul hx hb dX5_flowStep_79 ?_
        refine lv_iadd hx hb dX5_flowStep_80 ?_
        refine pM_flowB C inm5_flowStep hK hD I fl5_flowStep_260 dX5_flowStep_81 (fun H locs I => ?_)
        refine lv_aload_n hx hb dX5_flowStep_84 rfl (lv_at hl 2 rfl) ?_
        refine lv_iload_n hx hb dX5_flowStep_85 rfl (lv_at hl 0 rfl) ?_
        refine pM_flowA C inm5_flowStep hK hD I fl5_flowStep_257 dX5_flowStep_86 (fun H locs I => ?_)
        refine lv_goto (tgt := 114) hx hb dX5_flowStep_89 rfl ?_
        cases hrun
        exact rE_v C hr hlk hQ I dX5_flowStep_114

abbrev rm5_flowNow : Room := { frames := 2, cells := 0, slots := 0, locals := 42 }
theorem fl5_flowNow_257 : Cond.fieldLink RX5 257 "RiverWordsModel" "flowA" "I" ∈ wsX5_flowNow := by decide +kernel
theorem fl5_flowNow_260 : Cond.fieldLink RX5 260 "RiverWordsModel" "flowB" "I" ∈ wsX5_flowNow := by decide +kernel
theorem fl5_flowNow_263 : Cond.fieldLink RX5 263 "RiverWordsModel" "flowC" "I" ∈ wsX5_flowNow := by decide +kernel
theorem inm5_flowNow : ∀ w ∈ wsX50, w ∈ wsX5_flowNow := fun w h => by unfold wsX5_flowNow; first | exact List.mem_cons_of_mem _ (List.mem_append_right _ h) | exact List.mem_cons_of_mem _ h
theorem hd5_flowNow : okD yX5_flowNow 1 := by decide +kernel
set_option maxHeartbeats 8000000 in
set_option maxRecDepth 100000 in
theorem c5_flowNow {x1 : Int32} {res : Int32 × Int32 × Int32 × Int32} (hrun : P5_flowNow v_forms v_formA v_formB v_formC v_flowA v_flowB v_flowC x1 = some res) : Met l yX5_flowNow wsX5_flowNow rm5_flowNow (va_Pc [.ref h, .int x1] (PE D [(cA, .int)] sz (WM0 h ad cA) (WM h ad cA v_pageLength v_page v_roads v_lengths v_signs v_wordsRead v_disc v_forms v_formA v_formB v_formC v_nextOf v_cycleOf v_cycles v_firstOf v_newLength v_newSigns v_mayRun v_size v_at v_otherSize v_other v_tableA v_tableB v_tableC v_tableD v_a v_b v_c v_grade v_flowA v_flowB v_flowC v_seedNow v_h))) (va_Qi (fun (x : Int32) (_ : Unit) => x = res.1) (fun _ t => va_P D vwCl (WM h ad cA v_pageLength v_page v_roads v_lengths v_signs v_wordsRead v_disc v_forms v_formA v_formB v_formC v_nextOf v_cycleOf v_cycles v_firstOf v_newLength v_newSigns v_mayRun v_size v_at v_otherSize v_other v_tableA v_tableB v_tableC v_tableD v_a v_b v_c v_grade res.2.1 res.2.2.1 res.2.2.2 v_seedNow v_h) t.heap) (va_A (WM0 h ad cA) sz)) 0 0 (va_A (WM0 h ad cA) sz) := by
  refine E_in (cc := cX5_flowNow) (maxL := 3) (ret := (some .int)) (by decide) rfl (Nat.le_of_ble_eq_true rfl) ?_
  intro p e s m args below meth c ls Q hQ C hr hlk hK hN hD hA I hl
  have C : CallFix p m c cX5_flowNow 3 s args wsX5_flowNow RX5 := C
  have hx := C.1
  have hb := C.2.1
  have hl : lv_has ls 3 [(0, .ref h), (1, .int x1)] := hl
  have loop_2 : ∀ (n : Nat) (v_flowA : Int32) (v_flowB : Int32) (v_flowC : Int32) (x2 : Int32) (out : Int32 × Int32 × Int32 × Int32), P5_flowNow_2 n v_flowA v_flowB v_flowC x2 = some out → (∀ (H : Heap) (locs : List Loc) (ls : Array Slot), IM D (va_A (WM0 h ad cA) sz) s.heap H locs (WM h ad cA v_pageLength v_page v_roads v_lengths v_signs v_wordsRead v_disc v_forms v_formA v_formB v_formC v_nextOf v_cycleOf v_cycles v_firstOf v_newLength v_newSigns v_mayRun v_size v_at v_otherSize v_other v_tableA v_tableB v_tableC v_tableD v_a v_b v_c v_grade out.1 out.2.1 out.2.2.1 v_seedNow v_h) → lv_has ls 3 [(0, .ref h), (1, .int x1), (2, .int out.2.2.2)] → W p l e rm5_flowNow s m args below meth c H locs 0 0 Q (F0 m 39 ls [])) → ∀ (H : Heap) (locs : List Loc) (ls : Array Slot), IM D (va_A (WM0 h ad cA) sz) s.heap H locs (WM h ad cA v_pageLength v_page v_roads v_lengths v_signs v_wordsRead v_disc v_forms v_formA v_formB v_formC v_nextOf v_cycleOf v_cycles v_firstOf v_newLength v_newSigns v_mayRun v_size v_at v_otherSize v_other v_tableA v_tableB v_tableC v_tableD v_a v_b v_c v_grade v_flowA v_flowB v_flowC v_seedNow v_h) → lv_has ls 3 [(0, .ref h), (1, .int x1), (2, .int x2)] → W p l e rm5_flowNow s m args below meth c H locs 0 0 Q (F0 m 2 ls []) := by
    intro n
    induction n with
    | zero =>
      intro v_flowA v_flowB v_flowC x2 out hrun K H locs ls I hl
      cases hrun
    | succ n ih =>
      intro v_flowA v_flowB v_flowC x2 out hrun K H locs ls I hl
      rw [P5_flowNow_2] at hrun
      refine lv_aload_n hx hb dX5_flowNow_2 rfl (lv_at hl 0 rfl) ?_
      refine gM_flowA C inm5_flowNow hK I.1 fl5_flowNow_257 dX5_flowNow_3 ?_
      refine lv_if_le (tgt := 13) hx hb dX5_flowNow_6 rfl (fun c1 => ?_) (fun c1 => ?_)
      · have hrun := p_pos hrun c1
        refine lv_iconst (v := 0) hx hb dX5_flowNow_13 rfl ?_
        refine lv_aload_n hx hb dX5_flowNow_14 rfl (lv_at hl 0 rfl) ?_
        refine gM_flowC C inm5_flowNow hK I.1 fl5_flowNow_263 dX5_flowNow_15 ?_
        refine lv_if_le (tgt := 25) hx hb dX5_flowNow_18 rfl (fun c2 => ?_) (fun c2 => ?_)
        · have hrun := p_pos hrun c2
          refine lv_iconst (v := 0) hx hb dX5_flowNow_25 rfl ?_
          refine lv_icmp_ne (tgt := 39) hx hb dX5_flowNow_26 rfl (fun c => absurd rfl c) (fun _ => ?_)
          refine lv_aload_n hx hb dX5_flowNow_29 rfl (lv_at hl 0 rfl) ?_
          obtain ⟨r3, h_r3, hrun⟩ := p_bnd hrun
          refine jVE_v (rest := []) C (c5_flowStep h_r3) gX5_flowNow_X5_flowStep hd5_flowStep hK hN hD hA I rcM rfl ⟨rfl, rfl⟩ ⟨Nat.le_of_ble_eq_true rfl, Nat.le_of_ble_eq_true rfl⟩ rfl hl.1 rfl (Nat.le_of_ble_eq_true rfl) ⟨Nat.le_of_ble_eq_true rfl, Nat.le_of_ble_eq_true rfl⟩ dX5_flowNow_30 (fun H locs I => ?_)
          refine lv_iinc (v := x2 + 1) (lv' := [(2, .int (x2 + 1)), (0, .ref h), (1, .int x1)]) hx hb dX5_flowNow_33 hl (k := 2) rfl rfl (by decide) rfl (fun ls hl => ?_)
          refine lv_goto (tgt := 2) hx hb dX5_flowNow_36 rfl ?_
          exact ih r3.1 r3.2.1 r3.2.2 (x2 + 1) out hrun K _ _ _ I (lv_sub hl [1, 2, 0] rfl)
        · have hrun := p_neg hrun c2
          refine lv_iconst (v := 1) hx hb dX5_flowNow_21 rfl ?_
          refine lv_goto (tgt := 26) hx hb dX5_flowNow_22 rfl ?_
          refine lv_icmp_ne (tgt := 39) hx hb dX5_flowNow_26 rfl (fun _ => ?_) (fun c => absurd c (by decide))
          cases hrun
          exact K _ _ _ I (lv_sub hl [0, 1, 2] rfl)
      · have hrun := p_neg hrun c1
        refine lv_iconst (v := 1) hx hb dX5_flowNow_9 rfl ?_
        refine lv_goto (tgt := 14) hx hb dX5_flowNow_10 rfl ?_
        refine lv_aload_n hx hb dX5_flowNow_14 rfl (lv_at hl 0 rfl) ?_
        refine gM_flowC C inm5_flowNow hK I.1 fl5_flowNow_263 dX5_flowNow_15 ?_
        refine lv_if_le (tgt := 25) hx hb dX5_flowNow_18 rfl (fun c4 => ?_) (fun c4 => ?_)
        · have hrun := p_pos hrun c4
          refine lv_iconst (v := 0) hx hb dX5_flowNow_25 rfl ?_
          refine lv_icmp_ne (tgt := 39) hx hb dX5_flowNow_26 rfl (fun _ => ?_) (fun c => absurd c (by decide))
          cases hrun
          exact K _ _ _ I (lv_sub hl [0, 1, 2] rfl)
        · have hrun := p_neg hrun c4
          refine lv_iconst (v := 1) hx hb dX5_flowNow_21 rfl ?_
          refine lv_goto (tgt := 26) hx hb dX5_flowNow_22 rfl ?_
          refine lv_icmp_ne (tgt := 39) hx hb dX5_flowNow_26 rfl (fun c => absurd rfl c) (fun _ => ?_)
          refine lv_aload_n hx hb dX5_flowNow_29 rfl (lv_at hl 0 rfl) ?_
          obtain ⟨r5, h_r5, hrun⟩ := p_bnd hrun
          refine jVE_v (rest := []) C (c5_flowStep h_r5) gX5_flowNow_X5_flowStep hd5_flowStep hK hN hD hA I rcM rfl ⟨rfl, rfl⟩ ⟨Nat.le_of_ble_eq_true rfl, Nat.le_of_ble_eq_true rfl⟩ rfl hl.1 rfl (Nat.le_of_ble_eq_true rfl) ⟨Nat.le_of_ble_eq_true rfl, Nat.le_of_ble_eq_true rfl⟩ dX5_flowNow_30 (fun H locs I => ?_)
          refine lv_iinc (v := x2 + 1) (lv' := [(2, .int (x2 + 1)), (0, .ref h), (1, .int x1)]) hx hb dX5_flowNow_33 hl (k := 2) rfl rfl (by decide) rfl (fun ls hl => ?_)
          refine lv_goto (tgt := 2) hx hb dX5_flowNow_36 rfl ?_
          exact ih r5.1 r5.2.1 r5.2.2 (x2 + 1) out hrun K _ _ _ I (lv_sub hl [1, 2, 0] rfl)
  unfold P5_flowNow at hrun
  refine lv_iconst (v := 0) hx hb dX5_flowNow_0 rfl ?_
  refine lv_istore_n (lv' := [(2, .int 0), (0, .ref h), (1, .int x1)]) hx hb dX5_flowNow_1 rfl hl (by decide) rfl (fun ls hl => ?_)
  obtain ⟨o6, h_o6, hrun⟩ := p_bnd hrun
  refine loop_2 FU v_flowA v_flowB v_flowC 0 o6 h_o6 (fun H locs ls I hl => ?_) _ _ _ I (lv_sub hl [1, 2, 0] rfl)
  refine lv_iload_n hx hb dX5_flowNow_39 rfl (lv_at hl 1 rfl) ?_
  refine lv_if_eq (tgt := 45) hx hb dX5_flowNow_40 rfl (fun c7 => ?_) (fun c7 => ?_)
  · have hrun := p_pos hrun c7
    refine lv_aload_n hx hb dX5_flowNow_45 rfl (lv_at hl 0 rfl) ?_
    refine gM_flowA C inm5_flowNow hK I.1 fl5_flowNow_257 dX5_flowNow_46 ?_
    refine lv_if_le (tgt := 71) hx hb dX5_flowNow_49 rfl (fun c8 => ?_) (fun c8 => ?_)
    · have hrun := p_pos hrun c8
      refine lv_aload_n hx hb dX5_flowNow_71 rfl (lv_at hl 0 rfl) ?_
      refine lv_aload_n hx hb dX5_flowNow_72 rfl (lv_at hl 0 rfl) ?_
      refine gM_flowC C inm5_flowNow hK I.1 fl5_flowNow_263 dX5_flowNow_73 ?_
      refine lv_aload_n hx hb dX5_flowNow_76 rfl (lv_at hl 0 rfl) ?_
      refine gM_flowB C inm5_flowNow hK I.1 fl5_flowNow_260 dX5_flowNow_77 ?_
      refine lv_ineg hx hb dX5_flowNow_80 ?_
      refine lv_aload_n hx hb dX5_flowNow_81 rfl (lv_at hl 0 rfl) ?_
      refine gM_flowA C inm5_flowNow hK I.1 fl5_flowNow_257 dX5_flowNow_82 ?_
      obtain ⟨r9, h_r9, hrun⟩ := p_bnd hrun
      refine jVS_i (rest := []) C (c5_numberOf h_r9) gX5_flowNow_X5_numberOf hd5_numberOf hK hN I.1 rcM rfl ⟨rfl, rfl⟩ ⟨Nat.le_of_ble_eq_true rfl, Nat.le_of_ble_eq_true rfl⟩ rfl hl.1 rfl (Nat.le_of_ble_eq_true rfl) ⟨Nat.le_of_ble_eq_true rfl, Nat.le_of_ble_eq_true rfl⟩ dX5_flowNow_85 ?_
      cases hrun
      exact rE_i C hr hlk hQ I (nbi _) rfl dX5_flowNow_88
    · have hrun := p_neg hrun c8
      refine lv_aload_n hx hb dX5_flowNow_52 rfl (lv_at hl 0 rfl) ?_
      refine lv_aload_n hx hb dX5_flowNow_53 rfl (lv_at hl 0 rfl) ?_
      refine gM_flowA C inm5_flowNow hK I.1 fl5_flowNow_257 dX5_flowNow_54 ?_
      refine lv_aload_n hx hb dX5_flowNow_57 rfl (lv_at hl 0 rfl) ?_
      refine gM_flowB C inm5_flowNow hK I.1 fl5_flowNow_260 dX5_flowNow_58 ?_
      refine lv_aload_n hx hb dX5_flowNow_61 rfl (lv_at hl 0 rfl) ?_
      refine gM_flowC C inm5_flowNow hK I.1 fl5_flowNow_263 dX5_flowNow_62 ?_
      obtain ⟨r10, h_r10, hrun⟩ := p_bnd hrun
      refine jVS_i (rest := []) C (c5_numberOf h_r10) gX5_flowNow_X5_numberOf hd5_numberOf hK hN I.1 rcM rfl ⟨rfl, rfl⟩ ⟨Nat.le_of_ble_eq_true rfl, Nat.le_of_ble_eq_true rfl⟩ rfl hl.1 rfl (Nat.le_of_ble_eq_true rfl) ⟨Nat.le_of_ble_eq_true rfl, Nat.le_of_ble_eq_true rfl⟩ dX5_flowNow_65 ?_
      refine lv_goto (tgt := 88) hx hb dX5_flowNow_68 rfl ?_
      cases hrun
      exact rE_i C hr hlk hQ I (nbi _) rfl dX5_flowNow_88
  · have hrun := p_neg hrun c7
    refine lv_iload_n hx hb dX5_flowNow_43 rfl (lv_at hl 2 rfl) ?_
    cases hrun
    exact rE_i C hr hlk hQ I (nbi _) rfl dX5_flowNow_44

end M510
