section M56
variable {l : Launch} {D : va_G} {sz : Nat}
variable {h : Nat} {ad : Nat → Nat} {cA : ClassId}
variable {v_pageLength v_roads v_wordsRead v_disc v_forms v_cycles v_newLength v_mayRun v_size v_otherSize v_tableA v_tableB v_tableC v_tableD v_a v_b v_c v_grade v_flowA v_flowB v_flowC : Int32}
variable {v_seedNow v_h : Int64}
variable {v_page v_lengths v_signs v_formA v_formB v_formC v_nextOf v_cycleOf v_firstOf v_newSigns v_at v_other : Nat → Int32}
abbrev rm5_layCut : Room := { frames := 0, cells := 0, slots := 0, locals := 0 }
theorem fl5_layCut_37 : Cond.fieldLink RX5 37 "RiverWordsModel" "newSigns" "[I" ∈ wsX5_layCut := by decide +kernel
theorem fl5_layCut_60 : Cond.fieldLink RX5 60 "RiverWordsModel" "newLength" "I" ∈ wsX5_layCut := by decide +kernel
theorem inm5_layCut : ∀ w ∈ wsX50, w ∈ wsX5_layCut := fun w h => by unfold wsX5_layCut; first | exact List.mem_cons_of_mem _ (List.mem_append_right _ h) | exact List.mem_cons_of_mem _ h
theorem hd5_layCut : okD yX5_layCut 2 := by decide +kernel
set_option maxHeartbeats 8000000 in
set_option maxRecDepth 100000 in
theorem c5_layCut {x1 : Int32} {x2 : Int32} {res : Int32 × Int32 × (Nat → Int32)} (hrun : P5_layCut v_newSigns x1 x2 = some res) : Met l yX5_layCut wsX5_layCut rm5_layCut (va_Pc [.ref h, .int x1, .int x2] (PE D [(cA, .int)] sz (WM0 h ad cA) (WM h ad cA v_pageLength v_page v_roads v_lengths v_signs v_wordsRead v_disc v_forms v_formA v_formB v_formC v_nextOf v_cycleOf v_cycles v_firstOf v_newLength v_newSigns v_mayRun v_size v_at v_otherSize v_other v_tableA v_tableB v_tableC v_tableD v_a v_b v_c v_grade v_flowA v_flowB v_flowC v_seedNow v_h))) (va_Qi (fun (x : Int32) (_ : Unit) => x = res.1) (fun _ t => va_P D vwCl (WM h ad cA v_pageLength v_page v_roads v_lengths v_signs v_wordsRead v_disc v_forms v_formA v_formB v_formC v_nextOf v_cycleOf v_cycles v_firstOf res.2.1 res.2.2 v_mayRun v_size v_at v_otherSize v_other v_tableA v_tableB v_tableC v_tableD v_a v_b v_c v_grade v_flowA v_flowB v_flowC v_seedNow v_h) t.heap) (va_A (WM0 h ad cA) sz)) 0 0 (va_A (WM0 h ad cA) sz) := by
  refine E_in (cc := cX5_layCut) (maxL := 7) (ret := (some .int)) (by decide) rfl (Nat.le_of_ble_eq_true rfl) ?_
  intro p e s m args below meth c ls Q hQ C hr hlk hK hN hD hA I hl
  have C : CallFix p m c cX5_layCut 7 s args wsX5_layCut RX5 := C
  have hx := C.1
  have hb := C.2.1
  have hl : lv_has ls 7 [(0, .ref h), (1, .int x1), (2, .int x2)] := hl
  have loop_13 : ∀ (n : Nat) (v_newLength : Int32) (v_newSigns : Nat → Int32) (x3 : Int32) (x4 : Int32) (x5 : Int32) (out : Int32 × (Nat → Int32) × Int32), P5_layCut_13 n v_newLength v_newSigns x3 x4 x5 = some out → (∀ (H : Heap) (locs : List Loc) (ls : Array Slot), IM D (va_A (WM0 h ad cA) sz) s.heap H locs (WM h ad cA v_pageLength v_page v_roads v_lengths v_signs v_wordsRead v_disc v_forms v_formA v_formB v_formC v_nextOf v_cycleOf v_cycles v_firstOf out.1 out.2.1 v_mayRun v_size v_at v_otherSize v_other v_tableA v_tableB v_tableC v_tableD v_a v_b v_c v_grade v_flowA v_flowB v_flowC v_seedNow v_h) → lv_has ls 7 [(5, .int out.2.2)] → W p l e rm5_layCut s m args below meth c H locs 0 0 Q (F0 m 101 ls [])) → ∀ (H : Heap) (locs : List Loc) (ls : Array Slot), IM D (va_A (WM0 h ad cA) sz) s.heap H locs (WM h ad cA v_pageLength v_page v_roads v_lengths v_signs v_wordsRead v_disc v_forms v_formA v_formB v_formC v_nextOf v_cycleOf v_cycles v_firstOf v_newLength v_newSigns v_mayRun v_size v_at v_otherSize v_other v_tableA v_tableB v_tableC v_tableD v_a v_b v_c v_grade v_flowA v_flowB v_flowC v_seedNow v_h) → lv_has ls 7 [(0, .ref h), (3, .int x3), (4, .int x4), (5, .int x5)] → W p l e rm5_layCut s m args below meth c H locs 0 0 Q (F0 m 13 ls []) := by
    intro n
    induction n with
    | zero =>
      intro v_newLength v_newSigns x3 x4 x5 out hrun K H locs ls I hl
      cases hrun
    | succ n ih =>
      intro v_newLength v_newSigns x3 x4 x5 out hrun K H locs ls I hl
      rw [P5_layCut_13] at hrun
      refine lv_iload_n hx hb dX5_layCut_13 rfl (lv_at hl 1 rfl) ?_
      refine lv_iload hx hb dX5_layCut_14 (lv_at hl 2 rfl) ?_
      refine lv_icmp_eq (tgt := 101) hx hb dX5_layCut_16 rfl (fun c1 => ?_) (fun c1 => ?_)
      · have hrun := p_pos hrun c1
        cases hrun
        exact K _ _ _ I (lv_sub hl [3] rfl)
      · have hrun := p_neg hrun c1
        refine lv_iload_n hx hb dX5_layCut_19 rfl (lv_at hl 1 rfl) ?_
        refine lv_iload hx hb dX5_layCut_20 (lv_at hl 2 rfl) ?_
        refine lv_icmp_le (tgt := 29) hx hb dX5_layCut_22 rfl (fun c2 => ?_) (fun c2 => ?_)
        · have hrun := p_pos hrun c2
          refine lv_iconst (v := 0) hx hb dX5_layCut_29 rfl ?_
          refine lv_istore (lv' := [(6, .int 0), (0, .ref h), (3, .int x3), (4, .int x4), (5, .int x5)]) hx hb dX5_layCut_30 hl (by decide) rfl (fun ls hl => ?_)
          refine lv_iload hx hb dX5_layCut_32 (lv_at hl 4 rfl) ?_
          refine lv_bipush (v := 20) hx hb dX5_layCut_34 rfl ?_
          refine lv_icmp_ge (tgt := 66) hx hb dX5_layCut_36 rfl (fun c3 => ?_) (fun c3 => ?_)
          · have hrun := p_pos hrun c3
            refine lv_iinc (v := x5 + 1) (lv' := [(5, .int (x5 + 1)), (6, .int 0), (0, .ref h), (3, .int x3), (4, .int x4)]) hx hb dX5_layCut_66 hl (k := 4) rfl rfl (by decide) rfl (fun ls hl => ?_)
            refine lv_iload_n hx hb dX5_layCut_69 rfl (lv_at hl 3 rfl) ?_
            refine lv_iload hx hb dX5_layCut_70 (lv_at hl 1 rfl) ?_
            refine lv_if_eq (tgt := 80) hx hb dX5_layCut_72 rfl (fun _ => ?_) (fun c => absurd (by decide) c)
            refine lv_iconst (v := 0) hx hb dX5_layCut_80 rfl ?_
            refine lv_isub hx hb dX5_layCut_81 ?_
            refine lv_istore_n (lv' := [(3, .int (x3 - 0)), (5, .int (x5 + 1)), (6, .int 0), (0, .ref h), (4, .int x4)]) hx hb dX5_layCut_82 rfl hl (by decide) rfl (fun ls hl => ?_)
            refine lv_iload hx hb dX5_layCut_83 (lv_at hl 4 rfl) ?_
            refine lv_iload hx hb dX5_layCut_85 (lv_at hl 2 rfl) ?_
            refine lv_if_eq (tgt := 94) hx hb dX5_layCut_87 rfl (fun _ => ?_) (fun c => absurd (by decide) c)
            refine lv_iload_n hx hb dX5_layCut_94 rfl (lv_at hl 0 rfl) ?_
            refine lv_isub hx hb dX5_layCut_95 ?_
            refine lv_istore (lv' := [(4, .int (x4 - (x3 - 0))), (3, .int (x3 - 0)), (5, .int (x5 + 1)), (6, .int 0), (0, .ref h)]) hx hb dX5_layCut_96 hl (by decide) rfl (fun ls hl => ?_)
            refine lv_goto (tgt := 13) hx hb dX5_layCut_98 rfl ?_
            exact ih v_newLength v_newSigns (x3 - 0) (x4 - (x3 - 0)) (x5 + 1) out hrun K _ _ _ I (lv_sub hl [4, 1, 0, 2] rfl)
          · have hrun := p_neg hrun c3
            refine lv_aload_n hx hb dX5_layCut_39 rfl (lv_at hl 1 rfl) ?_
            refine gM_newSigns C inm5_layCut hK I.1 fl5_layCut_37 dX5_layCut_40 ?_
            refine lv_iload hx hb dX5_layCut_43 (lv_at hl 4 rfl) ?_
            refine lv_iload hx hb dX5_layCut_45 (lv_at hl 0 rfl) ?_
            refine lv_if_eq (tgt := 54) hx hb dX5_layCut_47 rfl (fun _ => ?_) (fun c => absurd (by decide) c)
            refine lv_iconst (v := 0) hx hb dX5_layCut_54 rfl ?_
            obtain ⟨b4, hrun⟩ := p_chk hrun
            refine stM_newSigns C hK hD I b4 dX5_layCut_55 (fun H locs I => ?_)
            refine lv_aload_n hx hb dX5_layCut_56 rfl (lv_at hl 1 rfl) ?_
            refine lv_dup hx hb dX5_layCut_57 rfl ?_
            refine gM_newLength C inm5_layCut hK I.1 fl5_layCut_60 dX5_layCut_58 ?_
            refine lv_iconst (v := 1) hx hb dX5_layCut_61 rfl ?_
            refine lv_iadd hx hb dX5_layCut_62 ?_
            refine pM_newLength C inm5_layCut hK hD I fl5_layCut_60 dX5_layCut_63 (fun H locs I => ?_)
            refine lv_iinc (v := x5 + 1) (lv' := [(5, .int (x5 + 1)), (6, .int 0), (0, .ref h), (3, .int x3), (4, .int x4)]) hx hb dX5_layCut_66 hl (k := 4) rfl rfl (by decide) rfl (fun ls hl => ?_)
            refine lv_iload_n hx hb dX5_layCut_69 rfl (lv_at hl 3 rfl) ?_
            refine lv_iload hx hb dX5_layCut_70 (lv_at hl 1 rfl) ?_
            refine lv_if_eq (tgt := 80) hx hb dX5_layCut_72 rfl (fun _ => ?_) (fun c => absurd (by decide) c)
            refine lv_iconst (v := 0) hx hb dX5_layCut_80 rfl ?_
            refine lv_isub hx hb dX5_layCut_81 ?_
            refine lv_istore_n (lv' := [(3, .int (x3 - 0)), (5, .int (x5 + 1)), (6, .int 0), (0, .ref h), (4, .int x4)]) hx hb dX5_layCut_82 rfl hl (by decide) rfl (fun ls hl => ?_)
            refine lv_iload hx hb dX5_layCut_83 (lv_at hl 4 rfl) ?_
            refine lv_iload hx hb dX5_layCut_85 (lv_at hl 2 rfl) ?_
            refine lv_if_eq (tgt := 94) hx hb dX5_layCut_87 rfl (fun _ => ?_) (fun c => absurd (by decide) c)
            refine lv_iload_n hx hb dX5_layCut_94 rfl (lv_at hl 0 rfl) ?_
            refine lv_isub hx hb dX5_layCut_95 ?_
            refine lv_istore (lv' := [(4, .int (x4 - (x3 - 0))), (3, .int (x3 - 0)), (5, .int (x5 + 1)), (6, .int 0), (0, .ref h)]) hx hb dX5_layCut_96 hl (by decide) rfl (fun ls hl => ?_)
            refine lv_goto (tgt := 13) hx hb dX5_layCut_98 rfl ?_
            exact ih (v_newLength + 1) (upd v_newSigns (Int32.toNatClampNeg x5) 0) (x3 - 0) (x4 - (x3 - 0)) (x5 + 1) out hrun K _ _ _ I (lv_sub hl [4, 1, 0, 2] rfl)
        · have hrun := p_neg hrun c2
          refine lv_iconst (v := 1) hx hb dX5_layCut_25 rfl ?_
          refine lv_goto (tgt := 30) hx hb dX5_layCut_26 rfl ?_
          refine lv_istore (lv' := [(6, .int 1), (0, .ref h), (3, .int x3), (4, .int x4), (5, .int x5)]) hx hb dX5_layCut_30 hl (by decide) rfl (fun ls hl => ?_)
          refine lv_iload hx hb dX5_layCut_32 (lv_at hl 4 rfl) ?_
          refine lv_bipush (v := 20) hx hb dX5_layCut_34 rfl ?_
          refine lv_icmp_ge (tgt := 66) hx hb dX5_layCut_36 rfl (fun c5 => ?_) (fun c5 => ?_)
          · have hrun := p_pos hrun c5
            refine lv_iinc (v := x5 + 1) (lv' := [(5, .int (x5 + 1)), (6, .int 1), (0, .ref h), (3, .int x3), (4, .int x4)]) hx hb dX5_layCut_66 hl (k := 4) rfl rfl (by decide) rfl (fun ls hl => ?_)
            refine lv_iload_n hx hb dX5_layCut_69 rfl (lv_at hl 3 rfl) ?_
            refine lv_iload hx hb dX5_layCut_70 (lv_at hl 1 rfl) ?_
            refine lv_if_eq (tgt := 80) hx hb dX5_layCut_72 rfl (fun c => absurd c (by decide)) (fun _ => ?_)
            refine lv_iload hx hb dX5_layCut_75 (lv_at hl 4 rfl) ?_
            refine lv_goto (tgt := 81) hx hb dX5_layCut_77 rfl ?_
            refine lv_isub hx hb dX5_layCut_81 ?_
            refine lv_istore_n (lv' := [(3, .int (x3 - x4)), (5, .int (x5 + 1)), (6, .int 1), (0, .ref h), (4, .int x4)]) hx hb dX5_layCut_82 rfl hl (by decide) rfl (fun ls hl => ?_)
            refine lv_iload hx hb dX5_layCut_83 (lv_at hl 4 rfl) ?_
            refine lv_iload hx hb dX5_layCut_85 (lv_at hl 2 rfl) ?_
            refine lv_if_eq (tgt := 94) hx hb dX5_layCut_87 rfl (fun c => absurd c (by decide)) (fun _ => ?_)
            refine lv_iconst (v := 0) hx hb dX5_layCut_90 rfl ?_
            refine lv_goto (tgt := 95) hx hb dX5_layCut_91 rfl ?_
            refine lv_isub hx hb dX5_layCut_95 ?_
            refine lv_istore (lv' := [(4, .int (x4 - 0)), (3, .int (x3 - x4)), (5, .int (x5 + 1)), (6, .int 1), (0, .ref h)]) hx hb dX5_layCut_96 hl (by decide) rfl (fun ls hl => ?_)
            refine lv_goto (tgt := 13) hx hb dX5_layCut_98 rfl ?_
            exact ih v_newLength v_newSigns (x3 - x4) (x4 - 0) (x5 + 1) out hrun K _ _ _ I (lv_sub hl [4, 1, 0, 2] rfl)
          · have hrun := p_neg hrun c5
            refine lv_aload_n hx hb dX5_layCut_39 rfl (lv_at hl 1 rfl) ?_
            refine gM_newSigns C inm5_layCut hK I.1 fl5_layCut_37 dX5_layCut_40 ?_
            refine lv_iload hx hb dX5_layCut_43 (lv_at hl 4 rfl) ?_
            refine lv_iload hx hb dX5_layCut_45 (lv_at hl 0 rfl) ?_
            refine lv_if_eq (tgt := 54) hx hb dX5_layCut_47 rfl (fun c => absurd c (by decide)) (fun _ => ?_)
            refine lv_iconst (v := 1) hx hb dX5_layCut_50 rfl ?_
            refine lv_goto (tgt := 55) hx hb dX5_layCut_51 rfl ?_
            obtain ⟨b6, hrun⟩ := p_chk hrun
            refine stM_newSigns C hK hD I b6 dX5_layCut_55 (fun H locs I => ?_)
            refine lv_aload_n hx hb dX5_layCut_56 rfl (lv_at hl 1 rfl) ?_
            refine lv_dup hx hb dX5_layCut_57 rfl ?_
            refine gM_newLength C inm5_layCut hK I.1 fl5_layCut_60 dX5_layCut_58 ?_
            refine lv_iconst (v := 1) hx hb dX5_layCut_61 rfl ?_
            refine lv_iadd hx hb dX5_layCut_62 ?_
            refine pM_newLength C inm5_layCut hK hD I fl5_layCut_60 dX5_layCut_63 (fun H locs I => ?_)
            refine lv_iinc (v := x5 + 1) (lv' := [(5, .int (x5 + 1)), (6, .int 1), (0, .ref h), (3, .int x3), (4, .int x4)]) hx hb dX5_layCut_66 hl (k := 4) rfl rfl (by decide) rfl (fun ls hl => ?_)
            refine lv_iload_n hx hb dX5_layCut_69 rfl (lv_at hl 3 rfl) ?_
            refine lv_iload hx hb dX5_layCut_70 (lv_at hl 1 rfl) ?_
            refine lv_if_eq (tgt := 80) hx hb dX5_layCut_72 rfl (fun c => absurd c (by decide)) (fun _ => ?_)
            refine lv_iload hx hb dX5_layCut_75 (lv_at hl 4 rfl) ?_
            refine lv_goto (tgt := 81) hx hb dX5_layCut_77 rfl ?_
            refine lv_isub hx hb dX5_layCut_81 ?_
            refine lv_istore_n (lv' := [(3, .int (x3 - x4)), (5, .int (x5 + 1)), (6, .int 1), (0, .ref h), (4, .int x4)]) hx hb dX5_layCut_82 rfl hl (by decide) rfl (fun ls hl => ?_)
            refine lv_iload hx hb dX5_layCut_83 (lv_at hl 4 rfl) ?_
            refine lv_iload hx hb dX5_layCut_85 (lv_at hl 2 rfl) ?_
            refine lv_if_eq (tgt := 94) hx hb dX5_layCut_87 rfl (fun c => absurd c (by decide)) (fun _ => ?_)
            refine lv_iconst (v := 0) hx hb dX5_layCut_90 rfl ?_
            refine lv_goto (tgt := 95) hx hb dX5_layCut_91 rfl ?_
            refine lv_isub hx hb dX5_layCut_95 ?_
            refine lv_istore (lv' := [(4, .int (x4 - 0)), (3, .int (x3 - x4)), (5, .int (x5 + 1)), (6, .int 1), (0, .ref h)]) hx hb dX5_layCut_96 hl (by decide) rfl (fun ls hl => ?_)
            refine lv_goto (tgt := 13) hx hb dX5_layCut_98 rfl ?_
            exact ih (v_newLength + 1) (upd v_newSigns (Int32.toNatClampNeg x5) 1) (x3 - x4) (x4 - 0) (x5 + 1) out hrun K _ _ _ I (lv_sub hl [4, 1, 0, 2] rfl)
  unfold P5_layCut at hrun
  refine lv_iload_n hx hb dX5_layCut_0 rfl (lv_at hl 1 rfl) ?_
  refine lv_istore_n (lv' := [(3, .int x1), (0, .ref h), (1, .int x1), (2, .int x2)]) hx hb dX5_layCut_1 rfl hl (by decide) rfl (fun ls hl => ?_)
  refine lv_iload_n hx hb dX5_layCut_2 rfl (lv_at hl 3 rfl) ?_
  refine lv_istore (lv' := [(4, .int x2), (3, .int x1), (0, .ref h), (1, .int x1), (2, .int x2)]) hx hb dX5_layCut_3 hl (by decide) rfl (fun ls hl => ?_)
  refine lv_iconst (v := 0) hx hb dX5_layCut_5 rfl ?_
  refine lv_istore (lv' := [(5, .int 0), (4, .int x2), (3, .int x1), (0, .ref h), (1, .int x1), (2, .int x2)]) hx hb dX5_layCut_6 hl (by decide) rfl (fun ls hl => ?_)
  refine lv_aload_n hx hb dX5_layCut_8 rfl (lv_at hl 3 rfl) ?_
  refine lv_iconst (v := 0) hx hb dX5_layCut_9 rfl ?_
  refine pM_newLength C inm5_layCut hK hD I fl5_layCut_60 dX5_layCut_10 (fun H locs I => ?_)
  obtain ⟨o7, h_o7, hrun⟩ := p_bnd hrun
  refine loop_13 FU 0 v_newSigns x1 x2 0 o7 h_o7 (fun H locs ls I hl => ?_) _ _ _ I (lv_sub hl [3, 2, 1, 0] rfl)
  refine lv_iload hx hb dX5_layCut_101 (lv_at hl 0 rfl) ?_
  cases hrun
  exact rE_i C hr hlk hQ I (nbi _) rfl dX5_layCut_103

abbrev rm5_cut : Room := { frames := 2, cells := 0, slots := 0, locals := 44 }
theorem fl5_cut_75 : Cond.fieldLink RX5 75 "RiverWordsModel" "roads" "I" ∈ wsX5_cut := by decide +kernel
theorem k5_cut_54 : Cond.constant RX5 54 (-2000000102) ∈ wsX5_cut := by decide +kernel
theorem k5_cut_59 : Cond.constant RX5 59 (-2000000104) ∈ wsX5_cut := by decide +kernel
theorem k5_cut_78 : Cond.constant RX5 78 (-2000000103) ∈ wsX5_cut := by decide +kernel
theorem inm5_cut : ∀ w ∈ wsX50, w ∈ wsX5_cut := fun w h => by unfold wsX5_cut; first | exact List.mem_cons_of_mem _ (List.mem_append_right _ h) | exact List.mem_cons_of_mem _ h
theorem hd5_cut : okD yX5_cut 2 := by decide +kernel
set_option maxHeartbeats 8000000 in
set_option maxRecDepth 100000 in
theorem c5_cut {x1 : Int32} {x2 : Int32} {res : Int32 × Int32 × (Nat → Int32) × (Nat → Int32) × Int32 × (Nat → Int32)} (hrun : P5_cut v_roads v_lengths v_signs v_newLength v_newSigns x1 x2 = some res) : Met l yX5_cut wsX5_cut rm5_cut (va_Pc [.ref h, .int x1, .int x2] (PE D [(cA, .int)] sz (WM0 h ad cA) (WM h ad cA v_pageLength v_page v_roads v_lengths v_signs v_wordsRead v_disc v_forms v_formA v_formB v_formC v_nextOf v_cycleOf v_cycles v_firstOf v_newLength v_newSigns v_mayRun v_size v_at v_otherSize v_other v_tableA v_tableB v_tableC v_tableD v_a v_b v_c v_grade v_flowA v_flowB v_flowC v_seedNow v_h))) (va_Qi (fun (x : Int32) (_ : Unit) => x = res.1) (fun _ t => va_P D vwCl (WM h ad cA v_pageLength v_page res.2.1 res.2.2.1 res.2.2.2.1 v_wordsRead v_disc v_forms v_formA v_formB v_formC v_nextOf v_cycleOf v_cycles v_firstOf res.2.2.2.2.1 res.2.2.2.2.2 v_mayRun v_size v_at v_otherSize v_other v_tableA v_tableB v_tableC v_tableD v_a v_b v_c v_grade v_flowA v_flowB v_flowC v_seedNow v_h) t.heap) (va_A (WM0 h ad cA) sz)) 0 0 (va_A (WM0 h ad cA) sz) := by
  refine E_in (cc := cX5_cut) (maxL := 3) (ret := (some .int)) (by decide) rfl (Nat.le_of_ble_eq_true rfl) ?_
  intro p e s m args below meth c ls Q hQ C hr hlk hK hN hD hA I hl
  have C : CallFix p m c cX5_cut 3 s args wsX5_cut RX5 := C
  have hx := C.1
  have hb := C.2.1
  have hl : lv_has ls 3 [(0, .ref h), (1, .int x1), (2, .int x2)] := hl
  unfold P5_cut at hrun
  refine lv_iload_n hx hb dX5_cut_0 rfl (lv_at hl 1 rfl) ?_
  refine lv_iconst (v := 1) hx hb dX5_cut_1 rfl ?_
  refine lv_bipush (v := 99) hx hb dX5_cut_2 rfl ?_
  obtain ⟨r1, h_r1, hrun⟩ := p_bnd hrun
  refine jSS_i (rest := []) C (c5_within h_r1) gX5_cut_X5_within hd5_within rfl ⟨rfl, rfl⟩ ⟨Nat.le_of_ble_eq_true rfl, Nat.le_of_ble_eq_true rfl⟩ rfl hl.1 rfl (Nat.le_of_ble_eq_true rfl) ⟨Nat.le_of_ble_eq_true rfl, Nat.le_of_ble_eq_true rfl⟩ dX5_cut_4 ?_
  refine lv_if_eq (tgt := 34) hx hb dX5_cut_7 rfl (fun c2 => ?_) (fun c2 => ?_)
  · have hrun := p_pos hrun c2
    refine lv_ldc (v := (-2000000102)) hx hb C.2.2.2.1 (C.2.2.2.2 _ k5_cut_54) dX5_cut_34 ?_
    cases hrun
    exact rE_i C hr hlk hQ I (nbi _) rfl dX5_cut_36
  · have hrun := p_neg hrun c2
    refine lv_iload_n hx hb dX5_cut_10 rfl (lv_at hl 2 rfl) ?_
    refine lv_iconst (v := 1) hx hb dX5_cut_11 rfl ?_
    refine lv_bipush (v := 99) hx hb dX5_cut_12 rfl ?_
    obtain ⟨r3, h_r3, hrun⟩ := p_bnd hrun
    refine jSS_i (rest := []) C (c5_within h_r3) gX5_cut_X5_within hd5_within rfl ⟨rfl, rfl⟩ ⟨Nat.le_of_ble_eq_true rfl, Nat.le_of_ble_eq_true rfl⟩ rfl hl.1 rfl (Nat.le_of_ble_eq_true rfl) ⟨Nat.le_of_ble_eq_true rfl, Nat.le_of_ble_eq_true rfl⟩ dX5_cut_14 ?_
    refine lv_if_eq (tgt := 34) hx hb dX5_cut_17 rfl (fun c4 => ?_) (fun c4 => ?_)
    · have hrun := p_pos hrun c4
      refine lv_ldc (v := (-2000000102)) hx hb C.2.2.2.1 (C.2.2.2.2 _ k5_cut_54) dX5_cut_34 ?_
      cases hrun
      exact rE_i C hr hlk hQ I (nbi _) rfl dX5_cut_36
    · have hrun := p_neg hrun c4
      refine lv_iload_n hx hb dX5_cut_20 rfl (lv_at hl 1 rfl) ?_
      refine lv_iload_n hx hb dX5_cut_21 rfl (lv_at hl 2 rfl) ?_
      obtain ⟨r5, h_r5, hrun⟩ := p_bnd hrun
      refine jSS_i (rest := []) C (c5_common h_r5) gX5_cut_X5_common hd5_common rfl ⟨rfl, rfl⟩ ⟨Nat.le_of_ble_eq_true rfl, Nat.le_of_ble_eq_true rfl⟩ rfl hl.1 rfl (Nat.le_of_ble_eq_true rfl) ⟨Nat.le_of_ble_eq_true rfl, Nat.le_of_ble_eq_true rfl⟩ dX5_cut_22 ?_
      refine lv_iconst (v := 1) hx hb dX5_cut_25 rfl ?_
      refine lv_icmp_gt (tgt := 34) hx hb dX5_cut_26 rfl (fun c6 => ?_) (fun c6 => ?_)
      · have hrun := p_pos hrun c6
        refine lv_ldc (v := (-2000000102)) hx hb C.2.2.2.1 (C.2.2.2.2 _ k5_cut_54) dX5_cut_34 ?_
        cases hrun
        exact rE_i C hr hlk hQ I (nbi _) rfl dX5_cut_36
      · have hrun := p_neg hrun c6
        refine lv_iload_n hx hb dX5_cut_29 rfl (lv_at hl 1 rfl) ?_
        refine lv_iload_n hx hb dX5_cut_30 rfl (lv_at hl 2 rfl) ?_
        refine lv_icmp_ne (tgt := 37) hx hb dX5_cut_31 rfl (fun c7 => ?_) (fun c7 => ?_)
        · have hrun := p_neg hrun c7
          refine lv_aload_n hx hb dX5_cut_37 rfl (lv_at hl 0 rfl) ?_
          refine lv_iload_n hx hb dX5_cut_38 rfl (lv_at hl 1 rfl) ?_
          refine lv_iload_n hx hb dX5_cut_39 rfl (lv_at hl 2 rfl) ?_
          obtain ⟨r8, h_r8, hrun⟩ := p_bnd hrun
          refine jVE_i (rest := []) C (c5_layCut h_r8) gX5_cut_X5_layCut hd5_layCut hK hN hD hA I rcM rfl ⟨rfl, rfl⟩ ⟨Nat.le_of_ble_eq_true rfl, Nat.le_of_ble_eq_true rfl⟩ rfl hl.1 rfl (Nat.le_of_ble_eq_true rfl) ⟨Nat.le_of_ble_eq_true rfl, Nat.le_of_ble_eq_true rfl⟩ dX5_cut_40 (fun H locs I => ?_)
          refine lv_bipush (v := 20) hx hb dX5_cut_43 rfl ?_
          refine lv_icmp_le (tgt := 51) hx hb dX5_cut_45 rfl (fun c9 => ?_) (fun c9 => ?_)
          · have hrun := p_pos hrun c9
            refine lv_aload_n hx hb dX5_cut_51 rfl (lv_at hl 0 rfl) ?_
            refine gM_roads C inm5_cut hK I.1 fl5_cut_75 dX5_cut_52 ?_
            refine lv_bipush (v := 6) hx hb dX5_cut_55 rfl ?_
            refine lv_icmp_ne (tgt := 65) hx hb dX5_cut_57 rfl (fun c10 => ?_) (fun c10 => ?_)
            · have hrun := p_neg hrun c10
              refine lv_aload_n hx hb dX5_cut_65 rfl (lv_at hl 0 rfl) ?_
              obtain ⟨r11, h_r11, hrun⟩ := p_bnd hrun
              refine jVE_i (rest := []) C (c5_keepNew h_r11) gX5_cut_X5_keepNew hd5_keepNew hK hN hD hA I rcM rfl ⟨rfl, rfl⟩ ⟨Nat.le_of_ble_eq_true rfl, Nat.le_of_ble_eq_true rfl⟩ rfl hl.1 rfl (Nat.le_of_ble_eq_true rfl) ⟨Nat.le_of_ble_eq_true rfl, Nat.le_of_ble_eq_true rfl⟩ dX5_cut_66 (fun H locs I => ?_)
              cases hrun
              exact rE_i C hr hlk hQ I (nbi _) rfl dX5_cut_69
            · have hrun := p_pos hrun c10
              refine lv_ldc (v := (-2000000104)) hx hb C.2.2.2.1 (C.2.2.2.2 _ k5_cut_59) dX5_cut_60 ?_
              refine lv_goto (tgt := 69) hx hb dX5_cut_62 rfl ?_
              cases hrun
              exact rE_i C hr hlk hQ I (nbi _) rfl dX5_cut_69
          · have hrun := p_neg hrun c9
            refine lv_ldc (v := (-2000000103)) hx hb C.2.2.2.1 (C.2.2.2.2 _ k5_cut_78) dX5_cut_48 ?_
            cases hrun
            exact rE_i C hr hlk hQ I (nbi _) rfl dX5_cut_50
        · have hrun := p_pos hrun c7
          refine lv_ldc (v := (-2000000102)) hx hb C.2.2.2.1 (C.2.2.2.2 _ k5_cut_54) dX5_cut_34 ?_
          cases hrun
          exact rE_i C hr hlk hQ I (nbi _) rfl dX5_cut_36

abbrev rm5_drop : Room := { frames := 0, cells := 0, slots := 0, locals := 0 }
theorem fl5_drop_75 : Cond.fieldLink RX5 75 "RiverWordsModel" "roads" "I" ∈ wsX5_drop := by decide +kernel
theorem k5_drop_78 : Cond.constant RX5 78 (-2000000103) ∈ wsX5_drop := by decide +kernel
theorem inm5_drop : ∀ w ∈ wsX50, w ∈ wsX5_drop := fun w h => by unfold wsX5_drop; first | exact List.mem_cons_of_mem _ (List.mem_append_right _ h) | exact List.mem_cons_of_mem _ h
theorem hd5_drop : okD yX5_drop 0 := by decide +kernel
set_option maxHeartbeats 8000000 in
set_option maxRecDepth 100000 in
theorem c5_drop {res : Int32 × Int32} (hrun : P5_drop v_roads = some res) : Met l yX5_drop wsX5_drop rm5_drop (va_Pc [.ref h] (PE D [(cA, .int)] sz (WM0 h ad cA) (WM h ad cA v_pageLength v_page v_roads v_lengths v_signs v_wordsRead v_disc v_forms v_formA v_formB v_formC v_nextOf v_cycleOf v_cycles v_firstOf v_newLength v_newSigns v_mayRun v_size v_at v_otherSize v_other v_tableA v_tableB v_tableC v_tableD v_a v_b v_c v_grade v_flowA v_flowB v_flowC v_seedNow v_h))) (va_Qi (fun (x : Int32) (_ : Unit) => x = res.1) (fun _ t => va_P D vwCl (WM h ad cA v_pageLength v_page res.2 v_lengths v_signs v_wordsRead v_disc v_forms v_formA v_formB v_formC v_nextOf v_cycleOf v_cycles v_firstOf v_newLength v_newSigns v_mayRun v_size v_at v_otherSize v_other v_tableA v_tableB v_tableC v_tableD v_a v_b v_c v_grade v_flowA v_flowB v_flowC v_seedNow v_h) t.heap) (va_A (WM0 h ad cA) sz)) 0 0 (va_A (WM0 h ad cA) sz) := by
  refine E_in (cc := cX5_drop) (maxL := 1) (ret := (some .int)) (by decide) rfl (Nat.le_of_ble_eq_true rfl) ?_
  intro p e s m args below meth c ls Q hQ C hr hlk hK hN hD hA I hl
  have C : CallFix p m c cX5_drop 1 s args wsX5_drop RX5 := C
  have hx := C.1
  have hb := C.2.1
  have hl : lv_has ls 1 [(0, .ref h)] := hl
  unfold P5_drop at hrun
  refine lv_aload_n hx hb dX5_drop_0 rfl (lv_at hl 0 rfl) ?_
  refine gM_roads C inm5_drop hK I.1 fl5_drop_75 dX5_drop_1 ?_
  refine lv_if_ne (tgt := 10) hx hb dX5_drop_4 rfl (fun c1 => ?_) (fun c1 => ?_)
  · have hrun := p_neg hrun c1
    refine lv_aload_n hx hb dX5_drop_10 rfl (lv_at hl 0 rfl) ?_
    refine lv_dup hx hb dX5_drop_11 rfl ?_
    refine gM_roads C inm5_drop hK I.1 fl5_drop_75 dX5_drop_12 ?_
    refine lv_iconst (v := 1) hx hb dX5_drop_15 rfl ?_
    refine lv_isub hx hb dX5_drop_16 ?_
    refine pM_roads C inm5_drop hK hD I fl5_drop_75 dX5_drop_17 (fun H locs I => ?_)
    refine lv_aload_n hx hb dX5_drop_20 rfl (lv_at hl 0 rfl) ?_
    refine gM_roads C inm5_drop hK I.1 fl5_drop_75 dX5_drop_21 ?_
    cases hrun
    exact rE_i C hr hlk hQ I (nbi _) rfl dX5_drop_24
  · have hrun := p_pos hrun c1
    refine lv_ldc (v := (-2000000103)) hx hb C.2.2.2.1 (C.2.2.2.2 _ k5_drop_78) dX5_drop_7 ?_
    cases hrun
    exact rE_i C hr hlk hQ I (nbi _) rfl dX5_drop_9

abbrev rm5_isSquare : Room := { frames := 0, cells := 0, slots := 0, locals := 0 }
theorem hd5_isSquare : okD yX5_isSquare 1 := by decide +kernel
set_option maxHeartbeats 8000000 in
set_option maxRecDepth 100000 in
theorem c5_isSquare {x0 : Int32} {res : Int32} (hrun : P5_isSquare x0 = some res) : Met l yX5_isSquare wsX5_isSquare rm5_isSquare (va_Pc [.int x0] PN) (vp_Si (fun x => x = res)) 0 0 (fun _ => False) := by
  refine N_in (cc := cX5_isSquare) (maxL := 2) (ret := (some .boolean)) (by decide) rfl (Nat.le_of_ble_eq_true rfl) ?_
  intro p e s m args below meth c ls Q hQ C hr hlk hl
  have C : CallFix p m c cX5_isSquare 2 s args wsX5_isSquare RX5 := C
  have hx := C.1
  have hb := C.2.1
  have hl : lv_has ls 2 [(0, .int x0)] := hl
  have loop_2 : ∀ (n : Nat) (x1 : Int32) (out : Int32), P5_isSquare_2 x0 n x1 = some out → (∀ (ls : Array Slot), lv_has ls 2 [(0, .int x0), (1, .int out)] → W p l e rm5_isSquare s m args below meth c s.heap [] 0 0 Q (F0 m 15 ls [])) → ∀ (ls : Array Slot), lv_has ls 2 [(0, .int x0), (1, .int x1)] → W p l e rm5_isSquare s m args below meth c s.heap [] 0 0 Q (F0 m 2 ls []) := by
    intro n
    induction n with
    | zero =>
      intro x1 out hrun K ls hl
      cases hrun
    | succ n ih =>
      intro x1 out hrun K ls hl
      rw [P5_isSquare_2] at hrun
      refine lv_iload_n hx hb dX5_isSquare_2 rfl (lv_at hl 1 rfl) ?_
      refine lv_iload_n hx hb dX5_isSquare_3 rfl (lv_at hl 1 rfl) ?_
      refine lv_imul hx hb dX5_isSquare_4 ?_
      refine lv_iload_n hx hb dX5_isSquare_5 rfl (lv_at hl 0 rfl) ?_
      refine lv_icmp_ge (tgt := 15) hx hb dX5_isSquare_6 rfl (fun c1 => ?_) (fun c1 => ?_)
      · have hrun := p_pos hrun c1
        cases hrun
        exact K _ (lv_sub hl [0, 1] rfl)
      · have hrun := p_neg hrun c1
        refine lv_iinc (v := x1 + 1) (lv' := [(1, .int (x1 + 1)), (0, .int x0)]) hx hb dX5_isSquare_9 hl (k := 1) rfl rfl (by decide) rfl (fun ls hl => ?_)
        refine lv_goto (tgt := 2) hx hb dX5_isSquare_12 rfl ?_
        exact ih (x1 + 1) out hrun K _ (lv_sub hl [1, 0] rfl)
  unfold P5_isSquare at hrun
  refine lv_iconst (v := 0) hx hb dX5_isSquare_0 rfl ?_
  refine lv_istore_n (lv' := [(1, .int 0), (0, .int x0)]) hx hb dX5_isSquare_1 rfl hl (by decide) rfl (fun ls hl => ?_)
  obtain ⟨o2, h_o2, hrun⟩ := p_bnd hrun
  refine loop_2 FU 0 o2 h_o2 (fun ls hl => ?_) _ (lv_sub hl [1, 0] rfl)
  refine lv_iload_n hx hb dX5_isSquare_15 rfl (lv_at hl 1 rfl) ?_
  refine lv_iload_n hx hb dX5_isSquare_16 rfl (lv_at hl 1 rfl) ?_
  refine lv_imul hx hb dX5_isSquare_17 ?_
  refine lv_iload_n hx hb dX5_isSquare_18 rfl (lv_at hl 0 rfl) ?_
  refine lv_icmp_ne (tgt := 26) hx hb dX5_isSquare_19 rfl (fun c3 => ?_) (fun c3 => ?_)
  · have hrun := p_neg hrun c3
    refine lv_iconst (v := 0) hx hb dX5_isSquare_26 rfl ?_
    cases hrun
    exact rS_i C hr hlk hQ (nb01 (Or.inl rfl)) rfl dX5_isSquare_27
  · have hrun := p_pos hrun c3
    refine lv_iconst (v := 1) hx hb dX5_isSquare_22 rfl ?_
    refine lv_goto (tgt := 27) hx hb dX5_isSquare_23 rfl ?_
    cases hrun
    exact rS_i C hr hlk hQ (nb01 (Or.inr rfl)) rfl dX5_isSquare_27

abbrev rm5_isRiver : Room := { frames := 0, cells := 0, slots := 0, locals := 0 }
theorem fl5_isRiver_209 : Cond.fieldLink RX5 209 "RiverWordsModel" "disc" "I" ∈ wsX5_isRiver := by decide +kernel
theorem inm5_isRiver : ∀ w ∈ wsX50, w ∈ wsX5_isRiver := fun w h => by unfold wsX5_isRiver; first | exact List.mem_cons_of_mem _ (List.mem_append_right _ h) | exact List.mem_cons_of_mem _ h
theorem hd5_isRiver : okD yX5_isRiver 0 := by decide +kernel
set_option maxHeartbeats 8000000 in
set_option maxRecDepth 100000 in
theorem c5_isRiver {res : Int32} (hrun : P5_isRiver v_disc = some res) : Met l yX5_isRiver wsX5_isRiver rm5_isRiver (va_Pc [.ref h] (PS D [(cA, .int)] (WM h ad cA v_pageLength v_page v_roads v_lengths v_signs v_wordsRead v_disc v_forms v_formA v_formB v_formC v_nextOf v_cycleOf v_cycles v_firstOf v_newLength v_newSigns v_mayRun v_size v_at v_otherSize v_other v_tableA v_tableB v_tableC v_tableD v_a v_b v_c v_grade v_flowA v_flowB v_flowC v_seedNow v_h))) (vp_Si (fun x => x = res)) 0 0 (fun _ => False) := by
  refine S_in (cc := cX5_isRiver) (maxL := 1) (ret := (some .boolean)) (by decide) rfl (Nat.le_of_ble_eq_true rfl) ?_
  intro p e s m args below meth c ls Q hQ C hr hlk hK hN hP hl
  have C : CallFix p m c cX5_isRiver 1 s args wsX5_isRiver RX5 := C
  have hx := C.1
  have hb := C.2.1
  have hl : lv_has ls 1 [(0, .ref h)] := hl
  unfold P5_isRiver at hrun
  refine lv_aload_n hx hb dX5_isRiver_0 rfl (lv_at hl 0 rfl) ?_
  refine gM_disc C inm5_isRiver hK hP fl5_isRiver_209 dX5_isRiver_1 ?_
  refine lv_if_le (tgt := 11) hx hb dX5_isRiver_4 rfl (fun c1 => ?_) (fun c1 => ?_)
  · have hrun := p_pos hrun c1
    refine lv_iconst (v := 0) hx hb dX5_isRiver_11 rfl ?_
    cases hrun
    exact rS_i C hr hlk hQ (nb01 (Or.inl rfl)) rfl dX5_isRiver_12
  · have hrun := p_neg hrun c1
    refine lv_iconst (v := 1) hx hb dX5_isRiver_7 rfl ?_
    refine lv_goto (tgt := 12) hx hb dX5_isRiver_8 rfl ?_
    cases hrun
    exact rS_i C hr hlk hQ (nb01 (Or.inr rfl)) rfl dX5_isRiver_12

abbrev rm5_layMiddle : Room := { frames := 2, cells := 0, slots := 0, locals := 44 }
theorem fl5_layMiddle_19 : Cond.fieldLink RX5 19 "RiverWordsModel" "formA" "[I" ∈ wsX5_layMiddle := by decide +kernel
theorem fl5_layMiddle_22 : Cond.fieldLink RX5 22 "RiverWordsModel" "formB" "[I" ∈ wsX5_layMiddle := by decide +kernel
theorem fl5_layMiddle_25 : Cond.fieldLink RX5 25 "RiverWordsModel" "formC" "[I" ∈ wsX5_layMiddle := by decide +kernel
theorem fl5_layMiddle_209 : Cond.fieldLink RX5 209 "RiverWordsModel" "disc" "I" ∈ wsX5_layMiddle := by decide +kernel
theorem fl5_layMiddle_212 : Cond.fieldLink RX5 212 "RiverWordsModel" "forms" "I" ∈ wsX5_layMiddle := by decide +kernel
theorem inm5_layMiddle : ∀ w ∈ wsX50, w ∈ wsX5_layMiddle := fun w h => by unfold wsX5_layMiddle; first | exact List.mem_cons_of_mem _ (List.mem_append_right _ h) | exact List.mem_cons_of_mem _ h
theorem hd5_layMiddle : okD yX5_layMiddle 1 := by decide +kernel
set_option maxHeartbeats 8000000 in
set_option maxRecDepth 100000 in
theorem c5_layMiddle {x1 : Int32} {res : Int32 × (Nat → Int32) × (Nat → Int32) × (Nat → Int32)} (hrun : P5_layMiddle v_disc v_forms v_formA v_formB v_formC x1 = some res) : Met l yX5_layMiddle wsX5_layMiddle rm5_layMiddle (va_Pc [.ref h, .int x1] (PE D [(cA, .int)] sz (WM0 h ad cA) (WM h ad cA v_pageLength v_page v_roads v_lengths v_signs v_wordsRead v_disc v_forms v_formA v_formB v_formC v_nextOf v_cycleOf v_cycles v_firstOf v_newLength v_newSigns v_mayRun v_size v_at v_otherSize v_other v_tableA v_tableB v_tableC v_tableD v_a v_b v_c v_grade v_flowA v_flowB v_flowC v_seedNow v_h))) (va_Qv (fun _ : Unit => True) (fun _ t => va_P D vwCl (WM h ad cA v_pageLength v_page v_roads v_lengths v_signs v_wordsRead v_disc res.1 res.2.1 res.2.2.1 res.2.2.2 v_nextOf v_cycleOf v_cycles v_firstOf v_newLength v_newSigns v_mayRun v_size v_at v_otherSize v_other v_tableA v_tableB v_tableC v_tableD v_a v_b v_c v_grade v_flowA v_flowB v_flowC v_seedNow v_h) t.heap) (va_A (WM0 h ad cA) sz)) 0 0 (va_A (WM0 h ad cA) sz) := by
  refine E_in (cc := cX5_layMiddle) (maxL := 4) (ret := none) (by decide) rfl (Nat.le_of_ble_eq_true rfl) ?_
  intro p e s m args below meth c ls Q hQ C hr hlk hK hN hD hA I hl
  have C : CallFix p m c cX5_layMiddle 4 s args wsX5_layMiddle RX5 := C
  have hx := C.1
  have hb := C.2.1
  have hl : lv_has ls 4 [(0, .ref h), (1, .int x1)] := hl
  have loop_11 : ∀ (x2 : Int32) (n : Nat) (v_forms : Int32) (v_formA : Nat → Int32) (v_formB : Nat → Int32) (v_formC : Nat → Int32) (x3 : Int32) (out : Int32 × (Nat → Int32) × (Nat → Int32) × (Nat → Int32)), P5_layMiddle_11 x1 x2 n v_forms v_formA v_formB v_formC x3 = some out → (∀ (H : Heap) (locs : List Loc) (ls : Array Slot), IM D (va_A (WM0 h ad cA) sz) s.heap H locs (WM h ad cA v_pageLength v_page v_roads v_lengths v_signs v_wordsRead v_disc out.1 out.2.1 out.2.2.1 out.2.2.2 v_nextOf v_cycleOf v_cycles v_firstOf v_newLength v_newSigns v_mayRun v_size v_at v_otherSize v_other v_tableA v_tableB v_tableC v_tableD v_a v_b v_c v_grade v_flowA v_flowB v_flowC v_seedNow v_h) → lv_has ls 4 [] → W p l e rm5_layMiddle s m args below meth c H locs 0 0 Q (F0 m 94 ls [])) → ∀ (H : Heap) (locs : List Loc) (ls : Array Slot), IM D (va_A (WM0 h ad cA) sz) s.heap H locs (WM h ad cA v_pageLength v_page v_roads v_lengths v_signs v_wordsRead v_disc v_forms v_formA v_formB v_formC v_nextOf v_cycleOf v_cycles v_firstOf v_newLength v_newSigns v_mayRun v_size v_at v_otherSize v_other v_tableA v_tableB v_tableC v_tableD v_a v_b v_c v_grade v_flowA v_flowB v_flowC v_seedNow v_h) → lv_has ls 4 [(0, .ref h), (1, .int x1), (2, .int x2), (3, .int x3)] → W p l e rm5_layMiddle s m args below meth c H locs 0 0 Q (F0 m 11 ls []) := by
    intro x2 n
    induction n with
    | zero =>
      intro v_forms v_formA v_formB v_formC x3 out hrun K H locs ls I hl
      cases hrun
    | succ n ih =>
      intro v_forms v_formA v_formB v_formC x3 out hrun K H locs ls I hl
      rw [P5_layMiddle_11] at hrun
      refine lv_iconst (v := 4) hx hb dX5_layMiddle_11 rfl ?_
      refine lv_iload_n hx hb dX5_layMiddle_12 rfl (lv_at hl 3 rfl) ?_
      refine lv_imul hx hb dX5_layMiddle_13 ?_
      refine lv_iload_n hx hb dX5_layMiddle_14 rfl (lv_at hl 2 rfl) ?_
      refine lv_icmp_gt (tgt := 94) hx hb dX5_layMiddle_15 rfl (fun c1 => ?_) (fun c1 => ?_)
      · have hrun := p_pos hrun c1
        cases hrun
        exact K _ _ _ I (lv_sub hl [] rfl)
      · have hrun := p_neg hrun c1
        refine lv_iload_n hx hb dX5_layMiddle_18 rfl (lv_at hl 2 rfl) ?_
        refine lv_iconst (v := 4) hx hb dX5_layMiddle_19 rfl ?_
        refine lv_iload_n hx hb dX5_layMiddle_20 rfl (lv_at hl 3 rfl) ?_
        refine lv_imul hx hb dX5_layMiddle_21 ?_
        obtain ⟨z2, hrun⟩ := p_chk hrun
        refine j_irem hx hb dX5_layMiddle_22 z2 ?_
        refine lv_if_ne (tgt := 88) hx hb dX5_layMiddle_23 rfl (fun c3 => ?_) (fun c3 => ?_)
        · have hrun := p_neg hrun c3
          refine lv_iinc (v := x3 + 1) (lv' := [(3, .int (x3 + 1)), (0, .ref h), (1, .int x1), (2, .int x2)]) hx hb dX5_layMiddle_88 hl (k := 3) rfl rfl (by decide) rfl (fun ls hl => ?_)
          refine lv_goto (tgt := 11) hx hb dX5_layMiddle_91 rfl ?_
          exact ih v_forms v_formA v_formB v_formC (x3 + 1) out hrun K _ _ _ I (lv_sub hl [1, 2, 3, 0] rfl)
        · have hrun := p_pos hrun c3
          refine lv_iload_n hx hb dX5_layMiddle_26 rfl (lv_at hl 3 rfl) ?_
          refine lv_iload_n hx hb dX5_layMiddle_27 rfl (lv_at hl 1 rfl) ?_
          obtain ⟨r4, h_r4, hrun⟩ := p_bnd hrun
          refine jSS_i (rest := []) C (c5_common h_r4) gX5_layMiddle_X5_common hd5_common rfl ⟨rfl, rfl⟩ ⟨Nat.le_of_ble_eq_true rfl, Nat.le_of_ble_eq_true rfl⟩ rfl hl.1 rfl (Nat.le_of_ble_eq_true rfl) ⟨Nat.le_of_ble_eq_true rfl, Nat.le_of_ble_eq_true rfl⟩ dX5_layMiddle_28 ?_
          refine lv_iload_n hx hb dX5_layMiddle_31 rfl (lv_at hl 2 rfl) ?_
          refine lv_iconst (v := 4) hx hb dX5_layMiddle_32 rfl ?_
          refine lv_iload_n hx hb dX5_layMiddle_33 rfl (lv_at hl 3 rfl) ?_
          refine lv_imul hx hb dX5_layMiddle_34 ?_
          obtain ⟨z5, hrun⟩ := p_chk hrun
          refine lv_idiv hx hb dX5_layMiddle_35 z5 ?_
          obtain ⟨r6, h_r6, hrun⟩ := p_bnd hrun
          refine jSS_i (rest := []) C (c5_common h_r6) gX5_layMiddle_X5_common hd5_common rfl ⟨rfl, rfl⟩ ⟨Nat.le_of_ble_eq_true rfl, Nat.le_of_ble_eq_true rfl⟩ rfl hl.1 rfl (Nat.le_of_ble_eq_true rfl) ⟨Nat.le_of_ble_eq_true rfl, Nat.le_of_ble_eq_true rfl⟩ dX5_layMiddle_36 ?_
          refine lv_iconst (v := 1) hx hb dX5_layMiddle_39 rfl ?_
          refine lv_icmp_ne (tgt := 88) hx hb dX5_layMiddle_40 rfl (fun c7 => ?_) (fun c7 => ?_)
          · have hrun := p_neg hrun c7
            refine lv_iinc (v := x3 + 1) (lv' := [(3, .int (x3 + 1)), (0, .ref h), (1, .int x1), (2, .int x2)]) hx hb dX5_layMiddle_88 hl (k := 3) rfl rfl (by decide) rfl (fun ls hl => ?_)
            refine lv_goto (tgt := 11) hx hb dX5_layMiddle_91 rfl ?_
            exact ih v_forms v_formA v_formB v_formC (x3 + 1) out hrun K _ _ _ I (lv_sub hl [1, 2, 3, 0] rfl)
          · have hrun := p_pos hrun c7
            refine lv_aload_n hx hb dX5_layMiddle_43 rfl (lv_at hl 0 rfl) ?_
            refine gM_formA C inm5_layMiddle hK I.1 fl5_layMiddle_19 dX5_layMiddle_44 ?_
            refine lv_aload_n hx hb dX5_layMiddle_47 rfl (lv_at hl 0 rfl) ?_
            refine gM_forms C inm5_layMiddle hK I.1 fl5_layMiddle_212 dX5_layMiddle_48 ?_
            refine lv_iload_n hx hb dX5_layMiddle_51 rfl (lv_at hl 3 rfl) ?_
            obtain ⟨b8, hrun⟩ := p_chk hrun
            refine stM_formA C hK hD I b8 dX5_layMiddle_52 (fun H locs I => ?_)
            refine lv_aload_n hx hb dX5_layMiddle_53 rfl (lv_at hl 0 rfl) ?_
            refine gM_formB C inm5_layMiddle hK I.1 fl5_layMiddle_22 dX5_layMiddle_54 ?_
            refine lv_aload_n hx hb dX5_layMiddle_57 rfl (lv_at hl 0 rfl) ?_
            refine gM_forms C inm5_layMiddle hK I.1 fl5_layMiddle_212 dX5_layMiddle_58 ?_
            refine lv_iload_n hx hb dX5_layMiddle_61 rfl (lv_at hl 1 rfl) ?_
            obtain ⟨b9, hrun⟩ := p_chk hrun
            refine stM_formB C hK hD I b9 dX5_layMiddle_62 (fun H locs I => ?_)
            refine lv_aload_n hx hb dX5_layMiddle_63 rfl (lv_at hl 0 rfl) ?_
            refine gM_formC C inm5_layMiddle hK I.1 fl5_layMiddle_25 dX5_layMiddle_64 ?_
            refine lv_aload_n hx hb dX5_layMiddle_67 rfl (lv_at hl 0 rfl) ?_
            refine gM_forms C inm5_layMiddle hK I.1 fl5_layMiddle_212 dX5_layMiddle_68 ?_
            refine lv_iload_n hx hb dX5_layMiddle_71 rfl (lv_at hl 2 rfl) ?_
            refine lv_ineg hx hb dX5_layMiddle_72 ?_
            refine lv_iconst (v := 4) hx hb dX5_layMiddle_73 rfl ?_
            refine lv_iload_n hx hb dX5_layMiddle_74 rfl (lv_at hl 3 rfl) ?_
            refine lv_imul hx hb dX5_layMiddle_75 ?_
            obtain ⟨z10, hrun⟩ := p_chk hrun
            refine lv_idiv hx hb dX5_layMiddle_76 z10 ?_
            obtain ⟨b11, hrun⟩ := p_chk hrun
            refine stM_formC C hK hD I b11 dX5_layMiddle_77 (fun H locs I => ?_)
            refine lv_aload_n hx hb dX5_layMiddle_78 rfl (lv_at hl 0 rfl) ?_
            refine lv_dup hx hb dX5_layMiddle_79 rfl ?_
            refine gM_forms C inm5_layMiddle hK I.1 fl5_layMiddle_212 dX5_layMiddle_80 ?_
            refine lv_iconst (v := 1) hx hb dX5_layMiddle_83 rfl ?_
            refine lv_iadd hx hb dX5_layMiddle_84 ?_
            refine pM_forms C inm5_layMiddle hK hD I fl5_layMiddle_212 dX5_layMiddle_85 (fun H locs I => ?_)
            refine lv_iinc (v := x3 + 1) (lv' := [(3, .int (x3 + 1)), (0, .ref h), (1, .int x1), (2, .int x2)]) hx hb dX5_layMiddle_88 hl (k := 3) rfl rfl (by decide) rfl (fun ls hl => ?_)
            refine lv_goto (tgt := 11) hx hb dX5_layMiddle_91 rfl ?_
            exact ih (v_forms + 1) (upd v_formA (Int32.toNatClampNeg v_forms) x3) (upd v_formB (Int32.toNatClampNeg v_forms) x1) (upd v_formC (Int32.toNatClampNeg v_forms) ((-x2) / (4 * x3))) (x3 + 1) out hrun K _ _ _ I (lv_sub hl [1, 2, 3, 0] rfl)
  unfold P5_layMiddle at hrun
  refine lv_aload_n hx hb dX5_layMiddle_0 rfl (lv_at hl 0 rfl) ?_
  refine gM_disc C inm5_layMiddle hK I.1 fl5_layMiddle_209 dX5_layMiddle_1 ?_
  refine lv_iload_n hx hb dX5_layMiddle_4 rfl (lv_at hl 1 rfl) ?_
  refine lv_iload_n hx hb dX5_layMiddle_5 rfl (lv_at hl 1 rfl) ?_
  refine lv_imul hx hb dX5_layMiddle_6 ?_
  refine lv_isub hx hb dX5_layMiddle_7 ?_
  refine lv_istore_n (lv' := [(2, .int (v_disc - (x1 * x1))), (0, .ref h), (1, .int x1)]) hx hb dX5_layMiddle_8 rfl hl (by decide) rfl (fun ls hl => ?_)
  refine lv_iconst (v := 1) hx hb dX5_layMiddle_9 rfl ?_
  refine lv_istore_n (lv' := [(3, .int 1), (2, .int (v_disc - (x1 * x1))), (0, .ref h), (1, .int x1)]) hx hb dX5_layMiddle_10 rfl hl (by decide) rfl (fun ls hl => ?_)
  obtain ⟨o12, h_o12, hrun⟩ := p_bnd hrun
  refine loop_11 (v_disc - (x1 * x1)) FU v_forms v_formA v_formB v_formC 1 o12 h_o12 (fun H locs ls I hl => ?_) _ _ _ I (lv_sub hl [2, 3, 1, 0] rfl)
  cases hrun
  exact rE_v C hr hlk hQ I dX5_layMiddle_94

end M56
