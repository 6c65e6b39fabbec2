section M57
variable {l : Launch} {D : va_G} {sz : Nat}
variable {h : Nat} {ad : Nat → Nat} {cA : ClassId}
variable {v_pageLength v_roads v_wordsRead v_disc v_forms v_cycles v_newLength v_mayRun v_size v_otherSize v_tableA v_tableB v_tableC v_tableD v_a v_b v_c v_grade v_flowA v_flowB v_flowC : Int32}
variable {v_seedNow v_h : Int64}
variable {v_page v_lengths v_signs v_formA v_formB v_formC v_nextOf v_cycleOf v_firstOf v_newSigns v_at v_other : Nat → Int32}
abbrev rm5_numberOf : Room := { frames := 0, cells := 0, slots := 0, locals := 0 }
theorem fl5_numberOf_19 : Cond.fieldLink RX5 19 "RiverWordsModel" "formA" "[I" ∈ wsX5_numberOf := by decide +kernel
theorem fl5_numberOf_22 : Cond.fieldLink RX5 22 "RiverWordsModel" "formB" "[I" ∈ wsX5_numberOf := by decide +kernel
theorem fl5_numberOf_25 : Cond.fieldLink RX5 25 "RiverWordsModel" "formC" "[I" ∈ wsX5_numberOf := by decide +kernel
theorem fl5_numberOf_212 : Cond.fieldLink RX5 212 "RiverWordsModel" "forms" "I" ∈ wsX5_numberOf := by decide +kernel
theorem k5_numberOf_106 : Cond.constant RX5 106 (-2000000001) ∈ wsX5_numberOf := by decide +kernel
theorem inm5_numberOf : ∀ w ∈ wsX50, w ∈ wsX5_numberOf := fun w h => by unfold wsX5_numberOf; first | exact List.mem_cons_of_mem _ (List.mem_append_right _ h) | exact List.mem_cons_of_mem _ h
theorem hd5_numberOf : okD yX5_numberOf 3 := by decide +kernel
set_option maxHeartbeats 8000000 in
set_option maxRecDepth 100000 in
theorem c5_numberOf {x1 : Int32} {x2 : Int32} {x3 : Int32} {res : Int32} (hrun : P5_numberOf v_forms v_formA v_formB v_formC x1 x2 x3 = some res) : Met l yX5_numberOf wsX5_numberOf rm5_numberOf (va_Pc [.ref h, .int x1, .int x2, .int x3] (PS D [(cA, .int)] (WM h ad cA v_pageLength v_page v_roads v_lengths v_signs v_wordsRead v_disc v_forms v_formA v_formB v_formC v_nextOf v_cycleOf v_cycles v_firstOf v_newLength v_newSigns v_mayRun v_size v_at v_otherSize v_other v_tableA v_tableB v_tableC v_tableD v_a v_b v_c v_grade v_flowA v_flowB v_flowC v_seedNow v_h))) (vp_Si (fun x => x = res)) 0 0 (fun _ => False) := by
  refine S_in (cc := cX5_numberOf) (maxL := 5) (ret := (some .int)) (by decide) rfl (Nat.le_of_ble_eq_true rfl) ?_
  intro p e s m args below meth c ls Q hQ C hr hlk hK hN hP hl
  have C : CallFix p m c cX5_numberOf 5 s args wsX5_numberOf RX5 := C
  have hx := C.1
  have hb := C.2.1
  have hl : lv_has ls 5 [(0, .ref h), (1, .int x1), (2, .int x2), (3, .int x3)] := hl
  have loop_3 : ∀ (n : Nat) (x4 : Int32) (out : Int32), P5_numberOf_3 v_forms v_formA v_formB v_formC x1 x2 x3 n x4 = some out → (∀ (ls : Array Slot), lv_has ls 5 [(0, .ref h), (4, .int out)] → W p l e rm5_numberOf s m args below meth c s.heap [] 0 0 Q (F0 m 51 ls [])) → ∀ (ls : Array Slot), lv_has ls 5 [(0, .ref h), (1, .int x1), (2, .int x2), (3, .int x3), (4, .int x4)] → W p l e rm5_numberOf s m args below meth c s.heap [] 0 0 Q (F0 m 3 ls []) := by
    intro n
    induction n with
    | zero =>
      intro x4 out hrun K ls hl
      cases hrun
    | succ n ih =>
      intro x4 out hrun K ls hl
      rw [P5_numberOf_3] at hrun
      refine lv_iload hx hb dX5_numberOf_3 (lv_at hl 4 rfl) ?_
      refine lv_aload_n hx hb dX5_numberOf_5 rfl (lv_at hl 0 rfl) ?_
      refine gM_forms C inm5_numberOf hK hP fl5_numberOf_212 dX5_numberOf_6 ?_
      refine lv_icmp_ge (tgt := 51) hx hb dX5_numberOf_9 rfl (fun c1 => ?_) (fun c1 => ?_)
      · have hrun := p_pos hrun c1
        cases hrun
        exact K _ (lv_sub hl [0, 4] rfl)
      · have hrun := p_neg hrun c1
        refine lv_aload_n hx hb dX5_numberOf_12 rfl (lv_at hl 0 rfl) ?_
        refine gM_formA C inm5_numberOf hK hP fl5_numberOf_19 dX5_numberOf_13 ?_
        refine lv_iload hx hb dX5_numberOf_16 (lv_at hl 4 rfl) ?_
        obtain ⟨b2, hrun⟩ := p_chk hrun
        refine ldM_formA C hK hP b2 dX5_numberOf_18 ?_
        refine lv_iload_n hx hb dX5_numberOf_19 rfl (lv_at hl 1 rfl) ?_
        refine lv_icmp_ne (tgt := 45) hx hb dX5_numberOf_20 rfl (fun c3 => ?_) (fun c3 => ?_)
        · have hrun := p_neg hrun c3
          refine lv_iinc (v := x4 + 1) (lv' := [(4, .int (x4 + 1)), (0, .ref h), (1, .int x1), (2, .int x2), (3, .int x3)]) hx hb dX5_numberOf_45 hl (k := 4) rfl rfl (by decide) rfl (fun ls hl => ?_)
          refine lv_goto (tgt := 3) hx hb dX5_numberOf_48 rfl ?_
          exact ih (x4 + 1) out hrun K _ (lv_sub hl [1, 2, 3, 4, 0] rfl)
        · have hrun := p_pos hrun c3
          refine lv_aload_n hx hb dX5_numberOf_23 rfl (lv_at hl 0 rfl) ?_
          refine gM_formB C inm5_numberOf hK hP fl5_numberOf_22 dX5_numberOf_24 ?_
          refine lv_iload hx hb dX5_numberOf_27 (lv_at hl 4 rfl) ?_
          obtain ⟨b4, hrun⟩ := p_chk hrun
          refine ldM_formB C hK hP b4 dX5_numberOf_29 ?_
          refine lv_iload_n hx hb dX5_numberOf_30 rfl (lv_at hl 2 rfl) ?_
          refine lv_icmp_ne (tgt := 45) hx hb dX5_numberOf_31 rfl (fun c5 => ?_) (fun c5 => ?_)
          · have hrun := p_neg hrun c5
            refine lv_iinc (v := x4 + 1) (lv' := [(4, .int (x4 + 1)), (0, .ref h), (1, .int x1), (2, .int x2), (3, .int x3)]) hx hb dX5_numberOf_45 hl (k := 4) rfl rfl (by decide) rfl (fun ls hl => ?_)
            refine lv_goto (tgt := 3) hx hb dX5_numberOf_48 rfl ?_
            exact ih (x4 + 1) out hrun K _ (lv_sub hl [1, 2, 3, 4, 0] rfl)
          · have hrun := p_pos hrun c5
            refine lv_aload_n hx hb dX5_numberOf_34 rfl (lv_at hl 0 rfl) ?_
            refine gM_formC C inm5_numberOf hK hP fl5_numberOf_25 dX5_numberOf_35 ?_
            refine lv_iload hx hb dX5_numberOf_38 (lv_at hl 4 rfl) ?_
            obtain ⟨b6, hrun⟩ := p_chk hrun
            refine ldM_formC C hK hP b6 dX5_numberOf_40 ?_
            refine lv_iload_n hx hb dX5_numberOf_41 rfl (lv_at hl 3 rfl) ?_
            refine lv_icmp_eq (tgt := 51) hx hb dX5_numberOf_42 rfl (fun c7 => ?_) (fun c7 => ?_)
            · have hrun := p_pos hrun c7
              cases hrun
              exact K _ (lv_sub hl [0, 4] rfl)
            · have hrun := p_neg hrun c7
              refine lv_iinc (v := x4 + 1) (lv' := [(4, .int (x4 + 1)), (0, .ref h), (1, .int x1), (2, .int x2), (3, .int x3)]) hx hb dX5_numberOf_45 hl (k := 4) rfl rfl (by decide) rfl (fun ls hl => ?_)
              refine lv_goto (tgt := 3) hx hb dX5_numberOf_48 rfl ?_
              exact ih (x4 + 1) out hrun K _ (lv_sub hl [1, 2, 3, 4, 0] rfl)
  unfold P5_numberOf at hrun
  refine lv_iconst (v := 0) hx hb dX5_numberOf_0 rfl ?_
  refine lv_istore (lv' := [(4, .int 0), (0, .ref h), (1, .int x1), (2, .int x2), (3, .int x3)]) hx hb dX5_numberOf_1 hl (by decide) rfl (fun ls hl => ?_)
  obtain ⟨o8, h_o8, hrun⟩ := p_bnd hrun
  refine loop_3 FU 0 o8 h_o8 (fun ls hl => ?_) _ (lv_sub hl [1, 2, 3, 4, 0] rfl)
  refine lv_iload hx hb dX5_numberOf_51 (lv_at hl 1 rfl) ?_
  refine lv_aload_n hx hb dX5_numberOf_53 rfl (lv_at hl 0 rfl) ?_
  refine gM_forms C inm5_numberOf hK hP fl5_numberOf_212 dX5_numberOf_54 ?_
  refine lv_icmp_ge (tgt := 65) hx hb dX5_numberOf_57 rfl (fun c9 => ?_) (fun c9 => ?_)
  · have hrun := p_pos hrun c9
    refine lv_ldc (v := (-2000000001)) hx hb C.2.2.2.1 (C.2.2.2.2 _ k5_numberOf_106) dX5_numberOf_65 ?_
    cases hrun
    exact rS_i C hr hlk hQ (nbi _) rfl dX5_numberOf_67
  · have hrun := p_neg hrun c9
    refine lv_iload hx hb dX5_numberOf_60 (lv_at hl 1 rfl) ?_
    refine lv_goto (tgt := 67) hx hb dX5_numberOf_62 rfl ?_
    cases hrun
    exact rS_i C hr hlk hQ (nbi _) rfl dX5_numberOf_67

abbrev rm5_isLeft : Room := { frames := 0, cells := 0, slots := 0, locals := 0 }
theorem fl5_isLeft_19 : Cond.fieldLink RX5 19 "RiverWordsModel" "formA" "[I" ∈ wsX5_isLeft := by decide +kernel
theorem fl5_isLeft_22 : Cond.fieldLink RX5 22 "RiverWordsModel" "formB" "[I" ∈ wsX5_isLeft := by decide +kernel
theorem fl5_isLeft_25 : Cond.fieldLink RX5 25 "RiverWordsModel" "formC" "[I" ∈ wsX5_isLeft := by decide +kernel
theorem inm5_isLeft : ∀ w ∈ wsX50, w ∈ wsX5_isLeft := fun w h => by unfold wsX5_isLeft; first | exact List.mem_cons_of_mem _ (List.mem_append_right _ h) | exact List.mem_cons_of_mem _ h
theorem hd5_isLeft : okD yX5_isLeft 1 := by decide +kernel
set_option maxHeartbeats 8000000 in
set_option maxRecDepth 100000 in
theorem c5_isLeft {x1 : Int32} {res : Int32} (hrun : P5_isLeft v_formA v_formB v_formC x1 = some res) : Met l yX5_isLeft wsX5_isLeft rm5_isLeft (va_Pc [.ref h, .int x1] (PS D [(cA, .int)] (WM h ad cA v_pageLength v_page v_roads v_lengths v_signs v_wordsRead v_disc v_forms v_formA v_formB v_formC v_nextOf v_cycleOf v_cycles v_firstOf v_newLength v_newSigns v_mayRun v_size v_at v_otherSize v_other v_tableA v_tableB v_tableC v_tableD v_a v_b v_c v_grade v_flowA v_flowB v_flowC v_seedNow v_h))) (vp_Si (fun x => x = res)) 0 0 (fun _ => False) := by
  refine S_in (cc := cX5_isLeft) (maxL := 2) (ret := (some .boolean)) (by decide) rfl (Nat.le_of_ble_eq_true rfl) ?_
  intro p e s m args below meth c ls Q hQ C hr hlk hK hN hP hl
  have C : CallFix p m c cX5_isLeft 2 s args wsX5_isLeft RX5 := C
  have hx := C.1
  have hb := C.2.1
  have hl : lv_has ls 2 [(0, .ref h), (1, .int x1)] := hl
  unfold P5_isLeft at hrun
  refine lv_aload_n hx hb dX5_isLeft_0 rfl (lv_at hl 0 rfl) ?_
  refine gM_formA C inm5_isLeft hK hP fl5_isLeft_19 dX5_isLeft_1 ?_
  refine lv_iload_n hx hb dX5_isLeft_4 rfl (lv_at hl 1 rfl) ?_
  obtain ⟨b1, hrun⟩ := p_chk hrun
  refine ldM_formA C hK hP b1 dX5_isLeft_5 ?_
  refine lv_aload_n hx hb dX5_isLeft_6 rfl (lv_at hl 0 rfl) ?_
  refine gM_formB C inm5_isLeft hK hP fl5_isLeft_22 dX5_isLeft_7 ?_
  refine lv_iload_n hx hb dX5_isLeft_10 rfl (lv_at hl 1 rfl) ?_
  obtain ⟨b2, hrun⟩ := p_chk hrun
  refine ldM_formB C hK hP b2 dX5_isLeft_11 ?_
  refine lv_iadd hx hb dX5_isLeft_12 ?_
  refine lv_aload_n hx hb dX5_isLeft_13 rfl (lv_at hl 0 rfl) ?_
  refine gM_formC C inm5_isLeft hK hP fl5_isLeft_25 dX5_isLeft_14 ?_
  refine lv_iload_n hx hb dX5_isLeft_17 rfl (lv_at hl 1 rfl) ?_
  obtain ⟨b3, hrun⟩ := p_chk hrun
  refine ldM_formC C hK hP b3 dX5_isLeft_18 ?_
  refine lv_iadd hx hb dX5_isLeft_19 ?_
  refine lv_if_le (tgt := 27) hx hb dX5_isLeft_20 rfl (fun c4 => ?_) (fun c4 => ?_)
  · have hrun := p_pos hrun c4
    refine lv_iconst (v := 0) hx hb dX5_isLeft_27 rfl ?_
    cases hrun
    exact rS_i C hr hlk hQ (nb01 (Or.inl rfl)) rfl dX5_isLeft_28
  · have hrun := p_neg hrun c4
    refine lv_iconst (v := 1) hx hb dX5_isLeft_23 rfl ?_
    refine lv_goto (tgt := 28) hx hb dX5_isLeft_24 rfl ?_
    cases hrun
    exact rS_i C hr hlk hQ (nb01 (Or.inr rfl)) rfl dX5_isLeft_28

abbrev rm5_findNext : Room := { frames := 1, cells := 0, slots := 0, locals := 24 }
theorem fl5_findNext_19 : Cond.fieldLink RX5 19 "RiverWordsModel" "formA" "[I" ∈ wsX5_findNext := by decide +kernel
theorem fl5_findNext_22 : Cond.fieldLink RX5 22 "RiverWordsModel" "formB" "[I" ∈ wsX5_findNext := by decide +kernel
theorem fl5_findNext_25 : Cond.fieldLink RX5 25 "RiverWordsModel" "formC" "[I" ∈ wsX5_findNext := by decide +kernel
theorem inm5_findNext : ∀ w ∈ wsX50, w ∈ wsX5_findNext := fun w h => by unfold wsX5_findNext; first | exact List.mem_cons_of_mem _ (List.mem_append_right _ h) | exact List.mem_cons_of_mem _ h
theorem hd5_findNext : okD yX5_findNext 1 := by decide +kernel
set_option maxHeartbeats 8000000 in
set_option maxRecDepth 100000 in
theorem c5_findNext {x1 : Int32} {res : Int32} (hrun : P5_findNext v_forms v_formA v_formB v_formC x1 = some res) : Met l yX5_findNext wsX5_findNext rm5_findNext (va_Pc [.ref h, .int x1] (PS D [(cA, .int)] (WM h ad cA v_pageLength v_page v_roads v_lengths v_signs v_wordsRead v_disc v_forms v_formA v_formB v_formC v_nextOf v_cycleOf v_cycles v_firstOf v_newLength v_newSigns v_mayRun v_size v_at v_otherSize v_other v_tableA v_tableB v_tableC v_tableD v_a v_b v_c v_grade v_flowA v_flowB v_flowC v_seedNow v_h))) (vp_Si (fun x => x = res)) 0 0 (fun _ => False) := by
  refine S_in (cc := cX5_findNext) (maxL := 3) (ret := (some .int)) (by decide) rfl (Nat.le_of_ble_eq_true rfl) ?_
  intro p e s m args below meth c ls Q hQ C hr hlk hK hN hP hl
  have C : CallFix p m c cX5_findNext 3 s args wsX5_findNext RX5 := C
  have hx := C.1
  have hb := C.2.1
  have hl : lv_has ls 3 [(0, .ref h), (1, .int x1)] := hl
  unfold P5_findNext at hrun
  refine lv_aload_n hx hb dX5_findNext_0 rfl (lv_at hl 0 rfl) ?_
  refine gM_formA C inm5_findNext hK hP fl5_findNext_19 dX5_findNext_1 ?_
  refine lv_iload_n hx hb dX5_findNext_4 rfl (lv_at hl 1 rfl) ?_
  obtain ⟨b1, hrun⟩ := p_chk hrun
  refine ldM_formA C hK hP b1 dX5_findNext_5 ?_
  refine lv_aload_n hx hb dX5_findNext_6 rfl (lv_at hl 0 rfl) ?_
  refine gM_formB C inm5_findNext hK hP fl5_findNext_22 dX5_findNext_7 ?_
  refine lv_iload_n hx hb dX5_findNext_10 rfl (lv_at hl 1 rfl) ?_
  obtain ⟨b2, hrun⟩ := p_chk hrun
  refine ldM_formB C hK hP b2 dX5_findNext_11 ?_
  refine lv_iadd hx hb dX5_findNext_12 ?_
  refine lv_aload_n hx hb dX5_findNext_13 rfl (lv_at hl 0 rfl) ?_
  refine gM_formC C inm5_findNext hK hP fl5_findNext_25 dX5_findNext_14 ?_
  refine lv_iload_n hx hb dX5_findNext_17 rfl (lv_at hl 1 rfl) ?_
  obtain ⟨b3, hrun⟩ := p_chk hrun
  refine ldM_formC C hK hP b3 dX5_findNext_18 ?_
  refine lv_iadd hx hb dX5_findNext_19 ?_
  refine lv_istore_n (lv' := [(2, .int (((v_formA (Int32.toNatClampNeg x1)) + (v_formB (Int32.toNatClampNeg x1))) + (v_formC (Int32.toNatClampNeg x1)))), (0, .ref h), (1, .int x1)]) hx hb dX5_findNext_20 rfl hl (by decide) rfl (fun ls hl => ?_)
  refine lv_aload_n hx hb dX5_findNext_21 rfl (lv_at hl 1 rfl) ?_
  refine lv_iload_n hx hb dX5_findNext_22 rfl (lv_at hl 2 rfl) ?_
  obtain ⟨r4, h_r4, hrun⟩ := p_bnd hrun
  refine jVS_i (rest := []) C (c5_isLeft h_r4) gX5_findNext_X5_isLeft hd5_isLeft hK hN hP rcM rfl ⟨rfl, rfl⟩ ⟨Nat.le_of_ble_eq_true rfl, Nat.le_of_ble_eq_true rfl⟩ rfl hl.1 rfl (Nat.le_of_ble_eq_true rfl) ⟨Nat.le_of_ble_eq_true rfl, Nat.le_of_ble_eq_true rfl⟩ dX5_findNext_23 ?_
  refine lv_if_eq (tgt := 58) hx hb dX5_findNext_26 rfl (fun c5 => ?_) (fun c5 => ?_)
  · have hrun := p_pos hrun c5
    refine lv_aload_n hx hb dX5_findNext_58 rfl (lv_at hl 1 rfl) ?_
    refine lv_aload_n hx hb dX5_findNext_59 rfl (lv_at hl 1 rfl) ?_
    refine gM_formA C inm5_findNext hK hP fl5_findNext_19 dX5_findNext_60 ?_
    refine lv_iload_n hx hb dX5_findNext_63 rfl (lv_at hl 2 rfl) ?_
    obtain ⟨b6, hrun⟩ := p_chk hrun
    refine ldM_formA C hK hP b6 dX5_findNext_64 ?_
    refine lv_aload_n hx hb dX5_findNext_65 rfl (lv_at hl 1 rfl) ?_
    refine gM_formB C inm5_findNext hK hP fl5_findNext_22 dX5_findNext_66 ?_
    refine lv_iload_n hx hb dX5_findNext_69 rfl (lv_at hl 2 rfl) ?_
    obtain ⟨b7, hrun⟩ := p_chk hrun
    refine ldM_formB C hK hP b7 dX5_findNext_70 ?_
    refine lv_iconst (v := 2) hx hb dX5_findNext_71 rfl ?_
    refine lv_aload_n hx hb dX5_findNext_72 rfl (lv_at hl 1 rfl) ?_
    refine gM_formA C inm5_findNext hK hP fl5_findNext_19 dX5_findNext_73 ?_
    refine lv_iload_n hx hb dX5_findNext_76 rfl (lv_at hl 2 rfl) ?_
    obtain ⟨b8, hrun⟩ := p_chk hrun
    refine ldM_formA C hK hP b8 dX5_findNext_77 ?_
    refine lv_imul hx hb dX5_findNext_78 ?_
    refine lv_iadd hx hb dX5_findNext_79 ?_
    refine lv_iload_n hx hb dX5_findNext_80 rfl (lv_at hl 0 rfl) ?_
    obtain ⟨r9, h_r9, hrun⟩ := p_bnd hrun
    refine jVS_i (rest := []) C (c5_numberOf h_r9) gX5_findNext_X5_numberOf hd5_numberOf hK hN hP rcM rfl ⟨rfl, rfl⟩ ⟨Nat.le_of_ble_eq_true rfl, Nat.le_of_ble_eq_true rfl⟩ rfl hl.1 rfl (Nat.le_of_ble_eq_true rfl) ⟨Nat.le_of_ble_eq_true rfl, Nat.le_of_ble_eq_true rfl⟩ dX5_findNext_81 ?_
    cases hrun
    exact rS_i C hr hlk hQ (nbi _) rfl dX5_findNext_84
  · have hrun := p_neg hrun c5
    refine lv_aload_n hx hb dX5_findNext_29 rfl (lv_at hl 1 rfl) ?_
    refine lv_iload_n hx hb dX5_findNext_30 rfl (lv_at hl 0 rfl) ?_
    refine lv_aload_n hx hb dX5_findNext_31 rfl (lv_at hl 1 rfl) ?_
    refine gM_formB C inm5_findNext hK hP fl5_findNext_22 dX5_findNext_32 ?_
    refine lv_iload_n hx hb dX5_findNext_35 rfl (lv_at hl 2 rfl) ?_
    obtain ⟨b10, hrun⟩ := p_chk hrun
    refine ldM_formB C hK hP b10 dX5_findNext_36 ?_
    refine lv_iconst (v := 2) hx hb dX5_findNext_37 rfl ?_
    refine lv_aload_n hx hb dX5_findNext_38 rfl (lv_at hl 1 rfl) ?_
    refine gM_formC C inm5_findNext hK hP fl5_findNext_25 dX5_findNext_39 ?_
    refine lv_iload_n hx hb dX5_findNext_42 rfl (lv_at hl 2 rfl) ?_
    obtain ⟨b11, hrun⟩ := p_chk hrun
    refine ldM_formC C hK hP b11 dX5_findNext_43 ?_
    refine lv_imul hx hb dX5_findNext_44 ?_
    refine lv_iadd hx hb dX5_findNext_45 ?_
    refine lv_aload_n hx hb dX5_findNext_46 rfl (lv_at hl 1 rfl) ?_
    refine gM_formC C inm5_findNext hK hP fl5_findNext_25 dX5_findNext_47 ?_
    refine lv_iload_n hx hb dX5_findNext_50 rfl (lv_at hl 2 rfl) ?_
    obtain ⟨b12, hrun⟩ := p_chk hrun
    refine ldM_formC C hK hP b12 dX5_findNext_51 ?_
    obtain ⟨r13, h_r13, hrun⟩ := p_bnd hrun
    refine jVS_i (rest := []) C (c5_numberOf h_r13) gX5_findNext_X5_numberOf hd5_numberOf hK hN hP rcM rfl ⟨rfl, rfl⟩ ⟨Nat.le_of_ble_eq_true rfl, Nat.le_of_ble_eq_true rfl⟩ rfl hl.1 rfl (Nat.le_of_ble_eq_true rfl) ⟨Nat.le_of_ble_eq_true rfl, Nat.le_of_ble_eq_true rfl⟩ dX5_findNext_52 ?_
    refine lv_goto (tgt := 84) hx hb dX5_findNext_55 rfl ?_
    cases hrun
    exact rS_i C hr hlk hQ (nbi _) rfl dX5_findNext_84

abbrev rm5_layCycles : Room := { frames := 2, cells := 0, slots := 0, locals := 46 }
theorem fl5_layCycles_28 : Cond.fieldLink RX5 28 "RiverWordsModel" "nextOf" "[I" ∈ wsX5_layCycles := by decide +kernel
theorem fl5_layCycles_31 : Cond.fieldLink RX5 31 "RiverWordsModel" "cycleOf" "[I" ∈ wsX5_layCycles := by decide +kernel
theorem fl5_layCycles_34 : Cond.fieldLink RX5 34 "RiverWordsModel" "firstOf" "[I" ∈ wsX5_layCycles := by decide +kernel
theorem fl5_layCycles_212 : Cond.fieldLink RX5 212 "RiverWordsModel" "forms" "I" ∈ wsX5_layCycles := by decide +kernel
theorem fl5_layCycles_224 : Cond.fieldLink RX5 224 "RiverWordsModel" "cycles" "I" ∈ wsX5_layCycles := by decide +kernel
theorem k5_layCycles_106 : Cond.constant RX5 106 (-2000000001) ∈ wsX5_layCycles := by decide +kernel
theorem inm5_layCycles : ∀ w ∈ wsX50, w ∈ wsX5_layCycles := fun w h => by unfold wsX5_layCycles; first | exact List.mem_cons_of_mem _ (List.mem_append_right _ h) | exact List.mem_cons_of_mem _ h
theorem hd5_layCycles : okD yX5_layCycles 0 := by decide +kernel
set_option maxHeartbeats 8000000 in
set_option maxRecDepth 100000 in
theorem c5_layCycles {res : (Nat → Int32) × (Nat → Int32) × Int32 × (Nat → Int32)} (hrun : P5_layCycles v_forms v_formA v_formB v_formC v_nextOf v_cycleOf v_firstOf = some res) : Met l yX5_layCycles wsX5_layCycles rm5_layCycles (va_Pc [.ref h] (PE D [(cA, .int)] sz (WM0 h ad cA) (WM h ad cA v_pageLength v_page v_roads v_lengths v_signs v_wordsRead v_disc v_forms v_formA v_formB v_formC v_nextOf v_cycleOf v_cycles v_firstOf v_newLength v_newSigns v_mayRun v_size v_at v_otherSize v_other v_tableA v_tableB v_tableC v_tableD v_a v_b v_c v_grade v_flowA v_flowB v_flowC v_seedNow v_h))) (va_Qv (fun _ : Unit => True) (fun _ t => va_P D vwCl (WM h ad cA v_pageLength v_page v_roads v_lengths v_signs v_wordsRead v_disc v_forms v_formA v_formB v_formC res.1 res.2.1 res.2.2.1 res.2.2.2 v_newLength v_newSigns v_mayRun v_size v_at v_otherSize v_other v_tableA v_tableB v_tableC v_tableD v_a v_b v_c v_grade v_flowA v_flowB v_flowC v_seedNow v_h) t.heap) (va_A (WM0 h ad cA) sz)) 0 0 (va_A (WM0 h ad cA) sz) := by
  refine E_in (cc := cX5_layCycles) (maxL := 3) (ret := none) (by decide) rfl (Nat.le_of_ble_eq_true rfl) ?_
  intro p e s m args below meth c ls Q hQ C hr hlk hK hN hD hA I hl
  have C : CallFix p m c cX5_layCycles 3 s args wsX5_layCycles RX5 := C
  have hx := C.1
  have hb := C.2.1
  have hl : lv_has ls 3 [(0, .ref h)] := hl
  have loop_2 : ∀ (v_cycles : Int32) (v_firstOf : Nat → Int32) (n : Nat) (v_nextOf : Nat → Int32) (v_cycleOf : Nat → Int32) (x1 : Int32) (out : (Nat → Int32) × (Nat → Int32)), P5_layCycles_2 v_forms v_formA v_formB v_formC n v_nextOf v_cycleOf x1 = some out → (∀ (H : Heap) (locs : List Loc) (ls : Array Slot), IM D (va_A (WM0 h ad cA) sz) s.heap H locs (WM h ad cA v_pageLength v_page v_roads v_lengths v_signs v_wordsRead v_disc v_forms v_formA v_formB v_formC out.1 out.2 v_cycles v_firstOf v_newLength v_newSigns v_mayRun v_size v_at v_otherSize v_other v_tableA v_tableB v_tableC v_tableD v_a v_b v_c v_grade v_flowA v_flowB v_flowC v_seedNow v_h) → lv_has ls 3 [(0, .ref h)] → W p l e rm5_layCycles s m args below meth c H locs 0 0 Q (F0 m 35 ls [])) → ∀ (H : Heap) (locs : List Loc) (ls : Array Slot), IM D (va_A (WM0 h ad cA) sz) s.heap H locs (WM h ad cA v_pageLength v_page v_roads v_lengths v_signs v_wordsRead v_disc v_forms v_formA v_formB v_formC v_nextOf v_cycleOf v_cycles v_firstOf v_newLength v_newSigns v_mayRun v_size v_at v_otherSize v_other v_tableA v_tableB v_tableC v_tableD v_a v_b v_c v_grade v_flowA v_flowB v_flowC v_seedNow v_h) → lv_has ls 3 [(0, .ref h), (1, .int x1)] → W p l e rm5_layCycles s m args below meth c H locs 0 0 Q (F0 m 2 ls []) := by
    intro v_cycles v_firstOf n
    induction n with
    | zero =>
      intro v_nextOf v_cycleOf x1 out hrun K H locs ls I hl
      cases hrun
    | succ n ih =>
      intro v_nextOf v_cycleOf x1 out hrun K H locs ls I hl
      rw [P5_layCycles_2] at hrun
      refine lv_iload_n hx hb dX5_layCycles_2 rfl (lv_at hl 1 rfl) ?_
      refine lv_aload_n hx hb dX5_layCycles_3 rfl (lv_at hl 0 rfl) ?_
      refine gM_forms C inm5_layCycles hK I.1 fl5_layCycles_212 dX5_layCycles_4 ?_
      refine lv_icmp_ge (tgt := 35) hx hb dX5_layCycles_7 rfl (fun c1 => ?_) (fun c1 => ?_)
      · have hrun := p_pos hrun c1
        cases hrun
        exact K _ _ _ I (lv_sub hl [0] rfl)
      · have hrun := p_neg hrun c1
        refine lv_aload_n hx hb dX5_layCycles_10 rfl (lv_at hl 0 rfl) ?_
        refine gM_nextOf C inm5_layCycles hK I.1 fl5_layCycles_28 dX5_layCycles_11 ?_
        refine lv_iload_n hx hb dX5_layCycles_14 rfl (lv_at hl 1 rfl) ?_
        refine lv_aload_n hx hb dX5_layCycles_15 rfl (lv_at hl 0 rfl) ?_
        refine lv_iload_n hx hb dX5_layCycles_16 rfl (lv_at hl 1 rfl) ?_
        obtain ⟨r2, h_r2, hrun⟩ := p_bnd hrun
        refine jVS_i (rest := [.int x1, .ref (ad 6)]) C (c5_findNext h_r2) gX5_layCycles_X5_findNext hd5_findNext hK hN I.1 rcM rfl ⟨rfl, rfl⟩ ⟨Nat.le_of_ble_eq_true rfl, Nat.le_of_ble_eq_true rfl⟩ rfl hl.1 rfl (Nat.le_of_ble_eq_true rfl) ⟨Nat.le_of_ble_eq_true rfl, Nat.le_of_ble_eq_true rfl⟩ dX5_layCycles_17 ?_
        obtain ⟨b3, hrun⟩ := p_chk hrun
        refine stM_nextOf C hK hD I b3 dX5_layCycles_20 (fun H locs I => ?_)
        refine lv_aload_n hx hb dX5_layCycles_21 rfl (lv_at hl 0 rfl) ?_
        refine gM_cycleOf C inm5_layCycles hK I.1 fl5_layCycles_31 dX5_layCycles_22 ?_
        refine lv_iload_n hx hb dX5_layCycles_25 rfl (lv_at hl 1 rfl) ?_
        refine lv_ldc (v := (-2000000001)) hx hb C.2.2.2.1 (C.2.2.2.2 _ k5_layCycles_106) dX5_layCycles_26 ?_
        obtain ⟨b4, hrun⟩ := p_chk hrun
        refine stM_cycleOf C hK hD I b4 dX5_layCycles_28 (fun H locs I => ?_)
        refine lv_iinc (v := x1 + 1) (lv' := [(1, .int (x1 + 1)), (0, .ref h)]) hx hb dX5_layCycles_29 hl (k := 1) rfl rfl (by decide) rfl (fun ls hl => ?_)
        refine lv_goto (tgt := 2) hx hb dX5_layCycles_32 rfl ?_
        exact ih (upd v_nextOf (Int32.toNatClampNeg x1) r2) (upd v_cycleOf (Int32.toNatClampNeg x1) (-2000000001)) (x1 + 1) out hrun K _ _ _ I (lv_sub hl [1, 0] rfl)
  have loop_73 : ∀ (v_nextOf : Nat → Int32) (v_cycles : Int32) (v_firstOf : Nat → Int32) (x1 : Int32) (n : Nat) (v_cycleOf : Nat → Int32) (x2 : Int32) (out : (Nat → Int32)), P5_layCycles_73 v_nextOf v_cycles n v_cycleOf x2 = some out → (∀ (H : Heap) (locs : List Loc) (ls : Array Slot), IM D (va_A (WM0 h ad cA) sz) s.heap H locs (WM h ad cA v_pageLength v_page v_roads v_lengths v_signs v_wordsRead v_disc v_forms v_formA v_formB v_formC v_nextOf out v_cycles v_firstOf v_newLength v_newSigns v_mayRun v_size v_at v_otherSize v_other v_tableA v_tableB v_tableC v_tableD v_a v_b v_c v_grade v_flowA v_flowB v_flowC v_seedNow v_h) → lv_has ls 3 [(0, .ref h), (1, .int x1)] → W p l e rm5_layCycles s m args below meth c H locs 0 0 Q (F0 m 104 ls [])) → ∀ (H : Heap) (locs : List Loc) (ls : Array Slot), IM D (va_A (WM0 h ad cA) sz) s.heap H locs (WM h ad cA v_pageLength v_page v_roads v_lengths v_signs v_wordsRead v_disc v_forms v_formA v_formB v_formC v_nextOf v_cycleOf v_cycles v_firstOf v_newLength v_newSigns v_mayRun v_size v_at v_otherSize v_other v_tableA v_tableB v_tableC v_tableD v_a v_b v_c v_grade v_flowA v_flowB v_flowC v_seedNow v_h) → lv_has ls 3 [(0, .ref h), (1, .int x1), (2, .int x2)] → W p l e rm5_layCycles s m args below meth c H locs 0 0 Q (F0 m 73 ls []) := by
    intro v_nextOf v_cycles v_firstOf x1 n
    induction n with
    | zero =>
      intro v_cycleOf x2 out hrun K H locs ls I hl
      cases hrun
    | succ n ih =>
      intro v_cycleOf x2 out hrun K H locs ls I hl
      rw [P5_layCycles_73] at hrun
      refine lv_aload_n hx hb dX5_layCycles_73 rfl (lv_at hl 0 rfl) ?_
      refine gM_cycleOf C inm5_layCycles hK I.1 fl5_layCycles_31 dX5_layCycles_74 ?_
      refine lv_iload_n hx hb dX5_layCycles_77 rfl (lv_at hl 2 rfl) ?_
      obtain ⟨b10, hrun⟩ := p_chk hrun
      refine ldM_cycleOf C hK I.1 b10 dX5_layCycles_78 ?_
      refine lv_ldc (v := (-2000000001)) hx hb C.2.2.2.1 (C.2.2.2.2 _ k5_layCycles_106) dX5_layCycles_79 ?_
      refine lv_icmp_ne (tgt := 104) hx hb dX5_layCycles_81 rfl (fun c11 => ?_) (fun c11 => ?_)
      · have hrun := p_neg hrun c11
        cases hrun
        exact K _ _ _ I (lv_sub hl [0, 1] rfl)
      · have hrun := p_pos hrun c11
        refine lv_aload_n hx hb dX5_layCycles_84 rfl (lv_at hl 0 rfl) ?_
        refine gM_cycleOf C inm5_layCycles hK I.1 fl5_layCycles_31 dX5_layCycles_85 ?_
        refine lv_iload_n hx hb dX5_layCycles_88 rfl (lv_at hl 2 rfl) ?_
        refine lv_aload_n hx hb dX5_layCycles_89 rfl (lv_at hl 0 rfl) ?_
        refine gM_cycles C inm5_layCycles hK I.1 fl5_layCycles_224 dX5_layCycles_90 ?_
        obtain ⟨b12, hrun⟩ := p_chk hrun
        refine stM_cycleOf C hK hD I b12 dX5_layCycles_93 (fun H locs I => ?_)
        refine lv_aload_n hx hb dX5_layCycles_94 rfl (lv_at hl 0 rfl) ?_
        refine gM_nextOf C inm5_layCycles hK I.1 fl5_layCycles_28 dX5_layCycles_95 ?_
        refine lv_iload_n hx hb dX5_layCycles_98 rfl (lv_at hl 2 rfl) ?_
        obtain ⟨b13, hrun⟩ := p_chk hrun
        refine ldM_nextOf C hK I.1 b13 dX5_layCycles_99 ?_
        refine lv_istore_n (lv' := [(2, .int (v_nextOf (Int32.toNatClampNeg x2))), (0, .ref h), (1, .int x1)]) hx hb dX5_layCycles_100 rfl hl (by decide) rfl (fun ls hl => ?_)
        refine lv_goto (tgt := 73) hx hb dX5_layCycles_101 rfl ?_
        exact ih (upd v_cycleOf (Int32.toNatClampNeg x2) v_cycles) (v_nextOf (Int32.toNatClampNeg x2)) out hrun K _ _ _ I (lv_sub hl [1, 2, 0] rfl)
  have loop_42 : ∀ (v_nextOf : Nat → Int32) (n : Nat) (v_cycleOf : Nat → Int32) (v_cycles : Int32) (v_firstOf : Nat → Int32) (x1 : Int32) (out : (Nat → Int32) × Int32 × (Nat → Int32)), P5_layCycles_42 v_forms v_nextOf n v_cycleOf v_cycles v_firstOf x1 = some out → (∀ (H : Heap) (locs : List Loc) (ls : Array Slot), IM D (va_A (WM0 h ad cA) sz) s.heap H locs (WM h ad cA v_pageLength v_page v_roads v_lengths v_signs v_wordsRead v_disc v_forms v_formA v_formB v_formC v_nextOf out.1 out.2.1 out.2.2 v_newLength v_newSigns v_mayRun v_size v_at v_otherSize v_other v_tableA v_tableB v_tableC v_tableD v_a v_b v_c v_grade v_flowA v_flowB v_flowC v_seedNow v_h) → lv_has ls 3 [] → W p l e rm5_layCycles s m args below meth c H locs 0 0 Q (F0 m 120 ls [])) → ∀ (H : Heap) (locs : List Loc) (ls : Array Slot), IM D (va_A (WM0 h ad cA) sz) s.heap H locs (WM h ad cA v_pageLength v_page v_roads v_lengths v_signs v_wordsRead v_disc v_forms v_formA v_formB v_formC v_nextOf v_cycleOf v_cycles v_firstOf v_newLength v_newSigns v_mayRun v_size v_at v_otherSize v_other v_tableA v_tableB v_tableC v_tableD v_a v_b v_c v_grade v_flowA v_flowB v_flowC v_seedNow v_h) → lv_has ls 3 [(0, .ref h), (1, .int x1)] → W p l e rm5_layCycles s m args below meth c H locs 0 0 Q (F0 m 42 ls []) := by
    intro v_nextOf n
    induction n with
    | zero =>
      intro v_cycleOf v_cycles v_firstOf x1 out hrun K H locs ls I hl
      cases hrun
    | succ n ih =>
      intro v_cycleOf v_cycles v_firstOf x1 out hrun K H locs ls I hl
      rw [P5_layCycles_42] at hrun
      refine lv_iload_n hx hb dX5_layCycles_42 rfl (lv_at hl 1 rfl) ?_
      refine lv_aload_n hx hb dX5_layCycles_43 rfl (lv_at hl 0 rfl) ?_
      refine gM_forms C inm5_layCycles hK I.1 fl5_layCycles_212 dX5_layCycles_44 ?_
      refine lv_icmp_ge (tgt := 120) hx hb dX5_layCycles_47 rfl (fun c6 => ?_) (fun c6 => ?_)
      · have hrun := p_pos hrun c6
        cases hrun
        exact K _ _ _ I (lv_sub hl [] rfl)
      · have hrun := p_neg hrun c6
        refine lv_aload_n hx hb dX5_layCycles_50 rfl (lv_at hl 0 rfl) ?_
        refine gM_cycleOf C inm5_layCycles hK I.1 fl5_layCycles_31 dX5_layCycles_51 ?_
        refine lv_iload_n hx hb dX5_layCycles_54 rfl (lv_at hl 1 rfl) ?_
        obtain ⟨b7, hrun⟩ := p_chk hrun
        refine ldM_cycleOf C hK I.1 b7 dX5_layCycles_55 ?_
        refine lv_ldc (v := (-2000000001)) hx hb C.2.2.2.1 (C.2.2.2.2 _ k5_layCycles_106) dX5_layCycles_56 ?_
        refine lv_icmp_ne (tgt := 114) hx hb dX5_layCycles_58 rfl (fun c8 => ?_) (fun c8 => ?_)
        · have hrun := p_neg hrun c8
          refine lv_iinc (v := x1 + 1) (lv' := [(1, .int (x1 + 1)), (0, .ref h)]) hx hb dX5_layCycles_114 hl (k := 1) rfl rfl (by decide) rfl (fun ls hl => ?_)
          refine lv_goto (tgt := 42) hx hb dX5_layCycles_117 rfl ?_
          exact ih v_cycleOf v_cycles v_firstOf (x1 + 1) out hrun K _ _ _ I (lv_sub hl [1, 0] rfl)
        · have hrun := p_pos hrun c8
          refine lv_aload_n hx hb dX5_layCycles_61 rfl (lv_at hl 0 rfl) ?_
          refine gM_firstOf C inm5_layCycles hK I.1 fl5_layCycles_34 dX5_layCycles_62 ?_
          refine lv_aload_n hx hb dX5_layCycles_65 rfl (lv_at hl 0 rfl) ?_
          refine gM_cycles C inm5_layCycles hK I.1 fl5_layCycles_224 dX5_layCycles_66 ?_
          refine lv_iload_n hx hb dX5_layCycles_69 rfl (lv_at hl 1 rfl) ?_
          obtain ⟨b9, hrun⟩ := p_chk hrun
          refine stM_firstOf C hK hD I b9 dX5_layCycles_70 (fun H locs I => ?_)
          refine lv_iload_n hx hb dX5_layCycles_71 rfl (lv_at hl 1 rfl) ?_
          refine lv_istore_n (lv' := [(2, .int x1), (0, .ref h), (1, .int x1)]) hx hb dX5_layCycles_72 rfl hl (by decide) rfl (fun ls hl => ?_)
          obtain ⟨o14, h_o14, hrun⟩ := p_bnd hrun
          refine loop_73 v_nextOf v_cycles (upd v_firstOf (Int32.toNatClampNeg v_cycles) x1) x1 FU v_cycleOf x1 o14 h_o14 (fun H locs ls I hl => ?_) _ _ _ I (lv_sub hl [1, 2, 0] rfl)
          refine lv_aload_n hx hb dX5_layCycles_104 rfl (lv_at hl 0 rfl) ?_
          refine lv_dup hx hb dX5_layCycles_105 rfl ?_
          refine gM_cycles C inm5_layCycles hK I.1 fl5_layCycles_224 dX5_layCycles_106 ?_
          refine lv_iconst (v := 1) hx hb dX5_layCycles_109 rfl ?_
          refine lv_iadd hx hb dX5_layCycles_110 ?_
          refine pM_cycles C inm5_layCycles hK hD I fl5_layCycles_224 dX5_layCycles_111 (fun H locs I => ?_)
          refine lv_iinc (v := x1 + 1) (lv' := [(1, .int (x1 + 1)), (0, .ref h)]) hx hb dX5_layCycles_114 hl (k := 1) rfl rfl (by decide) rfl (fun ls hl => ?_)
          refine lv_goto (tgt := 42) hx hb dX5_layCycles_117 rfl ?_
          exact ih o14 (v_cycles + 1) (upd v_firstOf (Int32.toNatClampNeg v_cycles) x1) (x1 + 1) out hrun K _ _ _ I (lv_sub hl [1, 0] rfl)
  unfold P5_layCycles at hrun
  refine lv_iconst (v := 0) hx hb dX5_layCycles_0 rfl ?_
  refine lv_istore_n (lv' := [(1, .int 0), (0, .ref h)]) hx hb dX5_layCycles_1 rfl hl (by decide) rfl (fun ls hl => ?_)
  obtain ⟨o5, h_o5, hrun⟩ := p_bnd hrun
  refine loop_2 v_cycles v_firstOf FU v_nextOf v_cycleOf 0 o5 h_o5 (fun H locs ls I hl => ?_) _ _ _ I (lv_sub hl [1, 0] rfl)
  refine lv_aload_n hx hb dX5_layCycles_35 rfl (lv_at hl 0 rfl) ?_
  refine lv_iconst (v := 0) hx hb dX5_layCycles_36 rfl ?_
  refine pM_cycles C inm5_layCycles hK hD I fl5_layCycles_224 dX5_layCycles_37 (fun H locs I => ?_)
  refine lv_iconst (v := 0) hx hb dX5_layCycles_40 rfl ?_
  refine lv_istore_n (lv' := [(1, .int 0), (0, .ref h)]) hx hb dX5_layCycles_41 rfl hl (by decide) rfl (fun ls hl => ?_)
  obtain ⟨o15, h_o15, hrun⟩ := p_bnd hrun
  refine loop_42 o5.1 FU o5.2 0 v_firstOf 0 o15 h_o15 (fun H locs ls I hl => ?_) _ _ _ I (lv_sub hl [1, 0] rfl)
  cases hrun
  exact rE_v C hr hlk hQ I dX5_layCycles_120

abbrev rm5_river : Room := { frames := 3, cells := 0, slots := 0, locals := 68 }
theorem fl5_river_209 : Cond.fieldLink RX5 209 "RiverWordsModel" "disc" "I" ∈ wsX5_river := by decide +kernel
theorem fl5_river_212 : Cond.fieldLink RX5 212 "RiverWordsModel" "forms" "I" ∈ wsX5_river := by decide +kernel
theorem k5_river_54 : Cond.constant RX5 54 (-2000000102) ∈ wsX5_river := by decide +kernel
theorem inm5_river : ∀ w ∈ wsX50, w ∈ wsX5_river := fun w h => by unfold wsX5_river; first | exact List.mem_cons_of_mem _ (List.mem_append_right _ h) | exact List.mem_cons_of_mem _ h
theorem hd5_river : okD yX5_river 1 := by decide +kernel
set_option maxHeartbeats 8000000 in
set_option maxRecDepth 100000 in
theorem c5_river {x1 : Int32} {res : Int32 × Int32 × Int32 × (Nat → Int32) × (Nat → Int32) × (Nat → Int32) × (Nat → Int32) × (Nat → Int32) × Int32 × (Nat → Int32)} (hrun : P5_river v_disc v_forms v_formA v_formB v_formC v_nextOf v_cycleOf v_cycles v_firstOf x1 = some res) : Met l yX5_river wsX5_river rm5_river (va_Pc [.ref h, .int x1] (PE D [(cA, .int)] sz (WM0 h ad cA) (WM h ad cA v_pageLength v_page v_roads v_lengths v_signs v_wordsRead v_disc v_forms v_formA v_formB v_formC v_nextOf v_cycleOf v_cycles v_firstOf v_newLength v_newSigns v_mayRun v_size v_at v_otherSize v_other v_tableA v_tableB v_tableC v_tableD v_a v_b v_c v_grade v_flowA v_flowB v_flowC v_seedNow v_h))) (va_Qi (fun (x : Int32) (_ : Unit) => x = res.1) (fun _ t => va_P D vwCl (WM h ad cA v_pageLength v_page v_roads v_lengths v_signs v_wordsRead res.2.1 res.2.2.1 res.2.2.2.1 res.2.2.2.2.1 res.2.2.2.2.2.1 res.2.2.2.2.2.2.1 res.2.2.2.2.2.2.2.1 res.2.2.2.2.2.2.2.2.1 res.2.2.2.2.2.2.2.2.2 v_newLength v_newSigns v_mayRun v_size v_at v_otherSize v_other v_tableA v_tableB v_tableC v_tableD v_a v_b v_c v_grade v_flowA v_flowB v_flowC v_seedNow v_h) t.heap) (va_A (WM0 h ad cA) sz)) 0 0 (va_A (WM0 h ad cA) sz) := by
  refine E_in (cc := cX5_river) (maxL := 3) (ret := (some .int)) (by decide) rfl (Nat.le_of_ble_eq_true rfl) ?_
  intro p e s m args below meth c ls Q hQ C hr hlk hK hN hD hA I hl
  have C : CallFix p m c cX5_river 3 s args wsX5_river RX5 := C
  have hx := C.1
  have hb := C.2.1
  have hl : lv_has ls 3 [(0, .ref h), (1, .int x1)] := hl
  have loop_41 : ∀ (v_disc : Int32) (v_nextOf : Nat → Int32) (v_cycleOf : Nat → Int32) (v_cycles : Int32) (v_firstOf : Nat → Int32) (n : Nat) (v_forms : Int32) (v_formA : Nat → Int32) (v_formB : Nat → Int32) (v_formC : Nat → Int32) (x2 : Int32) (out : Int32 × (Nat → Int32) × (Nat → Int32) × (Nat → Int32)), P5_river_41 v_disc x1 n v_forms v_formA v_formB v_formC x2 = some out → (∀ (H : Heap) (locs : List Loc) (ls : Array Slot), IM D (va_A (WM0 h ad cA) sz) s.heap H locs (WM h ad cA v_pageLength v_page v_roads v_lengths v_signs v_wordsRead v_disc out.1 out.2.1 out.2.2.1 out.2.2.2 v_nextOf v_cycleOf v_cycles v_firstOf v_newLength v_newSigns v_mayRun v_size v_at v_otherSize v_other v_tableA v_tableB v_tableC v_tableD v_a v_b v_c v_grade v_flowA v_flowB v_flowC v_seedNow v_h) → lv_has ls 3 [(0, .ref h)] → W p l e rm5_river s m args below meth c H locs 0 0 Q (F0 m 75 ls [])) → ∀ (H : Heap) (locs : List Loc) (ls : Array Slot), IM D (va_A (WM0 h ad cA) sz) s.heap H locs (WM h ad cA v_pageLength v_page v_roads v_lengths v_signs v_wordsRead v_disc v_forms v_formA v_formB v_formC v_nextOf v_cycleOf v_cycles v_firstOf v_newLength v_newSigns v_mayRun v_size v_at v_otherSize v_other v_tableA v_tableB v_tableC v_tableD v_a v_b v_c v_grade v_flowA v_flowB v_flowC v_seedNow v_h) → lv_has ls 3 [(0, .ref h), (1, .int x1), (2, .int x2)] → W p l e rm5_river s m args below meth c H locs 0 0 Q (F0 m 41 ls []) := by
    intro v_disc v_nextOf v_cycleOf v_cycles v_firstOf n
    induction n with
    | zero =>
      intro v_forms v_formA v_formB v_formC x2 out hrun K H locs ls I hl
      cases hrun
    | succ n ih =>
      intro v_forms v_formA v_formB v_formC x2 out hrun K H locs ls I hl
      rw [P5_river_41] at hrun
      refine lv_iload_n hx hb dX5_river_41 rfl (lv_at hl 2 rfl) ?_
      refine lv_bipush (v := 30) hx hb dX5_river_42 rfl ?_
      refine lv_icmp_gt (tgt := 75) hx hb dX5_river_44 rfl (fun c6 => ?_) (fun c6 => ?_)
      · have hrun := p_pos hrun c6
        cases hrun
        exact K _ _ _ I (lv_sub hl [0] rfl)
      · have hrun := p_neg hrun c6
        refine lv_iload_n hx hb dX5_river_47 rfl (lv_at hl 2 rfl) ?_
        refine lv_iload_n hx hb dX5_river_48 rfl (lv_at hl 2 rfl) ?_
        refine lv_imul hx hb dX5_river_49 ?_
        refine lv_iload_n hx hb dX5_river_50 rfl (lv_at hl 1 rfl) ?_
        refine lv_icmp_ge (tgt := 69) hx hb dX5_river_51 rfl (fun c7 => ?_) (fun c7 => ?_)
        · have hrun := p_pos hrun c7
          refine lv_iinc (v := x2 + 1) (lv' := [(2, .int (x2 + 1)), (0, .ref h), (1, .int x1)]) hx hb dX5_river_69 hl (k := 2) rfl rfl (by decide) rfl (fun ls hl => ?_)
          refine lv_goto (tgt := 41) hx hb dX5_river_72 rfl ?_
          exact ih v_forms v_formA v_formB v_formC (x2 + 1) out hrun K _ _ _ I (lv_sub hl [1, 2, 0] rfl)
        · have hrun := p_neg hrun c7
          refine lv_iload_n hx hb dX5_river_54 rfl (lv_at hl 1 rfl) ?_
          refine lv_iload_n hx hb dX5_river_55 rfl (lv_at hl 2 rfl) ?_
          refine lv_iload_n hx hb dX5_river_56 rfl (lv_at hl 2 rfl) ?_
          refine lv_imul hx hb dX5_river_57 ?_
          refine lv_isub hx hb dX5_river_58 ?_
          refine lv_iconst (v := 4) hx hb dX5_river_59 rfl ?_
          refine j_irem hx hb dX5_river_60 (by decide) ?_
          refine lv_if_ne (tgt := 69) hx hb dX5_river_61 rfl (fun c8 => ?_) (fun c8 => ?_)
          · have hrun := p_neg hrun c8
            refine lv_iinc (v := x2 + 1) (lv' := [(2, .int (x2 + 1)), (0, .ref h), (1, .int x1)]) hx hb dX5_river_69 hl (k := 2) rfl rfl (by decide) rfl (fun ls hl => ?_)
            refine lv_goto (tgt := 41) hx hb dX5_river_72 rfl ?_
            exact ih v_forms v_formA v_formB v_formC (x2 + 1) out hrun K _ _ _ I (lv_sub hl [1, 2, 0] rfl)
          · have hrun := p_pos hrun c8
            refine lv_aload_n hx hb dX5_river_64 rfl (lv_at hl 0 rfl) ?_
            refine lv_iload_n hx hb dX5_river_65 rfl (lv_at hl 2 rfl) ?_
            obtain ⟨r9, h_r9, hrun⟩ := p_bnd hrun
            refine jVE_v (rest := []) C (c5_layMiddle h_r9) gX5_river_X5_layMiddle hd5_layMiddle hK hN hD hA I rcM rfl ⟨rfl, rfl⟩ ⟨Nat.le_of_ble_eq_true rfl, Nat.le_of_ble_eq_true rfl⟩ rfl hl.1 rfl (Nat.le_of_ble_eq_true rfl) ⟨Nat.le_of_ble_eq_true rfl, Nat.le_of_ble_eq_true rfl⟩ dX5_river_66 (fun H locs I => ?_)
            refine lv_iinc (v := x2 + 1) (lv' := [(2, .int (x2 + 1)), (0, .ref h), (1, .int x1)]) hx hb dX5_river_69 hl (k := 2) rfl rfl (by decide) rfl (fun ls hl => ?_)
            refine lv_goto (tgt := 41) hx hb dX5_river_72 rfl ?_
            exact ih r9.1 r9.2.1 r9.2.2.1 r9.2.2.2 (x2 + 1) out hrun K _ _ _ I (lv_sub hl [1, 2, 0] rfl)
  unfold P5_river at hrun
  refine lv_iload_n hx hb dX5_river_0 rfl (lv_at hl 1 rfl) ?_
  refine lv_iconst (v := 5) hx hb dX5_river_1 rfl ?_
  refine lv_sipush (v := 900) hx hb dX5_river_2 rfl ?_
  obtain ⟨r1, h_r1, hrun⟩ := p_bnd hrun
  refine jSS_i (rest := []) C (c5_within h_r1) gX5_river_X5_within hd5_within rfl ⟨rfl, rfl⟩ ⟨Nat.le_of_ble_eq_true rfl, Nat.le_of_ble_eq_true rfl⟩ rfl hl.1 rfl (Nat.le_of_ble_eq_true rfl) ⟨Nat.le_of_ble_eq_true rfl, Nat.le_of_ble_eq_true rfl⟩ dX5_river_5 ?_
  refine lv_if_eq (tgt := 25) hx hb dX5_river_8 rfl (fun c2 => ?_) (fun c2 => ?_)
  · have hrun := p_pos hrun c2
    refine lv_ldc (v := (-2000000102)) hx hb C.2.2.2.1 (C.2.2.2.2 _ k5_river_54) dX5_river_25 ?_
    cases hrun
    exact rE_i C hr hlk hQ I (nbi _) rfl dX5_river_27
  · have hrun := p_neg hrun c2
    refine lv_iload_n hx hb dX5_river_11 rfl (lv_at hl 1 rfl) ?_
    refine lv_iconst (v := 4) hx hb dX5_river_12 rfl ?_
    refine j_irem hx hb dX5_river_13 (by decide) ?_
    refine lv_iconst (v := 1) hx hb dX5_river_14 rfl ?_
    refine lv_icmp_gt (tgt := 25) hx hb dX5_river_15 rfl (fun c3 => ?_) (fun c3 => ?_)
    · have hrun := p_pos hrun c3
      refine lv_ldc (v := (-2000000102)) hx hb C.2.2.2.1 (C.2.2.2.2 _ k5_river_54) dX5_river_25 ?_
      cases hrun
      exact rE_i C hr hlk hQ I (nbi _) rfl dX5_river_27
    · have hrun := p_neg hrun c3
      refine lv_iload_n hx hb dX5_river_18 rfl (lv_at hl 1 rfl) ?_
      obtain ⟨r4, h_r4, hrun⟩ := p_bnd hrun
      refine jSS_i (rest := []) C (c5_isSquare h_r4) gX5_river_X5_isSquare hd5_isSquare rfl ⟨rfl, rfl⟩ ⟨Nat.le_of_ble_eq_true rfl, Nat.le_of_ble_eq_true rfl⟩ rfl hl.1 rfl (Nat.le_of_ble_eq_true rfl) ⟨Nat.le_of_ble_eq_true rfl, Nat.le_of_ble_eq_true rfl⟩ dX5_river_19 ?_
      refine lv_if_eq (tgt := 28) hx hb dX5_river_22 rfl (fun c5 => ?_) (fun c5 => ?_)
      · have hrun := p_pos hrun c5
        refine lv_aload_n hx hb dX5_river_28 rfl (lv_at hl 0 rfl) ?_
        refine lv_iload_n hx hb dX5_river_29 rfl (lv_at hl 1 rfl) ?_
        refine pM_disc C inm5_river hK hD I fl5_river_209 dX5_river_30 (fun H locs I => ?_)
        refine lv_aload_n hx hb dX5_river_33 rfl (lv_at hl 0 rfl) ?_
        refine lv_iconst (v := 0) hx hb dX5_river_34 rfl ?_
        refine pM_forms C inm5_river hK hD I fl5_river_212 dX5_river_35 (fun H locs I => ?_)
        refine lv_bipush (v := (-30)) hx hb dX5_river_38 rfl ?_
        refine lv_istore_n (lv' := [(2, .int (-30)), (0, .ref h), (1, .int x1)]) hx hb dX5_river_40 rfl hl (by decide) rfl (fun ls hl => ?_)
        obtain ⟨o10, h_o10, hrun⟩ := p_bnd hrun
        refine loop_41 x1 v_nextOf v_cycleOf v_cycles v_firstOf FU 0 v_formA v_formB v_formC (-30) o10 h_o10 (fun H locs ls I hl => ?_) _ _ _ I (lv_sub hl [1, 2, 0] rfl)
        refine lv_aload_n hx hb dX5_river_75 rfl (lv_at hl 0 rfl) ?_
        obtain ⟨r11, h_r11, hrun⟩ := p_bnd hrun
        refine jVE_v (rest := []) C (c5_layCycles h_r11) gX5_river_X5_layCycles hd5_layCycles hK hN hD hA I rcM rfl ⟨rfl, rfl⟩ ⟨Nat.le_of_ble_eq_true rfl, Nat.le_of_ble_eq_true rfl⟩ rfl hl.1 rfl (Nat.le_of_ble_eq_true rfl) ⟨Nat.le_of_ble_eq_true rfl, Nat.le_of_ble_eq_true rfl⟩ dX5_river_76 (fun H locs I => ?_)
        refine lv_aload_n hx hb dX5_river_79 rfl (lv_at hl 0 rfl) ?_
        refine gM_forms C inm5_river hK I.1 fl5_river_212 dX5_river_80 ?_
        cases hrun
        exact rE_i C hr hlk hQ I (nbi _) rfl dX5_river_83
      · have hrun := p_neg hrun c5
        refine lv_ldc (v := (-2000000102)) hx hb C.2.2.2.1 (C.2.2.2.2 _ k5_river_54) dX5_river_25 ?_
        cases hrun
        exact rE_i C hr hlk hQ I (nbi _) rfl dX5_river_27

end M57
