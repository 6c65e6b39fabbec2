section M54
variable {l : Launch} {D : va_G} {sz : Nat}
variable {h : Nat} {ad : Nat → Nat} {cA : ClassId}
variable {v_pageLength v_roads v_wordsRead v_disc v_forms v_cycles v_newLength v_mayRun v_size v_otherSize v_tableA v_tableB v_tableC v_tableD v_a v_b v_c v_grade v_flowA v_flowB v_flowC : Int32}
variable {v_seedNow v_h : Int64}
variable {v_page v_lengths v_signs v_formA v_formB v_formC v_nextOf v_cycleOf v_firstOf v_newSigns v_at v_other : Nat → Int32}
abbrev rm5_isCross : Room := { frames := 0, cells := 0, slots := 0, locals := 0 }
theorem fl5_isCross_40 : Cond.fieldLink RX5 40 "RiverWordsModel" "at" "[I" ∈ wsX5_isCross := by decide +kernel
theorem fl5_isCross_43 : Cond.fieldLink RX5 43 "RiverWordsModel" "other" "[I" ∈ wsX5_isCross := by decide +kernel
theorem fl5_isCross_85 : Cond.fieldLink RX5 85 "RiverWordsModel" "size" "I" ∈ wsX5_isCross := by decide +kernel
theorem fl5_isCross_103 : Cond.fieldLink RX5 103 "RiverWordsModel" "otherSize" "I" ∈ wsX5_isCross := by decide +kernel
theorem inm5_isCross : ∀ w ∈ wsX50, w ∈ wsX5_isCross := fun w h => by unfold wsX5_isCross; first | exact List.mem_cons_of_mem _ (List.mem_append_right _ h) | exact List.mem_cons_of_mem _ h
theorem hd5_isCross : okD yX5_isCross 2 := by decide +kernel
set_option maxHeartbeats 8000000 in
set_option maxRecDepth 100000 in
theorem c5_isCross {x1 : Int32} {x2 : Int32} {res : Int32} (hrun : P5_isCross v_size v_at v_otherSize v_other x1 x2 = some res) : Met l yX5_isCross wsX5_isCross rm5_isCross (va_Pc [.ref h, .int x1, .int x2] (PS D [(cA, .int)] (WM h ad cA v_pageLength v_page v_roads v_lengths v_signs v_wordsRead v_disc v_forms v_formA v_formB v_formC v_nextOf v_cycleOf v_cycles v_firstOf v_newLength v_newSigns v_mayRun v_size v_at v_otherSize v_other v_tableA v_tableB v_tableC v_tableD v_a v_b v_c v_grade v_flowA v_flowB v_flowC v_seedNow v_h))) (vp_Si (fun x => x = res)) 0 0 (fun _ => False) := by
  refine S_in (cc := cX5_isCross) (maxL := 7) (ret := (some .boolean)) (by decide) rfl (Nat.le_of_ble_eq_true rfl) ?_
  intro p e s m args below meth c ls Q hQ C hr hlk hK hN hP hl
  have C : CallFix p m c cX5_isCross 7 s args wsX5_isCross RX5 := C
  have hx := C.1
  have hb := C.2.1
  have hl : lv_has ls 7 [(0, .ref h), (1, .int x1), (2, .int x2)] := hl
  have loop_29 : ∀ (x4 : Int32) (n : Nat) (x5 : Int32) (x6 : Int32) (out : Int32), P5_isCross_29 v_size v_at v_otherSize v_other n x5 x6 = some out → (∀ (ls : Array Slot), lv_has ls 7 [(0, .ref h), (4, .int x4), (5, .int out)] → W p l e rm5_isCross s m args below meth c s.heap [] 0 0 Q (F0 m 78 ls [])) → ∀ (ls : Array Slot), lv_has ls 7 [(0, .ref h), (4, .int x4), (5, .int x5), (6, .int x6)] → W p l e rm5_isCross s m args below meth c s.heap [] 0 0 Q (F0 m 29 ls []) := by
    intro x4 n
    induction n with
    | zero =>
      intro x5 x6 out hrun K ls hl
      cases hrun
    | succ n ih =>
      intro x5 x6 out hrun K ls hl
      rw [P5_isCross_29] at hrun
      refine lv_iload hx hb dX5_isCross_29 (lv_at hl 2 rfl) ?_
      refine lv_aload_n hx hb dX5_isCross_31 rfl (lv_at hl 0 rfl) ?_
      refine gM_size C inm5_isCross hK hP fl5_isCross_85 dX5_isCross_32 ?_
      refine lv_iadd hx hb dX5_isCross_35 ?_
      refine lv_iconst (v := 1) hx hb dX5_isCross_36 rfl ?_
      refine lv_isub hx hb dX5_isCross_37 ?_
      refine lv_aload_n hx hb dX5_isCross_38 rfl (lv_at hl 0 rfl) ?_
      refine gM_size C inm5_isCross hK hP fl5_isCross_85 dX5_isCross_39 ?_
      obtain ⟨z4, hrun⟩ := p_chk hrun
      refine j_irem hx hb dX5_isCross_42 z4 ?_
      refine lv_istore (lv' := [(5, .int (jrem ((x5 + v_size) - 1) v_size)), (0, .ref h), (4, .int x4), (6, .int x6)]) hx hb dX5_isCross_43 hl (by decide) rfl (fun ls hl => ?_)
      refine lv_iload hx hb dX5_isCross_45 (lv_at hl 3 rfl) ?_
      refine lv_aload_n hx hb dX5_isCross_47 rfl (lv_at hl 1 rfl) ?_
      refine gM_otherSize C inm5_isCross hK hP fl5_isCross_103 dX5_isCross_48 ?_
      refine lv_iadd hx hb dX5_isCross_51 ?_
      refine lv_iconst (v := 1) hx hb dX5_isCross_52 rfl ?_
      refine lv_isub hx hb dX5_isCross_53 ?_
      refine lv_aload_n hx hb dX5_isCross_54 rfl (lv_at hl 1 rfl) ?_
      refine gM_otherSize C inm5_isCross hK hP fl5_isCross_103 dX5_isCross_55 ?_
      obtain ⟨z5, hrun⟩ := p_chk hrun
      refine j_irem hx hb dX5_isCross_58 z5 ?_
      refine lv_istore (lv' := [(6, .int (jrem ((x6 + v_otherSize) - 1) v_otherSize)), (5, .int (jrem ((x5 + v_size) - 1) v_size)), (0, .ref h), (4, .int x4)]) hx hb dX5_isCross_59 hl (by decide) rfl (fun ls hl => ?_)
      refine lv_aload_n hx hb dX5_isCross_61 rfl (lv_at hl 2 rfl) ?_
      refine gM_at C inm5_isCross hK hP fl5_isCross_40 dX5_isCross_62 ?_
      refine lv_iload hx hb dX5_isCross_65 (lv_at hl 1 rfl) ?_
      obtain ⟨b6, hrun⟩ := p_chk hrun
      refine ldM_at C hK hP b6 dX5_isCross_67 ?_
      refine lv_aload_n hx hb dX5_isCross_68 rfl (lv_at hl 2 rfl) ?_
      refine gM_other C inm5_isCross hK hP fl5_isCross_43 dX5_isCross_69 ?_
      refine lv_iload hx hb dX5_isCross_72 (lv_at hl 0 rfl) ?_
      obtain ⟨b7, hrun⟩ := p_chk hrun
      refine ldM_other C hK hP b7 dX5_isCross_74 ?_
      refine lv_icmp_eq (tgt := 29) hx hb dX5_isCross_75 rfl (fun c8 => ?_) (fun c8 => ?_)
      · have hrun := p_pos hrun c8
        exact ih (jrem ((x5 + v_size) - 1) v_size) (jrem ((x6 + v_otherSize) - 1) v_otherSize) out hrun K _ (lv_sub hl [2, 3, 1, 0] rfl)
      · have hrun := p_neg hrun c8
        cases hrun
        exact K _ (lv_sub hl [2, 3, 1] rfl)
  unfold P5_isCross at hrun
  refine lv_aload_n hx hb dX5_isCross_0 rfl (lv_at hl 0 rfl) ?_
  refine gM_at C inm5_isCross hK hP fl5_isCross_40 dX5_isCross_1 ?_
  refine lv_iload_n hx hb dX5_isCross_4 rfl (lv_at hl 1 rfl) ?_
  obtain ⟨b1, hrun⟩ := p_chk hrun
  refine ldM_at C hK hP b1 dX5_isCross_5 ?_
  refine lv_istore_n (lv' := [(3, .int (v_at (Int32.toNatClampNeg x1))), (0, .ref h), (1, .int x1), (2, .int x2)]) hx hb dX5_isCross_6 rfl hl (by decide) rfl (fun ls hl => ?_)
  refine lv_aload_n hx hb dX5_isCross_7 rfl (lv_at hl 1 rfl) ?_
  refine gM_other C inm5_isCross hK hP fl5_isCross_43 dX5_isCross_8 ?_
  refine lv_iload_n hx hb dX5_isCross_11 rfl (lv_at hl 3 rfl) ?_
  obtain ⟨b2, hrun⟩ := p_chk hrun
  refine ldM_other C hK hP b2 dX5_isCross_12 ?_
  refine lv_istore (lv' := [(4, .int (v_other (Int32.toNatClampNeg x2))), (3, .int (v_at (Int32.toNatClampNeg x1))), (0, .ref h), (1, .int x1), (2, .int x2)]) hx hb dX5_isCross_13 hl (by decide) rfl (fun ls hl => ?_)
  refine lv_iload_n hx hb dX5_isCross_15 rfl (lv_at hl 1 rfl) ?_
  refine lv_iload hx hb dX5_isCross_16 (lv_at hl 0 rfl) ?_
  refine lv_icmp_ne (tgt := 23) hx hb dX5_isCross_18 rfl (fun c3 => ?_) (fun c3 => ?_)
  · have hrun := p_neg hrun c3
    refine lv_iload_n hx hb dX5_isCross_23 rfl (lv_at hl 3 rfl) ?_
    refine lv_istore (lv' := [(5, .int x1), (4, .int (v_other (Int32.toNatClampNeg x2))), (3, .int (v_at (Int32.toNatClampNeg x1))), (0, .ref h), (1, .int x1), (2, .int x2)]) hx hb dX5_isCross_24 hl (by decide) rfl (fun ls hl => ?_)
    refine lv_iload_n hx hb dX5_isCross_26 rfl (lv_at hl 5 rfl) ?_
    refine lv_istore (lv' := [(6, .int x2), (5, .int x1), (4, .int (v_other (Int32.toNatClampNeg x2))), (3, .int (v_at (Int32.toNatClampNeg x1))), (0, .ref h), (1, .int x1), (2, .int x2)]) hx hb dX5_isCross_27 hl (by decide) rfl (fun ls hl => ?_)
    obtain ⟨o9, h_o9, hrun⟩ := p_bnd hrun
    refine loop_29 (v_other (Int32.toNatClampNeg x2)) FU x1 x2 o9 h_o9 (fun ls hl => ?_) _ (lv_sub hl [4, 2, 1, 0] rfl)
    refine lv_aload_n hx hb dX5_isCross_78 rfl (lv_at hl 0 rfl) ?_
    refine gM_at C inm5_isCross hK hP fl5_isCross_40 dX5_isCross_79 ?_
    refine lv_iload hx hb dX5_isCross_82 (lv_at hl 2 rfl) ?_
    obtain ⟨b10, hrun⟩ := p_chk hrun
    refine ldM_at C hK hP b10 dX5_isCross_84 ?_
    refine lv_iload hx hb dX5_isCross_85 (lv_at hl 1 rfl) ?_
    refine lv_icmp_ne (tgt := 94) hx hb dX5_isCross_87 rfl (fun c11 => ?_) (fun c11 => ?_)
    · have hrun := p_neg hrun c11
      refine lv_iconst (v := 0) hx hb dX5_isCross_94 rfl ?_
      cases hrun
      exact rS_i C hr hlk hQ (nb01 (Or.inl rfl)) rfl dX5_isCross_95
    · have hrun := p_pos hrun c11
      refine lv_iconst (v := 1) hx hb dX5_isCross_90 rfl ?_
      refine lv_goto (tgt := 95) hx hb dX5_isCross_91 rfl ?_
      cases hrun
      exact rS_i C hr hlk hQ (nb01 (Or.inr rfl)) rfl dX5_isCross_95
  · have hrun := p_pos hrun c3
    refine lv_iconst (v := 0) hx hb dX5_isCross_21 rfl ?_
    cases hrun
    exact rS_i C hr hlk hQ (nb01 (Or.inl rfl)) rfl dX5_isCross_22

abbrev rm5_crossNow : Room := { frames := 1, cells := 0, slots := 0, locals := 26 }
theorem fl5_crossNow_85 : Cond.fieldLink RX5 85 "RiverWordsModel" "size" "I" ∈ wsX5_crossNow := by decide +kernel
theorem fl5_crossNow_103 : Cond.fieldLink RX5 103 "RiverWordsModel" "otherSize" "I" ∈ wsX5_crossNow := by decide +kernel
theorem inm5_crossNow : ∀ w ∈ wsX50, w ∈ wsX5_crossNow := fun w h => by unfold wsX5_crossNow; first | exact List.mem_cons_of_mem _ (List.mem_append_right _ h) | exact List.mem_cons_of_mem _ h
theorem hd5_crossNow : okD yX5_crossNow 0 := by decide +kernel
set_option maxHeartbeats 8000000 in
set_option maxRecDepth 100000 in
theorem c5_crossNow {res : Int32} (hrun : P5_crossNow v_size v_at v_otherSize v_other = some res) : Met l yX5_crossNow wsX5_crossNow rm5_crossNow (va_Pc [.ref h] (PS D [(cA, .int)] (WM h ad cA v_pageLength v_page v_roads v_lengths v_signs v_wordsRead v_disc v_forms v_formA v_formB v_formC v_nextOf v_cycleOf v_cycles v_firstOf v_newLength v_newSigns v_mayRun v_size v_at v_otherSize v_other v_tableA v_tableB v_tableC v_tableD v_a v_b v_c v_grade v_flowA v_flowB v_flowC v_seedNow v_h))) (vp_Si (fun x => x = res)) 0 0 (fun _ => False) := by
  refine S_in (cc := cX5_crossNow) (maxL := 4) (ret := (some .int)) (by decide) rfl (Nat.le_of_ble_eq_true rfl) ?_
  intro p e s m args below meth c ls Q hQ C hr hlk hK hN hP hl
  have C : CallFix p m c cX5_crossNow 4 s args wsX5_crossNow RX5 := C
  have hx := C.1
  have hb := C.2.1
  have hl : lv_has ls 4 [(0, .ref h)] := hl
  have loop_14 : ∀ (x2 : Int32) (n : Nat) (x1 : Int32) (x3 : Int32) (out : Int32), P5_crossNow_14 v_size v_at v_otherSize v_other x2 n x1 x3 = some out → (∀ (ls : Array Slot), lv_has ls 4 [(0, .ref h), (1, .int out), (2, .int x2)] → W p l e rm5_crossNow s m args below meth c s.heap [] 0 0 Q (F0 m 45 ls [])) → ∀ (ls : Array Slot), lv_has ls 4 [(0, .ref h), (1, .int x1), (2, .int x2), (3, .int x3)] → W p l e rm5_crossNow s m args below meth c s.heap [] 0 0 Q (F0 m 14 ls []) := by
    intro x2 n
    induction n with
    | zero =>
      intro x1 x3 out hrun K ls hl
      cases hrun
    | succ n ih =>
      intro x1 x3 out hrun K ls hl
      rw [P5_crossNow_14] at hrun
      refine lv_iload_n hx hb dX5_crossNow_14 rfl (lv_at hl 3 rfl) ?_
      refine lv_aload_n hx hb dX5_crossNow_15 rfl (lv_at hl 0 rfl) ?_
      refine gM_otherSize C inm5_crossNow hK hP fl5_crossNow_103 dX5_crossNow_16 ?_
      refine lv_icmp_ge (tgt := 45) hx hb dX5_crossNow_19 rfl (fun c2 => ?_) (fun c2 => ?_)
      · have hrun := p_pos hrun c2
        cases hrun
        exact K _ (lv_sub hl [0, 1, 2] rfl)
      · have hrun := p_neg hrun c2
        refine lv_iload_n hx hb dX5_crossNow_22 rfl (lv_at hl 1 rfl) ?_
        refine lv_aload_n hx hb dX5_crossNow_23 rfl (lv_at hl 0 rfl) ?_
        refine lv_iload_n hx hb dX5_crossNow_24 rfl (lv_at hl 2 rfl) ?_
        refine lv_iload_n hx hb dX5_crossNow_25 rfl (lv_at hl 3 rfl) ?_
        obtain ⟨r3, h_r3, hrun⟩ := p_bnd hrun
        refine jVS_i (rest := [.int x1]) C (c5_isCross h_r3) gX5_crossNow_X5_isCross hd5_isCross hK hN hP rcM rfl ⟨rfl, rfl⟩ ⟨Nat.le_of_ble_eq_true rfl, Nat.le_of_ble_eq_true rfl⟩ rfl hl.1 rfl (Nat.le_of_ble_eq_true rfl) ⟨Nat.le_of_ble_eq_true rfl, Nat.le_of_ble_eq_true rfl⟩ dX5_crossNow_26 ?_
        refine lv_if_eq (tgt := 36) hx hb dX5_crossNow_29 rfl (fun c4 => ?_) (fun c4 => ?_)
        · have hrun := p_pos hrun c4
          refine lv_iconst (v := 0) hx hb dX5_crossNow_36 rfl ?_
          refine lv_iadd hx hb dX5_crossNow_37 ?_
          refine lv_istore_n (lv' := [(1, .int (x1 + 0)), (0, .ref h), (2, .int x2), (3, .int x3)]) hx hb dX5_crossNow_38 rfl hl (by decide) rfl (fun ls hl => ?_)
          refine lv_iinc (v := x3 + 1) (lv' := [(3, .int (x3 + 1)), (1, .int (x1 + 0)), (0, .ref h), (2, .int x2)]) hx hb dX5_crossNow_39 hl (k := 3) rfl rfl (by decide) rfl (fun ls hl => ?_)
          refine lv_goto (tgt := 14) hx hb dX5_crossNow_42 rfl ?_
          exact ih (x1 + 0) (x3 + 1) out hrun K _ (lv_sub hl [2, 1, 3, 0] rfl)
        · have hrun := p_neg hrun c4
          refine lv_iconst (v := 1) hx hb dX5_crossNow_32 rfl ?_
          refine lv_goto (tgt := 37) hx hb dX5_crossNow_33 rfl ?_
          refine lv_iadd hx hb dX5_crossNow_37 ?_
          refine lv_istore_n (lv' := [(1, .int (x1 + 1)), (0, .ref h), (2, .int x2), (3, .int x3)]) hx hb dX5_crossNow_38 rfl hl (by decide) rfl (fun ls hl => ?_)
          refine lv_iinc (v := x3 + 1) (lv' := [(3, .int (x3 + 1)), (1, .int (x1 + 1)), (0, .ref h), (2, .int x2)]) hx hb dX5_crossNow_39 hl (k := 3) rfl rfl (by decide) rfl (fun ls hl => ?_)
          refine lv_goto (tgt := 14) hx hb dX5_crossNow_42 rfl ?_
          exact ih (x1 + 1) (x3 + 1) out hrun K _ (lv_sub hl [2, 1, 3, 0] rfl)
  have loop_4 : ∀ (n : Nat) (x1 : Int32) (x2 : Int32) (out : Int32), P5_crossNow_4 v_size v_at v_otherSize v_other n x1 x2 = some out → (∀ (ls : Array Slot), lv_has ls 4 [(1, .int out)] → W p l e rm5_crossNow s m args below meth c s.heap [] 0 0 Q (F0 m 51 ls [])) → ∀ (ls : Array Slot), lv_has ls 4 [(0, .ref h), (1, .int x1), (2, .int x2)] → W p l e rm5_crossNow s m args below meth c s.heap [] 0 0 Q (F0 m 4 ls []) := by
    intro n
    induction n with
    | zero =>
      intro x1 x2 out hrun K ls hl
      cases hrun
    | succ n ih =>
      intro x1 x2 out hrun K ls hl
      rw [P5_crossNow_4] at hrun
      refine lv_iload_n hx hb dX5_crossNow_4 rfl (lv_at hl 2 rfl) ?_
      refine lv_aload_n hx hb dX5_crossNow_5 rfl (lv_at hl 0 rfl) ?_
      refine gM_size C inm5_crossNow hK hP fl5_crossNow_85 dX5_crossNow_6 ?_
      refine lv_icmp_ge (tgt := 51) hx hb dX5_crossNow_9 rfl (fun c1 => ?_) (fun c1 => ?_)
      · have hrun := p_pos hrun c1
        cases hrun
        exact K _ (lv_sub hl [1] rfl)
      · have hrun := p_neg hrun c1
        refine lv_iconst (v := 0) hx hb dX5_crossNow_12 rfl ?_
        refine lv_istore_n (lv' := [(3, .int 0), (0, .ref h), (1, .int x1), (2, .int x2)]) hx hb dX5_crossNow_13 rfl hl (by decide) rfl (fun ls hl => ?_)
        obtain ⟨o5, h_o5, hrun⟩ := p_bnd hrun
        refine loop_14 x2 FU x1 0 o5 h_o5 (fun ls hl => ?_) _ (lv_sub hl [1, 2, 3, 0] rfl)
        refine lv_iinc (v := x2 + 1) (lv' := [(2, .int (x2 + 1)), (0, .ref h), (1, .int o5)]) hx hb dX5_crossNow_45 hl (k := 2) rfl rfl (by decide) rfl (fun ls hl => ?_)
        refine lv_goto (tgt := 4) hx hb dX5_crossNow_48 rfl ?_
        exact ih o5 (x2 + 1) out hrun K _ (lv_sub hl [1, 2, 0] rfl)
  unfold P5_crossNow at hrun
  refine lv_iconst (v := 0) hx hb dX5_crossNow_0 rfl ?_
  refine lv_istore_n (lv' := [(1, .int 0), (0, .ref h)]) hx hb dX5_crossNow_1 rfl hl (by decide) rfl (fun ls hl => ?_)
  refine lv_iconst (v := 0) hx hb dX5_crossNow_2 rfl ?_
  refine lv_istore_n (lv' := [(2, .int 0), (1, .int 0), (0, .ref h)]) hx hb dX5_crossNow_3 rfl hl (by decide) rfl (fun ls hl => ?_)
  obtain ⟨o6, h_o6, hrun⟩ := p_bnd hrun
  refine loop_4 FU 0 0 o6 h_o6 (fun ls hl => ?_) _ (lv_sub hl [2, 1, 0] rfl)
  refine lv_iload_n hx hb dX5_crossNow_51 rfl (lv_at hl 0 rfl) ?_
  cases hrun
  exact rS_i C hr hlk hQ (nbi _) rfl dX5_crossNow_52

abbrev rm5_crossings : Room := { frames := 2, cells := 0, slots := 0, locals := 49 }
theorem hd5_crossings : okD yX5_crossings 2 := by decide +kernel
set_option maxHeartbeats 8000000 in
set_option maxRecDepth 100000 in
theorem c5_crossings {x1 : Int32} {x2 : Int32} {res : Int32 × Int32 × (Nat → Int32) × Int32 × (Nat → Int32)} (hrun : P5_crossings v_lengths v_signs v_at v_other x1 x2 = some res) : Met l yX5_crossings wsX5_crossings rm5_crossings (va_Pc [.ref h, .int x1, .int x2] (PE D [(cA, .int)] sz (WM0 h ad cA) (WM h ad cA v_pageLength v_page v_roads v_lengths v_signs v_wordsRead v_disc v_forms v_formA v_formB v_formC v_nextOf v_cycleOf v_cycles v_firstOf v_newLength v_newSigns v_mayRun v_size v_at v_otherSize v_other v_tableA v_tableB v_tableC v_tableD v_a v_b v_c v_grade v_flowA v_flowB v_flowC v_seedNow v_h))) (va_Qi (fun (x : Int32) (_ : Unit) => x = res.1) (fun _ t => va_P D vwCl (WM h ad cA v_pageLength v_page v_roads v_lengths v_signs v_wordsRead v_disc v_forms v_formA v_formB v_formC v_nextOf v_cycleOf v_cycles v_firstOf v_newLength v_newSigns v_mayRun res.2.1 res.2.2.1 res.2.2.2.1 res.2.2.2.2 v_tableA v_tableB v_tableC v_tableD v_a v_b v_c v_grade v_flowA v_flowB v_flowC v_seedNow v_h) t.heap) (va_A (WM0 h ad cA) sz)) 0 0 (va_A (WM0 h ad cA) sz) := by
  refine E_in (cc := cX5_crossings) (maxL := 3) (ret := (some .int)) (by decide) rfl (Nat.le_of_ble_eq_true rfl) ?_
  intro p e s m args below meth c ls Q hQ C hr hlk hK hN hD hA I hl
  have C : CallFix p m c cX5_crossings 3 s args wsX5_crossings RX5 := C
  have hx := C.1
  have hb := C.2.1
  have hl : lv_has ls 3 [(0, .ref h), (1, .int x1), (2, .int x2)] := hl
  unfold P5_crossings at hrun
  refine lv_aload_n hx hb dX5_crossings_0 rfl (lv_at hl 0 rfl) ?_
  refine lv_iload_n hx hb dX5_crossings_1 rfl (lv_at hl 2 rfl) ?_
  obtain ⟨r1, h_r1, hrun⟩ := p_bnd hrun
  refine jVE_v (rest := []) C (c5_look h_r1) gX5_crossings_X5_look hd5_look hK hN hD hA I rcM rfl ⟨rfl, rfl⟩ ⟨Nat.le_of_ble_eq_true rfl, Nat.le_of_ble_eq_true rfl⟩ rfl hl.1 rfl (Nat.le_of_ble_eq_true rfl) ⟨Nat.le_of_ble_eq_true rfl, Nat.le_of_ble_eq_true rfl⟩ dX5_crossings_2 (fun H locs I => ?_)
  refine lv_aload_n hx hb dX5_crossings_5 rfl (lv_at hl 0 rfl) ?_
  refine lv_iconst (v := 0) hx hb dX5_crossings_6 rfl ?_
  refine lv_iconst (v := 0) hx hb dX5_crossings_7 rfl ?_
  obtain ⟨r2, h_r2, hrun⟩ := p_bnd hrun
  refine jVE_v (rest := []) C (c5_layOther h_r2) gX5_crossings_X5_layOther hd5_layOther hK hN hD hA I rcM rfl ⟨rfl, rfl⟩ ⟨Nat.le_of_ble_eq_true rfl, Nat.le_of_ble_eq_true rfl⟩ rfl hl.1 rfl (Nat.le_of_ble_eq_true rfl) ⟨Nat.le_of_ble_eq_true rfl, Nat.le_of_ble_eq_true rfl⟩ dX5_crossings_8 (fun H locs I => ?_)
  refine lv_aload_n hx hb dX5_crossings_11 rfl (lv_at hl 0 rfl) ?_
  refine lv_iload_n hx hb dX5_crossings_12 rfl (lv_at hl 1 rfl) ?_
  obtain ⟨r3, h_r3, hrun⟩ := p_bnd hrun
  refine jVE_v (rest := []) C (c5_look h_r3) gX5_crossings_X5_look hd5_look hK hN hD hA I rcM rfl ⟨rfl, rfl⟩ ⟨Nat.le_of_ble_eq_true rfl, Nat.le_of_ble_eq_true rfl⟩ rfl hl.1 rfl (Nat.le_of_ble_eq_true rfl) ⟨Nat.le_of_ble_eq_true rfl, Nat.le_of_ble_eq_true rfl⟩ dX5_crossings_13 (fun H locs I => ?_)
  refine lv_aload_n hx hb dX5_crossings_16 rfl (lv_at hl 0 rfl) ?_
  obtain ⟨r4, h_r4, hrun⟩ := p_bnd hrun
  refine jVS_i (rest := []) C (c5_crossNow h_r4) gX5_crossings_X5_crossNow hd5_crossNow hK hN I.1 rcM rfl ⟨rfl, rfl⟩ ⟨Nat.le_of_ble_eq_true rfl, Nat.le_of_ble_eq_true rfl⟩ rfl hl.1 rfl (Nat.le_of_ble_eq_true rfl) ⟨Nat.le_of_ble_eq_true rfl, Nat.le_of_ble_eq_true rfl⟩ dX5_crossings_17 ?_
  cases hrun
  exact rE_i C hr hlk hQ I (nbi _) rfl dX5_crossings_20

abbrev rm5_cross : Room := { frames := 3, cells := 0, slots := 0, locals := 71 }
theorem k5_cross_78 : Cond.constant RX5 78 (-2000000103) ∈ wsX5_cross := by decide +kernel
theorem k5_cross_145 : Cond.constant RX5 145 (-2000000101) ∈ wsX5_cross := by decide +kernel
theorem hd5_cross : okD yX5_cross 2 := by decide +kernel
set_option maxHeartbeats 8000000 in
set_option maxRecDepth 100000 in
theorem c5_cross {x1 : Int32} {x2 : Int32} {res : Int32 × Int32 × (Nat → Int32) × Int32 × (Nat → Int32)} (hrun : P5_cross v_roads v_lengths v_signs v_size v_at v_otherSize v_other x1 x2 = some res) : Met l yX5_cross wsX5_cross rm5_cross (va_Pc [.ref h, .int x1, .int x2] (PE D [(cA, .int)] sz (WM0 h ad cA) (WM h ad cA v_pageLength v_page v_roads v_lengths v_signs v_wordsRead v_disc v_forms v_formA v_formB v_formC v_nextOf v_cycleOf v_cycles v_firstOf v_newLength v_newSigns v_mayRun v_size v_at v_otherSize v_other v_tableA v_tableB v_tableC v_tableD v_a v_b v_c v_grade v_flowA v_flowB v_flowC v_seedNow v_h))) (va_Qi (fun (x : Int32) (_ : Unit) => x = res.1) (fun _ t => va_P D vwCl (WM h ad cA v_pageLength v_page v_roads v_lengths v_signs v_wordsRead v_disc v_forms v_formA v_formB v_formC v_nextOf v_cycleOf v_cycles v_firstOf v_newLength v_newSigns v_mayRun res.2.1 res.2.2.1 res.2.2.2.1 res.2.2.2.2 v_tableA v_tableB v_tableC v_tableD v_a v_b v_c v_grade v_flowA v_flowB v_flowC v_seedNow v_h) t.heap) (va_A (WM0 h ad cA) sz)) 0 0 (va_A (WM0 h ad cA) sz) := by
  refine E_in (cc := cX5_cross) (maxL := 3) (ret := (some .int)) (by decide) rfl (Nat.le_of_ble_eq_true rfl) ?_
  intro p e s m args below meth c ls Q hQ C hr hlk hK hN hD hA I hl
  have C : CallFix p m c cX5_cross 3 s args wsX5_cross RX5 := C
  have hx := C.1
  have hb := C.2.1
  have hl : lv_has ls 3 [(0, .ref h), (1, .int x1), (2, .int x2)] := hl
  unfold P5_cross at hrun
  refine lv_aload_n hx hb dX5_cross_0 rfl (lv_at hl 0 rfl) ?_
  refine lv_iload_n hx hb dX5_cross_1 rfl (lv_at hl 1 rfl) ?_
  obtain ⟨r1, h_r1, hrun⟩ := p_bnd hrun
  refine jVS_i (rest := []) C (c5_isRoad h_r1) gX5_cross_X5_isRoad hd5_isRoad hK hN I.1 rcM rfl ⟨rfl, rfl⟩ ⟨Nat.le_of_ble_eq_true rfl, Nat.le_of_ble_eq_true rfl⟩ rfl hl.1 rfl (Nat.le_of_ble_eq_true rfl) ⟨Nat.le_of_ble_eq_true rfl, Nat.le_of_ble_eq_true rfl⟩ dX5_cross_2 ?_
  refine lv_if_eq (tgt := 16) hx hb dX5_cross_5 rfl (fun c2 => ?_) (fun c2 => ?_)
  · have hrun := p_pos hrun c2
    refine lv_ldc (v := (-2000000101)) hx hb C.2.2.2.1 (C.2.2.2.2 _ k5_cross_145) dX5_cross_16 ?_
    cases hrun
    exact rE_i C hr hlk hQ I (nbi _) rfl dX5_cross_18
  · have hrun := p_neg hrun c2
    refine lv_aload_n hx hb dX5_cross_8 rfl (lv_at hl 0 rfl) ?_
    refine lv_iload_n hx hb dX5_cross_9 rfl (lv_at hl 2 rfl) ?_
    obtain ⟨r3, h_r3, hrun⟩ := p_bnd hrun
    refine jVS_i (rest := []) C (c5_isRoad h_r3) gX5_cross_X5_isRoad hd5_isRoad hK hN I.1 rcM rfl ⟨rfl, rfl⟩ ⟨Nat.le_of_ble_eq_true rfl, Nat.le_of_ble_eq_true rfl⟩ rfl hl.1 rfl (Nat.le_of_ble_eq_true rfl) ⟨Nat.le_of_ble_eq_true rfl, Nat.le_of_ble_eq_true rfl⟩ dX5_cross_10 ?_
    refine lv_if_ne (tgt := 19) hx hb dX5_cross_13 rfl (fun c4 => ?_) (fun c4 => ?_)
    · have hrun := p_neg hrun c4
      refine lv_aload_n hx hb dX5_cross_19 rfl (lv_at hl 0 rfl) ?_
      refine lv_iload_n hx hb dX5_cross_20 rfl (lv_at hl 1 rfl) ?_
      obtain ⟨r5, h_r5, hrun⟩ := p_bnd hrun
      refine jVE_i (rest := []) C (c5_isClosed h_r5) gX5_cross_X5_isClosed hd5_isClosed hK hN hD hA I rcM rfl ⟨rfl, rfl⟩ ⟨Nat.le_of_ble_eq_true rfl, Nat.le_of_ble_eq_true rfl⟩ rfl hl.1 rfl (Nat.le_of_ble_eq_true rfl) ⟨Nat.le_of_ble_eq_true rfl, Nat.le_of_ble_eq_true rfl⟩ dX5_cross_21 (fun H locs I => ?_)
      refine lv_if_eq (tgt := 44) hx hb dX5_cross_24 rfl (fun c6 => ?_) (fun c6 => ?_)
      · have hrun := p_pos hrun c6
        refine lv_ldc (v := (-2000000103)) hx hb C.2.2.2.1 (C.2.2.2.2 _ k5_cross_78) dX5_cross_44 ?_
        cases hrun
        exact rE_i C hr hlk hQ I (nbi _) rfl dX5_cross_46
      · have hrun := p_neg hrun c6
        refine lv_aload_n hx hb dX5_cross_27 rfl (lv_at hl 0 rfl) ?_
        refine lv_iload_n hx hb dX5_cross_28 rfl (lv_at hl 2 rfl) ?_
        obtain ⟨r7, h_r7, hrun⟩ := p_bnd hrun
        refine jVE_i (rest := []) C (c5_isClosed h_r7) gX5_cross_X5_isClosed hd5_isClosed hK hN hD hA I rcM rfl ⟨rfl, rfl⟩ ⟨Nat.le_of_ble_eq_true rfl, Nat.le_of_ble_eq_true rfl⟩ rfl hl.1 rfl (Nat.le_of_ble_eq_true rfl) ⟨Nat.le_of_ble_eq_true rfl, Nat.le_of_ble_eq_true rfl⟩ dX5_cross_29 (fun H locs I => ?_)
        refine lv_if_eq (tgt := 44) hx hb dX5_cross_32 rfl (fun c8 => ?_) (fun c8 => ?_)
        · have hrun := p_pos hrun c8
          refine lv_ldc (v := (-2000000103)) hx hb C.2.2.2.1 (C.2.2.2.2 _ k5_cross_78) dX5_cross_44 ?_
          cases hrun
          exact rE_i C hr hlk hQ I (nbi _) rfl dX5_cross_46
        · have hrun := p_neg hrun c8
          refine lv_aload_n hx hb dX5_cross_35 rfl (lv_at hl 0 rfl) ?_
          refine lv_iload_n hx hb dX5_cross_36 rfl (lv_at hl 1 rfl) ?_
          refine lv_iload_n hx hb dX5_cross_37 rfl (lv_at hl 2 rfl) ?_
          obtain ⟨r9, h_r9, hrun⟩ := p_bnd hrun
          refine jVE_i (rest := []) C (c5_crossings h_r9) gX5_cross_X5_crossings hd5_crossings hK hN hD hA I rcM rfl ⟨rfl, rfl⟩ ⟨Nat.le_of_ble_eq_true rfl, Nat.le_of_ble_eq_true rfl⟩ rfl hl.1 rfl (Nat.le_of_ble_eq_true rfl) ⟨Nat.le_of_ble_eq_true rfl, Nat.le_of_ble_eq_true rfl⟩ dX5_cross_38 (fun H locs I => ?_)
          refine lv_goto (tgt := 46) hx hb dX5_cross_41 rfl ?_
          cases hrun
          exact rE_i C hr hlk hQ I (nbi _) rfl dX5_cross_46
    · have hrun := p_pos hrun c4
      refine lv_ldc (v := (-2000000101)) hx hb C.2.2.2.1 (C.2.2.2.2 _ k5_cross_145) dX5_cross_16 ?_
      cases hrun
      exact rE_i C hr hlk hQ I (nbi _) rfl dX5_cross_18

abbrev rm5_put : Room := { frames := 0, cells := 0, slots := 0, locals := 0 }
theorem fl5_put_16 : Cond.fieldLink RX5 16 "RiverWordsModel" "signs" "[I" ∈ wsX5_put := by decide +kernel
theorem fl5_put_40 : Cond.fieldLink RX5 40 "RiverWordsModel" "at" "[I" ∈ wsX5_put := by decide +kernel
theorem fl5_put_85 : Cond.fieldLink RX5 85 "RiverWordsModel" "size" "I" ∈ wsX5_put := by decide +kernel
theorem inm5_put : ∀ w ∈ wsX50, w ∈ wsX5_put := fun w h => by unfold wsX5_put; first | exact List.mem_cons_of_mem _ (List.mem_append_right _ h) | exact List.mem_cons_of_mem _ h
theorem hd5_put : okD yX5_put 2 := by decide +kernel
set_option maxHeartbeats 8000000 in
set_option maxRecDepth 100000 in
theorem c5_put {x1 : Int32} {x2 : Int32} {res : (Nat → Int32)} (hrun : P5_put v_signs v_size v_at x1 x2 = some res) : Met l yX5_put wsX5_put rm5_put (va_Pc [.ref h, .int x1, .int x2] (PE D [(cA, .int)] sz (WM0 h ad cA) (WM h ad cA v_pageLength v_page v_roads v_lengths v_signs v_wordsRead v_disc v_forms v_formA v_formB v_formC v_nextOf v_cycleOf v_cycles v_firstOf v_newLength v_newSigns v_mayRun v_size v_at v_otherSize v_other v_tableA v_tableB v_tableC v_tableD v_a v_b v_c v_grade v_flowA v_flowB v_flowC v_seedNow v_h))) (va_Qv (fun _ : Unit => True) (fun _ t => va_P D vwCl (WM h ad cA v_pageLength v_page v_roads v_lengths res v_wordsRead v_disc v_forms v_formA v_formB v_formC v_nextOf v_cycleOf v_cycles v_firstOf v_newLength v_newSigns v_mayRun v_size v_at v_otherSize v_other v_tableA v_tableB v_tableC v_tableD v_a v_b v_c v_grade v_flowA v_flowB v_flowC v_seedNow v_h) t.heap) (va_A (WM0 h ad cA) sz)) 0 0 (va_A (WM0 h ad cA) sz) := by
  refine E_in (cc := cX5_put) (maxL := 4) (ret := none) (by decide) rfl (Nat.le_of_ble_eq_true rfl) ?_
  intro p e s m args below meth c ls Q hQ C hr hlk hK hN hD hA I hl
  have C : CallFix p m c cX5_put 4 s args wsX5_put RX5 := C
  have hx := C.1
  have hb := C.2.1
  have hl : lv_has ls 4 [(0, .ref h), (1, .int x1), (2, .int x2)] := hl
  have loop_2 : ∀ (n : Nat) (v_signs : Nat → Int32) (x3 : Int32) (out : (Nat → Int32)), P5_put_2 v_size v_at x1 x2 n v_signs x3 = some out → (∀ (H : Heap) (locs : List Loc) (ls : Array Slot), IM D (va_A (WM0 h ad cA) sz) s.heap H locs (WM h ad cA v_pageLength v_page v_roads v_lengths out v_wordsRead v_disc v_forms v_formA v_formB v_formC v_nextOf v_cycleOf v_cycles v_firstOf v_newLength v_newSigns v_mayRun v_size v_at v_otherSize v_other v_tableA v_tableB v_tableC v_tableD v_a v_b v_c v_grade v_flowA v_flowB v_flowC v_seedNow v_h) → lv_has ls 4 [] → W p l e rm5_put s m args below meth c H locs 0 0 Q (F0 m 40 ls [])) → ∀ (H : Heap) (locs : List Loc) (ls : Array Slot), IM D (va_A (WM0 h ad cA) sz) s.heap H locs (WM h ad cA v_pageLength v_page v_roads v_lengths v_signs v_wordsRead v_disc v_forms v_formA v_formB v_formC v_nextOf v_cycleOf v_cycles v_firstOf v_newLength v_newSigns v_mayRun v_size v_at v_otherSize v_other v_tableA v_tableB v_tableC v_tableD v_a v_b v_c v_grade v_flowA v_flowB v_flowC v_seedNow v_h) → lv_has ls 4 [(0, .ref h), (1, .int x1), (2, .int x2), (3, .int x3)] → W p l e rm5_put s m args below meth c H locs 0 0 Q (F0 m 2 ls []) := by
    intro n
    induction n with
    | zero =>
      intro v_signs x3 out hrun K H locs ls I hl
      cases hrun
    | succ n ih =>
      intro v_signs x3 out hrun K H locs ls I hl
      rw [P5_put_2] at hrun
      refine lv_iload_n hx hb dX5_put_2 rfl (lv_at hl 3 rfl) ?_
      refine lv_aload_n hx hb dX5_put_3 rfl (lv_at hl 0 rfl) ?_
      refine gM_size C inm5_put hK I.1 fl5_put_85 dX5_put_4 ?_
      refine lv_icmp_ge (tgt := 40) hx hb dX5_put_7 rfl (fun c1 => ?_) (fun c1 => ?_)
      · have hrun := p_pos hrun c1
        cases hrun
        exact K _ _ _ I (lv_sub hl [] rfl)
      · have hrun := p_neg hrun c1
        refine lv_aload_n hx hb dX5_put_10 rfl (lv_at hl 0 rfl) ?_
        refine gM_signs C inm5_put hK I.1 fl5_put_16 dX5_put_11 ?_
        refine lv_bipush (v := 20) hx hb dX5_put_14 rfl ?_
        refine lv_iload_n hx hb dX5_put_16 rfl (lv_at hl 1 rfl) ?_
        refine lv_imul hx hb dX5_put_17 ?_
        refine lv_iload_n hx hb dX5_put_18 rfl (lv_at hl 3 rfl) ?_
        refine lv_iadd hx hb dX5_put_19 ?_
        refine lv_aload_n hx hb dX5_put_20 rfl (lv_at hl 0 rfl) ?_
        refine gM_at C inm5_put hK I.1 fl5_put_40 dX5_put_21 ?_
        refine lv_iload_n hx hb dX5_put_24 rfl (lv_at hl 3 rfl) ?_
        refine lv_iload_n hx hb dX5_put_25 rfl (lv_at hl 2 rfl) ?_
        refine lv_iadd hx hb dX5_put_26 ?_
        refine lv_aload_n hx hb dX5_put_27 rfl (lv_at hl 0 rfl) ?_
        refine gM_size C inm5_put hK I.1 fl5_put_85 dX5_put_28 ?_
        obtain ⟨z2, hrun⟩ := p_chk hrun
        refine j_irem hx hb dX5_put_31 z2 ?_
        obtain ⟨b3, hrun⟩ := p_chk hrun
        refine ldM_at C hK I.1 b3 dX5_put_32 ?_
        obtain ⟨b4, hrun⟩ := p_chk hrun
        refine stM_signs C hK hD I b4 dX5_put_33 (fun H locs I => ?_)
        refine lv_iinc (v := x3 + 1) (lv' := [(3, .int (x3 + 1)), (0, .ref h), (1, .int x1), (2, .int x2)]) hx hb dX5_put_34 hl (k := 3) rfl rfl (by decide) rfl (fun ls hl => ?_)
        refine lv_goto (tgt := 2) hx hb dX5_put_37 rfl ?_
        exact ih (upd v_signs (Int32.toNatClampNeg ((20 * x1) + x3)) (v_at (Int32.toNatClampNeg (jrem (x3 + x2) v_size)))) (x3 + 1) out hrun K _ _ _ I (lv_sub hl [1, 2, 3, 0] rfl)
  unfold P5_put at hrun
  refine lv_iconst (v := 0) hx hb dX5_put_0 rfl ?_
  refine lv_istore_n (lv' := [(3, .int 0), (0, .ref h), (1, .int x1), (2, .int x2)]) hx hb dX5_put_1 rfl hl (by decide) rfl (fun ls hl => ?_)
  obtain ⟨o5, h_o5, hrun⟩ := p_bnd hrun
  refine loop_2 FU v_signs 0 o5 h_o5 (fun H locs ls I hl => ?_) _ _ _ I (lv_sub hl [1, 2, 3, 0] rfl)
  cases hrun
  exact rE_v C hr hlk hQ I dX5_put_40

abbrev rm5_turn : Room := { frames := 2, cells := 0, slots := 0, locals := 45 }
theorem fl5_turn_13 : Cond.fieldLink RX5 13 "RiverWordsModel" "lengths" "[I" ∈ wsX5_turn := by decide +kernel
theorem k5_turn_54 : Cond.constant RX5 54 (-2000000102) ∈ wsX5_turn := by decide +kernel
theorem k5_turn_145 : Cond.constant RX5 145 (-2000000101) ∈ wsX5_turn := by decide +kernel
theorem inm5_turn : ∀ w ∈ wsX50, w ∈ wsX5_turn := fun w h => by unfold wsX5_turn; first | exact List.mem_cons_of_mem _ (List.mem_append_right _ h) | exact List.mem_cons_of_mem _ h
theorem hd5_turn : okD yX5_turn 2 := by decide +kernel
set_option maxHeartbeats 8000000 in
set_option maxRecDepth 100000 in
theorem c5_turn {x1 : Int32} {x2 : Int32} {res : Int32 × (Nat → Int32) × Int32 × (Nat → Int32)} (hrun : P5_turn v_roads v_lengths v_signs v_size v_at x1 x2 = some res) : Met l yX5_turn wsX5_turn rm5_turn (va_Pc [.ref h, .int x1, .int x2] (PE D [(cA, .int)] sz (WM0 h ad cA) (WM h ad cA v_pageLength v_page v_roads v_lengths v_signs v_wordsRead v_disc v_forms v_formA v_formB v_formC v_nextOf v_cycleOf v_cycles v_firstOf v_newLength v_newSigns v_mayRun v_size v_at v_otherSize v_other v_tableA v_tableB v_tableC v_tableD v_a v_b v_c v_grade v_flowA v_flowB v_flowC v_seedNow v_h))) (va_Qi (fun (x : Int32) (_ : Unit) => x = res.1) (fun _ t => va_P D vwCl (WM h ad cA v_pageLength v_page v_roads v_lengths res.2.1 v_wordsRead v_disc v_forms v_formA v_formB v_formC v_nextOf v_cycleOf v_cycles v_firstOf v_newLength v_newSigns v_mayRun res.2.2.1 res.2.2.2 v_otherSize v_other v_tableA v_tableB v_tableC v_tableD v_a v_b v_c v_grade v_flowA v_flowB v_flowC v_seedNow v_h) t.heap) (va_A (WM0 h ad cA) sz)) 0 0 (va_A (WM0 h ad cA) sz) := by
  refine E_in (cc := cX5_turn) (maxL := 3) (ret := (some .int)) (by decide) rfl (Nat.le_of_ble_eq_true rfl) ?_
  intro p e s m args below meth c ls Q hQ C hr hlk hK hN hD hA I hl
  have C : CallFix p m c cX5_turn 3 s args wsX5_turn RX5 := C
  have hx := C.1
  have hb := C.2.1
  have hl : lv_has ls 3 [(0, .ref h), (1, .int x1), (2, .int x2)] := hl
  unfold P5_turn at hrun
  refine lv_aload_n hx hb dX5_turn_0 rfl (lv_at hl 0 rfl) ?_
  refine lv_iload_n hx hb dX5_turn_1 rfl (lv_at hl 1 rfl) ?_
  obtain ⟨r1, h_r1, hrun⟩ := p_bnd hrun
  refine jVS_i (rest := []) C (c5_isRoad h_r1) gX5_turn_X5_isRoad hd5_isRoad hK hN I.1 rcM rfl ⟨rfl, rfl⟩ ⟨Nat.le_of_ble_eq_true rfl, Nat.le_of_ble_eq_true rfl⟩ rfl hl.1 rfl (Nat.le_of_ble_eq_true rfl) ⟨Nat.le_of_ble_eq_true rfl, Nat.le_of_ble_eq_true rfl⟩ dX5_turn_2 ?_
  refine lv_if_ne (tgt := 11) hx hb dX5_turn_5 rfl (fun c2 => ?_) (fun c2 => ?_)
  · have hrun := p_neg hrun c2
    refine lv_iload_n hx hb dX5_turn_11 rfl (lv_at hl 2 rfl) ?_
    refine lv_iconst (v := 0) hx hb dX5_turn_12 rfl ?_
    refine lv_aload_n hx hb dX5_turn_13 rfl (lv_at hl 0 rfl) ?_
    refine gM_lengths C inm5_turn hK I.1 fl5_turn_13 dX5_turn_14 ?_
    refine lv_iload_n hx hb dX5_turn_17 rfl (lv_at hl 1 rfl) ?_
    obtain ⟨b3, hrun⟩ := p_chk hrun
    refine ldM_lengths C hK I.1 b3 dX5_turn_18 ?_
    refine lv_iconst (v := 1) hx hb dX5_turn_19 rfl ?_
    refine lv_isub hx hb dX5_turn_20 ?_
    obtain ⟨r4, h_r4, hrun⟩ := p_bnd hrun
    refine jSS_i (rest := []) C (c5_within h_r4) gX5_turn_X5_within hd5_within rfl ⟨rfl, rfl⟩ ⟨Nat.le_of_ble_eq_true rfl, Nat.le_of_ble_eq_true rfl⟩ rfl hl.1 rfl (Nat.le_of_ble_eq_true rfl) ⟨Nat.le_of_ble_eq_true rfl, Nat.le_of_ble_eq_true rfl⟩ dX5_turn_21 ?_
    refine lv_if_ne (tgt := 30) hx hb dX5_turn_24 rfl (fun c5 => ?_) (fun c5 => ?_)
    · have hrun := p_neg hrun c5
      refine lv_aload_n hx hb dX5_turn_30 rfl (lv_at hl 0 rfl) ?_
      refine lv_iload_n hx hb dX5_turn_31 rfl (lv_at hl 1 rfl) ?_
      obtain ⟨r6, h_r6, hrun⟩ := p_bnd hrun
      refine jVE_v (rest := []) C (c5_look h_r6) gX5_turn_X5_look hd5_look hK hN hD hA I rcM rfl ⟨rfl, rfl⟩ ⟨Nat.le_of_ble_eq_true rfl, Nat.le_of_ble_eq_true rfl⟩ rfl hl.1 rfl (Nat.le_of_ble_eq_true rfl) ⟨Nat.le_of_ble_eq_true rfl, Nat.le_of_ble_eq_true rfl⟩ dX5_turn_32 (fun H locs I => ?_)
      refine lv_aload_n hx hb dX5_turn_35 rfl (lv_at hl 0 rfl) ?_
      refine lv_iload_n hx hb dX5_turn_36 rfl (lv_at hl 1 rfl) ?_
      refine lv_iload_n hx hb dX5_turn_37 rfl (lv_at hl 2 rfl) ?_
      obtain ⟨r7, h_r7, hrun⟩ := p_bnd hrun
      refine jVE_v (rest := []) C (c5_put h_r7) gX5_turn_X5_put hd5_put hK hN hD hA I rcM rfl ⟨rfl, rfl⟩ ⟨Nat.le_of_ble_eq_true rfl, Nat.le_of_ble_eq_true rfl⟩ rfl hl.1 rfl (Nat.le_of_ble_eq_true rfl) ⟨Nat.le_of_ble_eq_true rfl, Nat.le_of_ble_eq_true rfl⟩ dX5_turn_38 (fun H locs I => ?_)
      refine lv_aload_n hx hb dX5_turn_41 rfl (lv_at hl 0 rfl) ?_
      obtain ⟨r8, h_r8, hrun⟩ := p_bnd hrun
      refine jVS_i (rest := []) C (c5_periodNow h_r8) gX5_turn_X5_periodNow hd5_periodNow hK hN I.1 rcM rfl ⟨rfl, rfl⟩ ⟨Nat.le_of_ble_eq_true rfl, Nat.le_of_ble_eq_true rfl⟩ rfl hl.1 rfl (Nat.le_of_ble_eq_true rfl) ⟨Nat.le_of_ble_eq_true rfl, Nat.le_of_ble_eq_true rfl⟩ dX5_turn_42 ?_
      cases hrun
      exact rE_i C hr hlk hQ I (nbi _) rfl dX5_turn_45
    · have hrun := p_pos hrun c5
      refine lv_ldc (v := (-2000000102)) hx hb C.2.2.2.1 (C.2.2.2.2 _ k5_turn_54) dX5_turn_27 ?_
      cases hrun
      exact rE_i C hr hlk hQ I (nbi _) rfl dX5_turn_29
  · have hrun := p_pos hrun c2
    refine lv_ldc (v := (-2000000101)) hx hb C.2.2.2.1 (C.2.2.2.2 _ k5_turn_145) dX5_turn_8 ?_
    cases hrun
    exact rE_i C hr hlk hQ I (nbi _) rfl dX5_turn_10

end M54
