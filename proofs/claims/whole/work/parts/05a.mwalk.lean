section M50
variable {l : Launch} {D : va_G} {sz : Nat}
variable {h : Nat} {ad : Nat → Nat} {cA : ClassId}
variable {v_pageLength v_roads v_wordsRead v_disc v_forms v_cycles v_newLength v_mayRun v_size v_otherSize v_tableA v_tableB v_tableC v_tableD v_a v_b v_c v_grade v_flowA v_flowB v_flowC : Int32}
variable {v_seedNow v_h : Int64}
variable {v_page v_lengths v_signs v_formA v_formB v_formC v_nextOf v_cycleOf v_firstOf v_newSigns v_at v_other : Nat → Int32}
abbrev rm5_within : Room := { frames := 0, cells := 0, slots := 0, locals := 0 }
theorem hd5_within : okD yX5_within 3 := by decide +kernel
set_option maxHeartbeats 8000000 in
set_option maxRecDepth 100000 in
theorem c5_within {x0 : Int32} {x1 : Int32} {x2 : Int32} {res : Int32} (hrun : P5_within x0 x1 x2 = some res) : Met l yX5_within wsX5_within rm5_within (va_Pc [.int x0, .int x1, .int x2] PN) (vp_Si (fun x => x = res)) 0 0 (fun _ => False) := by
  refine N_in (cc := cX5_within) (maxL := 3) (ret := (some .boolean)) (by decide) rfl (Nat.le_of_ble_eq_true rfl) ?_
  intro p e s m args below meth c ls Q hQ C hr hlk hl
  have C : CallFix p m c cX5_within 3 s args wsX5_within RX5 := C
  have hx := C.1
  have hb := C.2.1
  have hl : lv_has ls 3 [(0, .int x0), (1, .int x1), (2, .int x2)] := hl
  unfold P5_within at hrun
  refine lv_iload_n hx hb dX5_within_0 rfl (lv_at hl 0 rfl) ?_
  refine lv_iload_n hx hb dX5_within_1 rfl (lv_at hl 1 rfl) ?_
  refine lv_icmp_lt (tgt := 14) hx hb dX5_within_2 rfl (fun c1 => ?_) (fun c1 => ?_)
  · have hrun := p_pos hrun c1
    refine lv_iconst (v := 0) hx hb dX5_within_14 rfl ?_
    cases hrun
    exact rS_i C hr hlk hQ (nb01 (Or.inl rfl)) rfl dX5_within_15
  · have hrun := p_neg hrun c1
    refine lv_iload_n hx hb dX5_within_5 rfl (lv_at hl 0 rfl) ?_
    refine lv_iload_n hx hb dX5_within_6 rfl (lv_at hl 2 rfl) ?_
    refine lv_icmp_gt (tgt := 14) hx hb dX5_within_7 rfl (fun c2 => ?_) (fun c2 => ?_)
    · have hrun := p_pos hrun c2
      refine lv_iconst (v := 0) hx hb dX5_within_14 rfl ?_
      cases hrun
      exact rS_i C hr hlk hQ (nb01 (Or.inl rfl)) rfl dX5_within_15
    · have hrun := p_neg hrun c2
      refine lv_iconst (v := 1) hx hb dX5_within_10 rfl ?_
      refine lv_goto (tgt := 15) hx hb dX5_within_11 rfl ?_
      cases hrun
      exact rS_i C hr hlk hQ (nb01 (Or.inr rfl)) rfl dX5_within_15

abbrev rm5_abs : Room := { frames := 0, cells := 0, slots := 0, locals := 0 }
theorem hd5_abs : okD yX5_abs 1 := by decide +kernel
set_option maxHeartbeats 8000000 in
set_option maxRecDepth 100000 in
theorem c5_abs {x0 : Int32} {res : Int32} (hrun : P5_abs x0 = some res) : Met l yX5_abs wsX5_abs rm5_abs (va_Pc [.int x0] PN) (vp_Si (fun x => x = res)) 0 0 (fun _ => False) := by
  refine N_in (cc := cX5_abs) (maxL := 1) (ret := (some .int)) (by decide) rfl (Nat.le_of_ble_eq_true rfl) ?_
  intro p e s m args below meth c ls Q hQ C hr hlk hl
  have C : CallFix p m c cX5_abs 1 s args wsX5_abs RX5 := C
  have hx := C.1
  have hb := C.2.1
  have hl : lv_has ls 1 [(0, .int x0)] := hl
  unfold P5_abs at hrun
  refine lv_iload_n hx hb dX5_abs_0 rfl (lv_at hl 0 rfl) ?_
  refine lv_if_ge (tgt := 9) hx hb dX5_abs_1 rfl (fun c1 => ?_) (fun c1 => ?_)
  · have hrun := p_pos hrun c1
    refine lv_iload_n hx hb dX5_abs_9 rfl (lv_at hl 0 rfl) ?_
    cases hrun
    exact rS_i C hr hlk hQ (nbi _) rfl dX5_abs_10
  · have hrun := p_neg hrun c1
    refine lv_iload_n hx hb dX5_abs_4 rfl (lv_at hl 0 rfl) ?_
    refine lv_ineg hx hb dX5_abs_5 ?_
    refine lv_goto (tgt := 10) hx hb dX5_abs_6 rfl ?_
    cases hrun
    exact rS_i C hr hlk hQ (nbi _) rfl dX5_abs_10

abbrev rm5_common : Room := { frames := 1, cells := 0, slots := 0, locals := 20 }
theorem hd5_common : okD yX5_common 2 := by decide +kernel
set_option maxHeartbeats 8000000 in
set_option maxRecDepth 100000 in
theorem c5_common {x0 : Int32} {x1 : Int32} {res : Int32} (hrun : P5_common x0 x1 = some res) : Met l yX5_common wsX5_common rm5_common (va_Pc [.int x0, .int x1] PN) (vp_Si (fun x => x = res)) 0 0 (fun _ => False) := by
  refine N_in (cc := cX5_common) (maxL := 5) (ret := (some .int)) (by decide) rfl (Nat.le_of_ble_eq_true rfl) ?_
  intro p e s m args below meth c ls Q hQ C hr hlk hl
  have C : CallFix p m c cX5_common 5 s args wsX5_common RX5 := C
  have hx := C.1
  have hb := C.2.1
  have hl : lv_has ls 5 [(0, .int x0), (1, .int x1)] := hl
  have loop_10 : ∀ (n : Nat) (x2 : Int32) (x3 : Int32) (out : Int32), P5_common_10 n x2 x3 = some out → (∀ (ls : Array Slot), lv_has ls 5 [(2, .int out)] → W p l e rm5_common s m args below meth c s.heap [] 0 0 Q (F0 m 27 ls [])) → ∀ (ls : Array Slot), lv_has ls 5 [(2, .int x2), (3, .int x3)] → W p l e rm5_common s m args below meth c s.heap [] 0 0 Q (F0 m 10 ls []) := by
    intro n
    induction n with
    | zero =>
      intro x2 x3 out hrun K ls hl
      cases hrun
    | succ n ih =>
      intro x2 x3 out hrun K ls hl
      rw [P5_common_10] at hrun
      refine lv_iload_n hx hb dX5_common_10 rfl (lv_at hl 1 rfl) ?_
      refine lv_if_eq (tgt := 27) hx hb dX5_common_11 rfl (fun c3 => ?_) (fun c3 => ?_)
      · have hrun := p_pos hrun c3
        cases hrun
        exact K _ (lv_sub hl [0] rfl)
      · have hrun := p_neg hrun c3
        refine lv_iload_n hx hb dX5_common_14 rfl (lv_at hl 0 rfl) ?_
        refine lv_iload_n hx hb dX5_common_15 rfl (lv_at hl 1 rfl) ?_
        obtain ⟨z4, hrun⟩ := p_chk hrun
        refine j_irem hx hb dX5_common_16 z4 ?_
        refine lv_istore (lv' := [(4, .int (jrem x2 x3)), (2, .int x2), (3, .int x3)]) hx hb dX5_common_17 hl (by decide) rfl (fun ls hl => ?_)
        refine lv_iload_n hx hb dX5_common_19 rfl (lv_at hl 2 rfl) ?_
        refine lv_istore_n (lv' := [(2, .int x3), (4, .int (jrem x2 x3)), (3, .int x3)]) hx hb dX5_common_20 rfl hl (by decide) rfl (fun ls hl => ?_)
        refine lv_iload hx hb dX5_common_21 (lv_at hl 1 rfl) ?_
        refine lv_istore_n (lv' := [(3, .int (jrem x2 x3)), (2, .int x3), (4, .int (jrem x2 x3))]) hx hb dX5_common_23 rfl hl (by decide) rfl (fun ls hl => ?_)
        refine lv_goto (tgt := 10) hx hb dX5_common_24 rfl ?_
        exact ih x3 (jrem x2 x3) out hrun K _ (lv_sub hl [1, 0] rfl)
  unfold P5_common at hrun
  refine lv_iload_n hx hb dX5_common_0 rfl (lv_at hl 0 rfl) ?_
  obtain ⟨r1, h_r1, hrun⟩ := p_bnd hrun
  refine jSS_i (rest := []) C (c5_abs h_r1) gX5_common_X5_abs hd5_abs rfl ⟨rfl, rfl⟩ ⟨Nat.le_of_ble_eq_true rfl, Nat.le_of_ble_eq_true rfl⟩ rfl hl.1 rfl (Nat.le_of_ble_eq_true rfl) ⟨Nat.le_of_ble_eq_true rfl, Nat.le_of_ble_eq_true rfl⟩ dX5_common_1 ?_
  refine lv_istore_n (lv' := [(2, .int r1), (0, .int x0), (1, .int x1)]) hx hb dX5_common_4 rfl hl (by decide) rfl (fun ls hl => ?_)
  refine lv_iload_n hx hb dX5_common_5 rfl (lv_at hl 2 rfl) ?_
  obtain ⟨r2, h_r2, hrun⟩ := p_bnd hrun
  refine jSS_i (rest := []) C (c5_abs h_r2) gX5_common_X5_abs hd5_abs rfl ⟨rfl, rfl⟩ ⟨Nat.le_of_ble_eq_true rfl, Nat.le_of_ble_eq_true rfl⟩ rfl hl.1 rfl (Nat.le_of_ble_eq_true rfl) ⟨Nat.le_of_ble_eq_true rfl, Nat.le_of_ble_eq_true rfl⟩ dX5_common_6 ?_
  refine lv_istore_n (lv' := [(3, .int r2), (2, .int r1), (0, .int x0), (1, .int x1)]) hx hb dX5_common_9 rfl hl (by decide) rfl (fun ls hl => ?_)
  obtain ⟨o5, h_o5, hrun⟩ := p_bnd hrun
  refine loop_10 FU r1 r2 o5 h_o5 (fun ls hl => ?_) _ (lv_sub hl [1, 0] rfl)
  refine lv_iload_n hx hb dX5_common_27 rfl (lv_at hl 0 rfl) ?_
  cases hrun
  exact rS_i C hr hlk hQ (nbi _) rfl dX5_common_28

abbrev rm5_letter : Room := { frames := 1, cells := 0, slots := 0, locals := 22 }
theorem fl5_letter_7 : Cond.fieldLink RX5 7 "RiverWordsModel" "page" "[I" ∈ wsX5_letter := by decide +kernel
theorem fl5_letter_55 : Cond.fieldLink RX5 55 "RiverWordsModel" "pageLength" "I" ∈ wsX5_letter := by decide +kernel
theorem k5_letter_54 : Cond.constant RX5 54 (-2000000102) ∈ wsX5_letter := by decide +kernel
theorem k5_letter_59 : Cond.constant RX5 59 (-2000000104) ∈ wsX5_letter := by decide +kernel
theorem inm5_letter : ∀ w ∈ wsX50, w ∈ wsX5_letter := fun w h => by unfold wsX5_letter; first | exact List.mem_cons_of_mem _ (List.mem_append_right _ h) | exact List.mem_cons_of_mem _ h
theorem hd5_letter : okD yX5_letter 1 := by decide +kernel
set_option maxHeartbeats 8000000 in
set_option maxRecDepth 100000 in
theorem c5_letter {x1 : Int32} {res : Int32 × Int32 × (Nat → Int32)} (hrun : P5_letter v_pageLength v_page x1 = some res) : Met l yX5_letter wsX5_letter rm5_letter (va_Pc [.ref h, .int x1] (PE D [(cA, .int)] sz (WM0 h ad cA) (WM h ad cA v_pageLength v_page v_roads v_lengths v_signs v_wordsRead v_disc v_forms v_formA v_formB v_formC v_nextOf v_cycleOf v_cycles v_firstOf v_newLength v_newSigns v_mayRun v_size v_at v_otherSize v_other v_tableA v_tableB v_tableC v_tableD v_a v_b v_c v_grade v_flowA v_flowB v_flowC v_seedNow v_h))) (va_Qi (fun (x : Int32) (_ : Unit) => x = res.1) (fun _ t => va_P D vwCl (WM h ad cA res.2.1 res.2.2 v_roads v_lengths v_signs v_wordsRead v_disc v_forms v_formA v_formB v_formC v_nextOf v_cycleOf v_cycles v_firstOf v_newLength v_newSigns v_mayRun v_size v_at v_otherSize v_other v_tableA v_tableB v_tableC v_tableD v_a v_b v_c v_grade v_flowA v_flowB v_flowC v_seedNow v_h) t.heap) (va_A (WM0 h ad cA) sz)) 0 0 (va_A (WM0 h ad cA) sz) := by
  refine E_in (cc := cX5_letter) (maxL := 2) (ret := (some .int)) (by decide) rfl (Nat.le_of_ble_eq_true rfl) ?_
  intro p e s m args below meth c ls Q hQ C hr hlk hK hN hD hA I hl
  have C : CallFix p m c cX5_letter 2 s args wsX5_letter RX5 := C
  have hx := C.1
  have hb := C.2.1
  have hl : lv_has ls 2 [(0, .ref h), (1, .int x1)] := hl
  unfold P5_letter at hrun
  refine lv_iload_n hx hb dX5_letter_0 rfl (lv_at hl 1 rfl) ?_
  refine lv_bipush (v := 32) hx hb dX5_letter_1 rfl ?_
  refine lv_bipush (v := 126) hx hb dX5_letter_3 rfl ?_
  obtain ⟨r1, h_r1, hrun⟩ := p_bnd hrun
  refine jSS_i (rest := []) C (c5_within h_r1) gX5_letter_X5_within hd5_within rfl ⟨rfl, rfl⟩ ⟨Nat.le_of_ble_eq_true rfl, Nat.le_of_ble_eq_true rfl⟩ rfl hl.1 rfl (Nat.le_of_ble_eq_true rfl) ⟨Nat.le_of_ble_eq_true rfl, Nat.le_of_ble_eq_true rfl⟩ dX5_letter_5 ?_
  refine lv_if_ne (tgt := 14) hx hb dX5_letter_8 rfl (fun c2 => ?_) (fun c2 => ?_)
  · have hrun := p_neg hrun c2
    refine lv_aload_n hx hb dX5_letter_14 rfl (lv_at hl 0 rfl) ?_
    refine gM_pageLength C inm5_letter hK I.1 fl5_letter_55 dX5_letter_15 ?_
    refine lv_bipush (v := 20) hx hb dX5_letter_18 rfl ?_
    refine lv_icmp_ne (tgt := 26) hx hb dX5_letter_20 rfl (fun c3 => ?_) (fun c3 => ?_)
    · have hrun := p_neg hrun c3
      refine lv_aload_n hx hb dX5_letter_26 rfl (lv_at hl 0 rfl) ?_
      refine gM_page C inm5_letter hK I.1 fl5_letter_7 dX5_letter_27 ?_
      refine lv_aload_n hx hb dX5_letter_30 rfl (lv_at hl 0 rfl) ?_
      refine gM_pageLength C inm5_letter hK I.1 fl5_letter_55 dX5_letter_31 ?_
      refine lv_iload_n hx hb dX5_letter_34 rfl (lv_at hl 1 rfl) ?_
      obtain ⟨b4, hrun⟩ := p_chk hrun
      refine stM_page C hK hD I b4 dX5_letter_35 (fun H locs I => ?_)
      refine lv_aload_n hx hb dX5_letter_36 rfl (lv_at hl 0 rfl) ?_
      refine lv_dup hx hb dX5_letter_37 rfl ?_
      refine gM_pageLength C inm5_letter hK I.1 fl5_letter_55 dX5_letter_38 ?_
      refine lv_iconst (v := 1) hx hb dX5_letter_41 rfl ?_
      refine lv_iadd hx hb dX5_letter_42 ?_
      refine pM_pageLength C inm5_letter hK hD I fl5_letter_55 dX5_letter_43 (fun H locs I => ?_)
      refine lv_aload_n hx hb dX5_letter_46 rfl (lv_at hl 0 rfl) ?_
      refine gM_pageLength C inm5_letter hK I.1 fl5_letter_55 dX5_letter_47 ?_
      cases hrun
      exact rE_i C hr hlk hQ I (nbi _) rfl dX5_letter_50
    · have hrun := p_pos hrun c3
      refine lv_ldc (v := (-2000000104)) hx hb C.2.2.2.1 (C.2.2.2.2 _ k5_letter_59) dX5_letter_23 ?_
      cases hrun
      exact rE_i C hr hlk hQ I (nbi _) rfl dX5_letter_25
  · have hrun := p_pos hrun c2
    refine lv_ldc (v := (-2000000102)) hx hb C.2.2.2.1 (C.2.2.2.2 _ k5_letter_54) dX5_letter_11 ?_
    cases hrun
    exact rE_i C hr hlk hQ I (nbi _) rfl dX5_letter_13

abbrev rm5_blank : Room := { frames := 0, cells := 0, slots := 0, locals := 0 }
theorem fl5_blank_55 : Cond.fieldLink RX5 55 "RiverWordsModel" "pageLength" "I" ∈ wsX5_blank := by decide +kernel
theorem inm5_blank : ∀ w ∈ wsX50, w ∈ wsX5_blank := fun w h => by unfold wsX5_blank; first | exact List.mem_cons_of_mem _ (List.mem_append_right _ h) | exact List.mem_cons_of_mem _ h
theorem hd5_blank : okD yX5_blank 0 := by decide +kernel
set_option maxHeartbeats 8000000 in
set_option maxRecDepth 100000 in
theorem c5_blank {res : Int32 × Int32} (hrun : P5_blank v_pageLength = some res) : Met l yX5_blank wsX5_blank rm5_blank (va_Pc [.ref h] (PE D [(cA, .int)] sz (WM0 h ad cA) (WM h ad cA v_pageLength v_page v_roads v_lengths v_signs v_wordsRead v_disc v_forms v_formA v_formB v_formC v_nextOf v_cycleOf v_cycles v_firstOf v_newLength v_newSigns v_mayRun v_size v_at v_otherSize v_other v_tableA v_tableB v_tableC v_tableD v_a v_b v_c v_grade v_flowA v_flowB v_flowC v_seedNow v_h))) (va_Qi (fun (x : Int32) (_ : Unit) => x = res.1) (fun _ t => va_P D vwCl (WM h ad cA res.2 v_page v_roads v_lengths v_signs v_wordsRead v_disc v_forms v_formA v_formB v_formC v_nextOf v_cycleOf v_cycles v_firstOf v_newLength v_newSigns v_mayRun v_size v_at v_otherSize v_other v_tableA v_tableB v_tableC v_tableD v_a v_b v_c v_grade v_flowA v_flowB v_flowC v_seedNow v_h) t.heap) (va_A (WM0 h ad cA) sz)) 0 0 (va_A (WM0 h ad cA) sz) := by
  refine E_in (cc := cX5_blank) (maxL := 2) (ret := (some .int)) (by decide) rfl (Nat.le_of_ble_eq_true rfl) ?_
  intro p e s m args below meth c ls Q hQ C hr hlk hK hN hD hA I hl
  have C : CallFix p m c cX5_blank 2 s args wsX5_blank RX5 := C
  have hx := C.1
  have hb := C.2.1
  have hl : lv_has ls 2 [(0, .ref h)] := hl
  unfold P5_blank at hrun
  refine lv_aload_n hx hb dX5_blank_0 rfl (lv_at hl 0 rfl) ?_
  refine gM_pageLength C inm5_blank hK I.1 fl5_blank_55 dX5_blank_1 ?_
  refine lv_istore_n (lv' := [(1, .int v_pageLength), (0, .ref h)]) hx hb dX5_blank_4 rfl hl (by decide) rfl (fun ls hl => ?_)
  refine lv_aload_n hx hb dX5_blank_5 rfl (lv_at hl 1 rfl) ?_
  refine lv_iconst (v := 0) hx hb dX5_blank_6 rfl ?_
  refine pM_pageLength C inm5_blank hK hD I fl5_blank_55 dX5_blank_7 (fun H locs I => ?_)
  refine lv_iload_n hx hb dX5_blank_10 rfl (lv_at hl 0 rfl) ?_
  cases hrun
  exact rE_i C hr hlk hQ I (nbi _) rfl dX5_blank_11

abbrev rm5_takes : Room := { frames := 1, cells := 0, slots := 0, locals := 22 }
theorem fl5_takes_37 : Cond.fieldLink RX5 37 "RiverWordsModel" "newSigns" "[I" ∈ wsX5_takes := by decide +kernel
theorem fl5_takes_60 : Cond.fieldLink RX5 60 "RiverWordsModel" "newLength" "I" ∈ wsX5_takes := by decide +kernel
theorem fl5_takes_63 : Cond.fieldLink RX5 63 "RiverWordsModel" "mayRun" "Z" ∈ wsX5_takes := by decide +kernel
theorem inm5_takes : ∀ w ∈ wsX50, w ∈ wsX5_takes := fun w h => by unfold wsX5_takes; first | exact List.mem_cons_of_mem _ (List.mem_append_right _ h) | exact List.mem_cons_of_mem _ h
theorem hd5_takes : okD yX5_takes 1 := by decide +kernel
set_option maxHeartbeats 8000000 in
set_option maxRecDepth 100000 in
theorem c5_takes {x1 : Int32} {res : Int32 × Int32 × (Nat → Int32) × Int32} (hrun : P5_takes v_newLength v_newSigns v_mayRun x1 = some res) : Met l yX5_takes wsX5_takes rm5_takes (va_Pc [.ref h, .int x1] (PE D [(cA, .int)] sz (WM0 h ad cA) (WM h ad cA v_pageLength v_page v_roads v_lengths v_signs v_wordsRead v_disc v_forms v_formA v_formB v_formC v_nextOf v_cycleOf v_cycles v_firstOf v_newLength v_newSigns v_mayRun v_size v_at v_otherSize v_other v_tableA v_tableB v_tableC v_tableD v_a v_b v_c v_grade v_flowA v_flowB v_flowC v_seedNow v_h))) (va_Qi (fun (x : Int32) (_ : Unit) => x = res.1) (fun _ t => va_P D vwCl (WM h ad cA v_pageLength v_page v_roads v_lengths v_signs v_wordsRead v_disc v_forms v_formA v_formB v_formC v_nextOf v_cycleOf v_cycles v_firstOf res.2.1 res.2.2.1 res.2.2.2 v_size v_at v_otherSize v_other v_tableA v_tableB v_tableC v_tableD v_a v_b v_c v_grade v_flowA v_flowB v_flowC v_seedNow v_h) t.heap) (va_A (WM0 h ad cA) sz)) 0 0 (va_A (WM0 h ad cA) sz) := by
  refine E_in (cc := cX5_takes) (maxL := 4) (ret := (some .boolean)) (by decide) rfl (Nat.le_of_ble_eq_true rfl) ?_
  intro p e s m args below meth c ls Q hQ C hr hlk hK hN hD hA I hl
  have C : CallFix p m c cX5_takes 4 s args wsX5_takes RX5 := C
  have hx := C.1
  have hb := C.2.1
  have hl : lv_has ls 4 [(0, .ref h), (1, .int x1)] := hl
  have loop_97 : ∀ (v_mayRun : Int32) (x2 : Int32) (n : Nat) (v_newLength : Int32) (v_newSigns : Nat → Int32) (x3 : Int32) (out : Int32 × (Nat → Int32)), P5_takes_97 x2 n v_newLength v_newSigns x3 = some out → (∀ (H : Heap) (locs : List Loc) (ls : Array Slot), IM D (va_A (WM0 h ad cA) sz) s.heap H locs (WM h ad cA v_pageLength v_page v_roads v_lengths v_signs v_wordsRead v_disc v_forms v_formA v_formB v_formC v_nextOf v_cycleOf v_cycles v_firstOf out.1 out.2 v_mayRun v_size v_at v_otherSize v_other v_tableA v_tableB v_tableC v_tableD v_a v_b v_c v_grade v_flowA v_flowB v_flowC v_seedNow v_h) → lv_has ls 4 [(0, .ref h)] → W p l e rm5_takes s m args below meth c H locs 0 0 Q (F0 m 138 ls [])) → ∀ (H : Heap) (locs : List Loc) (ls : Array Slot), IM D (va_A (WM0 h ad cA) sz) s.heap H locs (WM h ad cA v_pageLength v_page v_roads v_lengths v_signs v_wordsRead v_disc v_forms v_formA v_formB v_formC v_nextOf v_cycleOf v_cycles v_firstOf v_newLength v_newSigns v_mayRun v_size v_at v_otherSize v_other v_tableA v_tableB v_tableC v_tableD v_a v_b v_c v_grade v_flowA v_flowB v_flowC v_seedNow v_h) → lv_has ls 4 [(0, .ref h), (2, .int x2), (3, .int x3)] → W p l e rm5_takes s m args below meth c H locs 0 0 Q (F0 m 97 ls []) := by
    intro v_mayRun x2 n
    induction n with
    | zero =>
      intro v_newLength v_newSigns x3 out hrun K H locs ls I hl
      cases hrun
    | succ n ih =>
      intro v_newLength v_newSigns x3 out hrun K H locs ls I hl
      rw [P5_takes_97] at hrun
      refine lv_iload_n hx hb dX5_takes_97 rfl (lv_at hl 2 rfl) ?_
      refine lv_iload_n hx hb dX5_takes_98 rfl (lv_at hl 1 rfl) ?_
      refine lv_icmp_ge (tgt := 138) hx hb dX5_takes_99 rfl (fun c11 => ?_) (fun c11 => ?_)
      · have hrun := p_pos hrun c11
        cases hrun
        exact K _ _ _ I (lv_sub hl [0] rfl)
      · have hrun := p_neg hrun c11
        refine lv_aload_n hx hb dX5_takes_102 rfl (lv_at hl 0 rfl) ?_
        refine gM_newSigns C inm5_takes hK I.1 fl5_takes_37 dX5_takes_103 ?_
        refine lv_aload_n hx hb dX5_takes_106 rfl (lv_at hl 0 rfl) ?_
        refine gM_newLength C inm5_takes hK I.1 fl5_takes_60 dX5_takes_107 ?_
        refine lv_aload_n hx hb dX5_takes_110 rfl (lv_at hl 0 rfl) ?_
        refine gM_newSigns C inm5_takes hK I.1 fl5_takes_37 dX5_takes_111 ?_
        refine lv_aload_n hx hb dX5_takes_114 rfl (lv_at hl 0 rfl) ?_
        refine gM_newLength C inm5_takes hK I.1 fl5_takes_60 dX5_takes_115 ?_
        refine lv_iconst (v := 1) hx hb dX5_takes_118 rfl ?_
        refine lv_isub hx hb dX5_takes_119 ?_
        obtain ⟨b12, hrun⟩ := p_chk hrun
        refine ldM_newSigns C hK I.1 b12 dX5_takes_120 ?_
        obtain ⟨b13, hrun⟩ := p_chk hrun
        refine stM_newSigns C hK hD I b13 dX5_takes_121 (fun H locs I => ?_)
        refine lv_aload_n hx hb dX5_takes_122 rfl (lv_at hl 0 rfl) ?_
        refine lv_dup hx hb dX5_takes_123 rfl ?_
        refine gM_newLength C inm5_takes hK I.1 fl5_takes_60 dX5_takes_124 ?_
        refine lv_iconst (v := 1) hx hb dX5_takes_127 rfl ?_
        refine lv_iadd hx hb dX5_takes_128 ?_
        refine pM_newLength C inm5_takes hK hD I fl5_takes_60 dX5_takes_129 (fun H locs I => ?_)
        refine lv_iinc (v := x3 + 1) (lv' := [(3, .int (x3 + 1)), (0, .ref h), (2, .int x2)]) hx hb dX5_takes_132 hl (k := 2) rfl rfl (by decide) rfl (fun ls hl => ?_)
        refine lv_goto (tgt := 97) hx hb dX5_takes_135 rfl ?_
        exact ih (v_newLength + 1) (upd v_newSigns (Int32.toNatClampNeg v_newLength) (v_newSigns (Int32.toNatClampNeg (v_newLength - 1)))) (x3 + 1) out hrun K _ _ _ I (lv_sub hl [1, 2, 0] rfl)
  unfold P5_takes at hrun
  refine lv_iload_n hx hb dX5_takes_0 rfl (lv_at hl 1 rfl) ?_
  refine lv_bipush (v := 76) hx hb dX5_takes_1 rfl ?_
  refine lv_icmp_eq (tgt := 12) hx hb dX5_takes_3 rfl (fun c1 => ?_) (fun c1 => ?_)
  · have hrun := p_pos hrun c1
    refine lv_aload_n hx hb dX5_takes_12 rfl (lv_at hl 0 rfl) ?_
    refine gM_newLength C inm5_takes hK I.1 fl5_takes_60 dX5_takes_13 ?_
    refine lv_bipush (v := 20) hx hb dX5_takes_16 rfl ?_
    refine lv_icmp_ne (tgt := 23) hx hb dX5_takes_18 rfl (fun c2 => ?_) (fun c2 => ?_)
    · have hrun := p_neg hrun c2
      refine lv_aload_n hx hb dX5_takes_23 rfl (lv_at hl 0 rfl) ?_
      refine gM_newSigns C inm5_takes hK I.1 fl5_takes_37 dX5_takes_24 ?_
      refine lv_aload_n hx hb dX5_takes_27 rfl (lv_at hl 0 rfl) ?_
      refine gM_newLength C inm5_takes hK I.1 fl5_takes_60 dX5_takes_28 ?_
      refine lv_iload_n hx hb dX5_takes_31 rfl (lv_at hl 1 rfl) ?_
      refine lv_bipush (v := 76) hx hb dX5_takes_32 rfl ?_
      refine lv_icmp_ne (tgt := 41) hx hb dX5_takes_34 rfl (fun c3 => ?_) (fun c3 => ?_)
      · have hrun := p_neg hrun c3
        refine lv_iconst (v := 1) hx hb dX5_takes_41 rfl ?_
        obtain ⟨b4, hrun⟩ := p_chk hrun
        refine stM_newSigns C hK hD I b4 dX5_takes_42 (fun H locs I => ?_)
        refine lv_aload_n hx hb dX5_takes_43 rfl (lv_at hl 0 rfl) ?_
        refine lv_dup hx hb dX5_takes_44 rfl ?_
        refine gM_newLength C inm5_takes hK I.1 fl5_takes_60 dX5_takes_45 ?_
        refine lv_iconst (v := 1) hx hb dX5_takes_48 rfl ?_
        refine lv_iadd hx hb dX5_takes_49 ?_
        refine pM_newLength C inm5_takes hK hD I fl5_takes_60 dX5_takes_50 (fun H locs I => ?_)
        refine lv_aload_n hx hb dX5_takes_53 rfl (lv_at hl 0 rfl) ?_
        refine lv_iconst (v := 1) hx hb dX5_takes_54 rfl ?_
        refine pM_mayRun C inm5_takes hK hD I fl5_takes_63 (Or.inr rfl) dX5_takes_55 (fun H locs I => ?_)
        refine lv_iconst (v := 1) hx hb dX5_takes_58 rfl ?_
        cases hrun
        exact rE_i C hr hlk hQ I (nb01 (Or.inr rfl)) rfl dX5_takes_59
      · have hrun := p_pos hrun c3
        refine lv_iconst (v := 0) hx hb dX5_takes_37 rfl ?_
        refine lv_goto (tgt := 42) hx hb dX5_takes_38 rfl ?_
        obtain ⟨b5, hrun⟩ := p_chk hrun
        refine stM_newSigns C hK hD I b5 dX5_takes_42 (fun H locs I => ?_)
        refine lv_aload_n hx hb dX5_takes_43 rfl (lv_at hl 0 rfl) ?_
        refine lv_dup hx hb dX5_takes_44 rfl ?_
        refine gM_newLength C inm5_takes hK I.1 fl5_takes_60 dX5_takes_45 ?_
        refine lv_iconst (v := 1) hx hb dX5_takes_48 rfl ?_
        refine lv_iadd hx hb dX5_takes_49 ?_
        refine pM_newLength C inm5_takes hK hD I fl5_takes_60 dX5_takes_50 (fun H locs I => ?_)
        refine lv_aload_n hx hb dX5_takes_53 rfl (lv_at hl 0 rfl) ?_
        refine lv_iconst (v := 1) hx hb dX5_takes_54 rfl ?_
        refine pM_mayRun C inm5_takes hK hD I fl5_takes_63 (Or.inr rfl) dX5_takes_55 (fun H locs I => ?_)
        refine lv_iconst (v := 1) hx hb dX5_takes_58 rfl ?_
        cases hrun
        exact rE_i C hr hlk hQ I (nb01 (Or.inr rfl)) rfl dX5_takes_59
    · have hrun := p_pos hrun c2
      refine lv_iconst (v := 0) hx hb dX5_takes_21 rfl ?_
      cases hrun
      exact rE_i C hr hlk hQ I (nb01 (Or.inl rfl)) rfl dX5_takes_22
  · have hrun := p_neg hrun c1
    refine lv_iload_n hx hb dX5_takes_6 rfl (lv_at hl 1 rfl) ?_
    refine lv_bipush (v := 82) hx hb dX5_takes_7 rfl ?_
    refine lv_icmp_ne (tgt := 60) hx hb dX5_takes_9 rfl (fun c6 => ?_) (fun c6 => ?_)
    · have hrun := p_neg hrun c6
      refine lv_iload_n hx hb dX5_takes_60 rfl (lv_at hl 1 rfl) ?_
      refine lv_bipush (v := 49) hx hb dX5_takes_61 rfl ?_
      refine lv_isub hx hb dX5_takes_63 ?_
      refine lv_istore_n (lv' := [(2, .int (x1 - 49)), (0, .ref h), (1, .int x1)]) hx hb dX5_takes_64 rfl hl (by decide) rfl (fun ls hl => ?_)
      refine lv_aload_n hx hb dX5_takes_65 rfl (lv_at hl 1 rfl) ?_
      refine gM_mayRun C inm5_takes hK I.1 fl5_takes_63 dX5_takes_66 ?_
      refine lv_if_eq (tgt := 93) hx hb dX5_takes_69 rfl (fun c7 => ?_) (fun c7 => ?_)
      · have hrun := p_pos hrun c7
        refine lv_iconst (v := 0) hx hb dX5_takes_93 rfl ?_
        cases hrun
        exact rE_i C hr hlk hQ I (nb01 (Or.inl rfl)) rfl dX5_takes_94
      · have hrun := p_neg hrun c7
        refine lv_iload_n hx hb dX5_takes_72 rfl (lv_at hl 0 rfl) ?_
        refine lv_iconst (v := 1) hx hb dX5_takes_73 rfl ?_
        refine lv_bipush (v := 8) hx hb dX5_takes_74 rfl ?_
        obtain ⟨r8, h_r8, hrun⟩ := p_bnd hrun
        refine jSS_i (rest := []) C (c5_within h_r8) gX5_takes_X5_within hd5_within rfl ⟨rfl, rfl⟩ ⟨Nat.le_of_ble_eq_true rfl, Nat.le_of_ble_eq_true rfl⟩ rfl hl.1 rfl (Nat.le_of_ble_eq_true rfl) ⟨Nat.le_of_ble_eq_true rfl, Nat.le_of_ble_eq_true rfl⟩ dX5_takes_76 ?_
        refine lv_if_eq (tgt := 93) hx hb dX5_takes_79 rfl (fun c9 => ?_) (fun c9 => ?_)
        · have hrun := p_pos hrun c9
          refine lv_iconst (v := 0) hx hb dX5_takes_93 rfl ?_
          cases hrun
          exact rE_i C hr hlk hQ I (nb01 (Or.inl rfl)) rfl dX5_takes_94
        · have hrun := p_neg hrun c9
          refine lv_aload_n hx hb dX5_takes_82 rfl (lv_at hl 1 rfl) ?_
          refine gM_newLength C inm5_takes hK I.1 fl5_takes_60 dX5_takes_83 ?_
          refine lv_iload_n hx hb dX5_takes_86 rfl (lv_at hl 0 rfl) ?_
          refine lv_iadd hx hb dX5_takes_87 ?_
          refine lv_bipush (v := 20) hx hb dX5_takes_88 rfl ?_
          refine lv_icmp_le (tgt := 95) hx hb dX5_takes_90 rfl (fun c10 => ?_) (fun c10 => ?_)
          · have hrun := p_pos hrun c10
            refine lv_iconst (v := 0) hx hb dX5_takes_95 rfl ?_
            refine lv_istore_n (lv' := [(3, .int 0), (2, .int (x1 - 49)), (0, .ref h), (1, .int x1)]) hx hb dX5_takes_96 rfl hl (by decide) rfl (fun ls hl => ?_)
            obtain ⟨o14, h_o14, hrun⟩ := p_bnd hrun
            refine loop_97 v_mayRun (x1 - 49) FU v_newLength v_newSigns 0 o14 h_o14 (fun H locs ls I hl => ?_) _ _ _ I (lv_sub hl [2, 1, 0] rfl)
            refine lv_aload_n hx hb dX5_takes_138 rfl (lv_at hl 0 rfl) ?_
            refine lv_iconst (v := 0) hx hb dX5_takes_139 rfl ?_
            refine pM_mayRun C inm5_takes hK hD I fl5_takes_63 (Or.inl rfl) dX5_takes_140 (fun H locs I => ?_)
            refine lv_iconst (v := 1) hx hb dX5_takes_143 rfl ?_
            cases hrun
            exact rE_i C hr hlk hQ I (nb01 (Or.inr rfl)) rfl dX5_takes_144
          · have hrun := p_neg hrun c10
            refine lv_iconst (v := 0) hx hb dX5_takes_93 rfl ?_
            cases hrun
            exact rE_i C hr hlk hQ I (nb01 (Or.inl rfl)) rfl dX5_takes_94
    · have hrun := p_pos hrun c6
      refine lv_aload_n hx hb dX5_takes_12 rfl (lv_at hl 0 rfl) ?_
      refine gM_newLength C inm5_takes hK I.1 fl5_takes_60 dX5_takes_13 ?_
      refine lv_bipush (v := 20) hx hb dX5_takes_16 rfl ?_
      refine lv_icmp_ne (tgt := 23) hx hb dX5_takes_18 rfl (fun c15 => ?_) (fun c15 => ?_)
      · have hrun := p_neg hrun c15
        refine lv_aload_n hx hb dX5_takes_23 rfl (lv_at hl 0 rfl) ?_
        refine gM_newSigns C inm5_takes hK I.1 fl5_takes_37 dX5_takes_24 ?_
        refine lv_aload_n hx hb dX5_takes_27 rfl (lv_at hl 0 rfl) ?_
        refine gM_newLength C inm5_takes hK I.1 fl5_takes_60 dX5_takes_28 ?_
        refine lv_iload_n hx hb dX5_takes_31 rfl (lv_at hl 1 rfl) ?_
        refine lv_bipush (v := 76) hx hb dX5_takes_32 rfl ?_
        refine lv_icmp_ne (tgt := 41) hx hb dX5_takes_34 rfl (fun c16 => ?_) (fun c16 => ?_)
        · have hrun := p_neg hrun c16
          refine lv_iconst (v := 1) hx hb dX5_takes_41 rfl ?_
          obtain ⟨b17, hrun⟩ := p_chk hrun
          refine stM_newSigns C hK hD I b17 dX5_takes_42 (fun H locs I => ?_)
          refine lv_aload_n hx hb dX5_takes_43 rfl (lv_at hl 0 rfl) ?_
          refine lv_dup hx hb dX5_takes_44 rfl ?_
          refine gM_newLength C inm5_takes hK I.1 fl5_takes_60 dX5_takes_45 ?_
          refine lv_iconst (v := 1) hx hb dX5_takes_48 rfl ?_
          refine lv_iadd hx hb dX5_takes_49 ?_
          refine pM_newLength C inm5_takes hK hD I fl5_takes_60 dX5_takes_50 (fun H locs I => ?_)
          refine lv_aload_n hx hb dX5_takes_53 rfl (lv_at hl 0 rfl) ?_
          refine lv_iconst (v := 1) hx hb dX5_takes_54 rfl ?_
          refine pM_mayRun C inm5_takes hK hD I fl5_takes_63 (Or.inr rfl) dX5_takes_55 (fun H locs I => ?_)
          refine lv_iconst (v := 1) hx hb dX5_takes_58 rfl ?_
          cases hrun
          exact rE_i C hr hlk hQ I (nb01 (Or.inr rfl)) rfl dX5_takes_59
        · have hrun := p_pos hrun c16
          refine lv_iconst (v := 0) hx hb dX5_takes_37 rfl ?_
          refine lv_goto (tgt := 42) hx hb dX5_takes_38 rfl ?_
          obtain ⟨b18, hrun⟩ := p_chk hrun
          refine stM_newSigns C hK hD I b18 dX5_takes_42 (fun H locs I => ?_)
          refine lv_aload_n hx hb dX5_takes_43 rfl (lv_at hl 0 rfl) ?_
          refine lv_dup hx hb dX5_takes_44 rfl ?_
          refine gM_newLength C inm5_takes hK I.1 fl5_takes_60 dX5_takes_45 ?_
          refine lv_iconst (v := 1) hx hb dX5_takes_48 rfl ?_
          refine lv_iadd hx hb dX5_takes_49 ?_
          refine pM_newLength C inm5_takes hK hD I fl5_takes_60 dX5_takes_50 (fun H locs I => ?_)
          refine lv_aload_n hx hb dX5_takes_53 rfl (lv_at hl 0 rfl) ?_
          refine lv_iconst (v := 1) hx hb dX5_takes_54 rfl ?_
          refine pM_mayRun C inm5_takes hK hD I fl5_takes_63 (Or.inr rfl) dX5_takes_55 (fun H locs I => ?_)
          refine lv_iconst (v := 1) hx hb dX5_takes_58 rfl ?_
          cases hrun
          exact rE_i C hr hlk hQ I (nb01 (Or.inr rfl)) rfl dX5_takes_59
      · have hrun := p_pos hrun c15
        refine lv_iconst (v := 0) hx hb dX5_takes_21 rfl ?_
        cases hrun
        exact rE_i C hr hlk hQ I (nb01 (Or.inl rfl)) rfl dX5_takes_22

abbrev rm5_read : Room := { frames := 2, cells := 0, slots := 0, locals := 45 }
theorem fl5_read_7 : Cond.fieldLink RX5 7 "RiverWordsModel" "page" "[I" ∈ wsX5_read := by decide +kernel
theorem fl5_read_55 : Cond.fieldLink RX5 55 "RiverWordsModel" "pageLength" "I" ∈ wsX5_read := by decide +kernel
theorem fl5_read_60 : Cond.fieldLink RX5 60 "RiverWordsModel" "newLength" "I" ∈ wsX5_read := by decide +kernel
theorem fl5_read_63 : Cond.fieldLink RX5 63 "RiverWordsModel" "mayRun" "Z" ∈ wsX5_read := by decide +kernel
theorem inm5_read : ∀ w ∈ wsX50, w ∈ wsX5_read := fun w h => by unfold wsX5_read; first | exact List.mem_cons_of_mem _ (List.mem_append_right _ h) | exact List.mem_cons_of_mem _ h
theorem hd5_read : okD yX5_read 0 := by decide +kernel
set_option maxHeartbeats 8000000 in
set_option maxRecDepth 100000 in
theorem c5_read {res : Int32 × Int32 × (Nat → Int32) × Int32} (hrun : P5_read v_pageLength v_page v_newSigns = some res) : Met l yX5_read wsX5_read rm5_read (va_Pc [.ref h] (PE D [(cA, .int)] sz (WM0 h ad cA) (WM h ad cA v_pageLength v_page v_roads v_lengths v_signs v_wordsRead v_disc v_forms v_formA v_formB v_formC v_nextOf v_cycleOf v_cycles v_firstOf v_newLength v_newSigns v_mayRun v_size v_at v_otherSize v_other v_tableA v_tableB v_tableC v_tableD v_a v_b v_c v_grade v_flowA v_flowB v_flowC v_seedNow v_h))) (va_Qi (fun (x : Int32) (_ : Unit) => x = res.1) (fun _ t => va_P D vwCl (WM h ad cA v_pageLength v_page v_roads v_lengths v_signs v_wordsRead v_disc v_forms v_formA v_formB v_formC v_nextOf v_cycleOf v_cycles v_firstOf res.2.1 res.2.2.1 res.2.2.2 v_size v_at v_otherSize v_other v_tableA v_tableB v_tableC v_tableD v_a v_b v_c v_grade v_flowA v_flowB v_flowC v_seedNow v_h) t.heap) (va_A (WM0 h ad cA) sz)) 0 0 (va_A (WM0 h ad cA) sz) := by
  refine E_in (cc := cX5_read) (maxL := 2) (ret := (some .int)) (by decide) rfl (Nat.le_of_ble_eq_true rfl) ?_
  intro p e s m args below meth c ls Q hQ C hr hlk hK hN hD hA I hl
  have C : CallFix p m c cX5_read 2 s args wsX5_read RX5 := C
  have hx := C.1
  have hb := C.2.1
  have hl : lv_has ls 2 [(0, .ref h)] := hl
  have loop_12 : ∀ (n : Nat) (v_newLength : Int32) (v_newSigns : Nat → Int32) (v_mayRun : Int32) (x1 : Int32) (out : Int32 × (Nat → Int32) × Int32 × Int32), P5_read_12 v_pageLength v_page n v_newLength v_newSigns v_mayRun x1 = some out → (∀ (H : Heap) (locs : List Loc) (ls : Array Slot), IM D (va_A (WM0 h ad cA) sz) s.heap H locs (WM h ad cA v_pageLength v_page v_roads v_lengths v_signs v_wordsRead v_disc v_forms v_formA v_formB v_formC v_nextOf v_cycleOf v_cycles v_firstOf out.1 out.2.1 out.2.2.1 v_size v_at v_otherSize v_other v_tableA v_tableB v_tableC v_tableD v_a v_b v_c v_grade v_flowA v_flowB v_flowC v_seedNow v_h) → lv_has ls 2 [(1, .int out.2.2.2)] → W p l e rm5_read s m args below meth c H locs 0 0 Q (F0 m 39 ls [])) → ∀ (H : Heap) (locs : List Loc) (ls : Array Slot), IM D (va_A (WM0 h ad cA) sz) s.heap H locs (WM h ad cA v_pageLength v_page v_roads v_lengths v_signs v_wordsRead v_disc v_forms v_formA v_formB v_formC v_nextOf v_cycleOf v_cycles v_firstOf v_newLength v_newSigns v_mayRun v_size v_at v_otherSize v_other v_tableA v_tableB v_tableC v_tableD v_a v_b v_c v_grade v_flowA v_flowB v_flowC v_seedNow v_h) → lv_has ls 2 [(0, .ref h), (1, .int x1)] → W p l e rm5_read s m args below meth c H locs 0 0 Q (F0 m 12 ls []) := by
    intro n
    induction n with
    | zero =>
      intro v_newLength v_newSigns v_mayRun x1 out hrun K H locs ls I hl
      cases hrun
    | succ n ih =>
      intro v_newLength v_newSigns v_mayRun x1 out hrun K H locs ls I hl
      rw [P5_read_12] at hrun
      refine lv_iload_n hx hb dX5_read_12 rfl (lv_at hl 1 rfl) ?_
      refine lv_aload_n hx hb dX5_read_13 rfl (lv_at hl 0 rfl) ?_
      refine gM_pageLength C inm5_read hK I.1 fl5_read_55 dX5_read_14 ?_
      refine lv_icmp_ge (tgt := 39) hx hb dX5_read_17 rfl (fun c1 => ?_) (fun c1 => ?_)
      · have hrun := p_pos hrun c1
        cases hrun
        exact K _ _ _ I (lv_sub hl [1] rfl)
      · have hrun := p_neg hrun c1
        refine lv_aload_n hx hb dX5_read_20 rfl (lv_at hl 0 rfl) ?_
        refine lv_aload_n hx hb dX5_read_21 rfl (lv_at hl 0 rfl) ?_
        refine gM_page C inm5_read hK I.1 fl5_read_7 dX5_read_22 ?_
        refine lv_iload_n hx hb dX5_read_25 rfl (lv_at hl 1 rfl) ?_
        obtain ⟨b2, hrun⟩ := p_chk hrun
        refine ldM_page C hK I.1 b2 dX5_read_26 ?_
        obtain ⟨r3, h_r3, hrun⟩ := p_bnd hrun
        refine jVE_i (rest := []) C (c5_takes h_r3) gX5_read_X5_takes hd5_takes hK hN hD hA I rcM rfl ⟨rfl, rfl⟩ ⟨Nat.le_of_ble_eq_true rfl, Nat.le_of_ble_eq_true rfl⟩ rfl hl.1 rfl (Nat.le_of_ble_eq_true rfl) ⟨Nat.le_of_ble_eq_true rfl, Nat.le_of_ble_eq_true rfl⟩ dX5_read_27 (fun H locs I => ?_)
        refine lv_if_eq (tgt := 39) hx hb dX5_read_30 rfl (fun c4 => ?_) (fun c4 => ?_)
        · have hrun := p_pos hrun c4
          cases hrun
          exact K _ _ _ I (lv_sub hl [1] rfl)
        · have hrun := p_neg hrun c4
          refine lv_iinc (v := x1 + 1) (lv' := [(1, .int (x1 + 1)), (0, .ref h)]) hx hb dX5_read_33 hl (k := 1) rfl rfl (by decide) rfl (fun ls hl => ?_)
          refine lv_goto (tgt := 12) hx hb dX5_read_36 rfl ?_
          exact ih r3.2.1 r3.2.2.1 r3.2.2.2 (x1 + 1) out hrun K _ _ _ I (lv_sub hl [1, 0] rfl)
  unfold P5_read at hrun
  refine lv_aload_n hx hb dX5_read_0 rfl (lv_at hl 0 rfl) ?_
  refine lv_iconst (v := 0) hx hb dX5_read_1 rfl ?_
  refine pM_newLength C inm5_read hK hD I fl5_read_60 dX5_read_2 (fun H locs I => ?_)
  refine lv_aload_n hx hb dX5_read_5 rfl (lv_at hl 0 rfl) ?_
  refine lv_iconst (v := 0) hx hb dX5_read_6 rfl ?_
  refine pM_mayRun C inm5_read hK hD I fl5_read_63 (Or.inl rfl) dX5_read_7 (fun H locs I => ?_)
  refine lv_iconst (v := 0) hx hb dX5_read_10 rfl ?_
  refine lv_istore_n (lv' := [(1, .int 0), (0, .ref h)]) hx hb dX5_read_11 rfl hl (by decide) rfl (fun ls hl => ?_)
  obtain ⟨o5, h_o5, hrun⟩ := p_bnd hrun
  refine loop_12 FU 0 v_newSigns 0 0 o5 h_o5 (fun H locs ls I hl => ?_) _ _ _ I (lv_sub hl [1, 0] rfl)
  refine lv_iload_n hx hb dX5_read_39 rfl (lv_at hl 0 rfl) ?_
  cases hrun
  exact rE_i C hr hlk hQ I (nbi _) rfl dX5_read_40

abbrev rm5_fault : Room := { frames := 3, cells := 0, slots := 0, locals := 66 }
theorem hd5_fault : okD yX5_fault 0 := by decide +kernel
set_option maxHeartbeats 8000000 in
set_option maxRecDepth 100000 in
theorem c5_fault {res : Int32 × Int32 × (Nat → Int32) × Int32} (hrun : P5_fault v_pageLength v_page v_newSigns = some res) : Met l yX5_fault wsX5_fault rm5_fault (va_Pc [.ref h] (PE D [(cA, .int)] sz (WM0 h ad cA) (WM h ad cA v_pageLength v_page v_roads v_lengths v_signs v_wordsRead v_disc v_forms v_formA v_formB v_formC v_nextOf v_cycleOf v_cycles v_firstOf v_newLength v_newSigns v_mayRun v_size v_at v_otherSize v_other v_tableA v_tableB v_tableC v_tableD v_a v_b v_c v_grade v_flowA v_flowB v_flowC v_seedNow v_h))) (va_Qi (fun (x : Int32) (_ : Unit) => x = res.1) (fun _ t => va_P D vwCl (WM h ad cA v_pageLength v_page v_roads v_lengths v_signs v_wordsRead v_disc v_forms v_formA v_formB v_formC v_nextOf v_cycleOf v_cycles v_firstOf res.2.1 res.2.2.1 res.2.2.2 v_size v_at v_otherSize v_other v_tableA v_tableB v_tableC v_tableD v_a v_b v_c v_grade v_flowA v_flowB v_flowC v_seedNow v_h) t.heap) (va_A (WM0 h ad cA) sz)) 0 0 (va_A (WM0 h ad cA) sz) := by
  refine E_in (cc := cX5_fault) (maxL := 1) (ret := (some .int)) (by decide) rfl (Nat.le_of_ble_eq_true rfl) ?_
  intro p e s m args below meth c ls Q hQ C hr hlk hK hN hD hA I hl
  have C : CallFix p m c cX5_fault 1 s args wsX5_fault RX5 := C
  have hx := C.1
  have hb := C.2.1
  have hl : lv_has ls 1 [(0, .ref h)] := hl
  unfold P5_fault at hrun
  refine lv_aload_n hx hb dX5_fault_0 rfl (lv_at hl 0 rfl) ?_
  obtain ⟨r1, h_r1, hrun⟩ := p_bnd hrun
  refine jVE_i (rest := []) C (c5_read h_r1) gX5_fault_X5_read hd5_read hK hN hD hA I rcM rfl ⟨rfl, rfl⟩ ⟨Nat.le_of_ble_eq_true rfl, Nat.le_of_ble_eq_true rfl⟩ rfl hl.1 rfl (Nat.le_of_ble_eq_true rfl) ⟨Nat.le_of_ble_eq_true rfl, Nat.le_of_ble_eq_true rfl⟩ dX5_fault_1 (fun H locs I => ?_)
  cases hrun
  exact rE_i C hr hlk hQ I (nbi _) rfl dX5_fault_4

abbrev rm5_keepNew : Room := { frames := 0, cells := 0, slots := 0, locals := 0 }
theorem fl5_keepNew_13 : Cond.fieldLink RX5 13 "RiverWordsModel" "lengths" "[I" ∈ wsX5_keepNew := by decide +kernel
theorem fl5_keepNew_16 : Cond.fieldLink RX5 16 "RiverWordsModel" "signs" "[I" ∈ wsX5_keepNew := by decide +kernel
theorem fl5_keepNew_37 : Cond.fieldLink RX5 37 "RiverWordsModel" "newSigns" "[I" ∈ wsX5_keepNew := by decide +kernel
theorem fl5_keepNew_60 : Cond.fieldLink RX5 60 "RiverWordsModel" "newLength" "I" ∈ wsX5_keepNew := by decide +kernel
theorem fl5_keepNew_75 : Cond.fieldLink RX5 75 "RiverWordsModel" "roads" "I" ∈ wsX5_keepNew := by decide +kernel
theorem inm5_keepNew : ∀ w ∈ wsX50, w ∈ wsX5_keepNew := fun w h => by unfold wsX5_keepNew; first | exact List.mem_cons_of_mem _ (List.mem_append_right _ h) | exact List.mem_cons_of_mem _ h
theorem hd5_keepNew : okD yX5_keepNew 0 := by decide +kernel
set_option maxHeartbeats 8000000 in
set_option maxRecDepth 100000 in
theorem c5_keepNew {res : Int32 × Int32 × (Nat → Int32) × (Nat → Int32)} (hrun : P5_keepNew v_roads v_lengths v_signs v_newLength v_newSigns = some res) : Met l yX5_keepNew wsX5_keepNew rm5_keepNew (va_Pc [.ref h] (PE D [(cA, .int)] sz (WM0 h ad cA) (WM h ad cA v_pageLength v_page v_roads v_lengths v_signs v_wordsRead v_disc v_forms v_formA v_formB v_formC v_nextOf v_cycleOf v_cycles v_firstOf v_newLength v_newSigns v_mayRun v_size v_at v_otherSize v_other v_tableA v_tableB v_tableC v_tableD v_a v_b v_c v_grade v_flowA v_flowB v_flowC v_seedNow v_h))) (va_Qi (fun (x : Int32) (_ : Unit) => x = res.1) (fun _ t => va_P D vwCl (WM h ad cA v_pageLength v_page res.2.1 res.2.2.1 res.2.2.2 v_wordsRead v_disc v_forms v_formA v_formB v_formC v_nextOf v_cycleOf v_cycles v_firstOf v_newLength v_newSigns v_mayRun v_size v_at v_otherSize v_other v_tableA v_tableB v_tableC v_tableD v_a v_b v_c v_grade v_flowA v_flowB v_flowC v_seedNow v_h) t.heap) (va_A (WM0 h ad cA) sz)) 0 0 (va_A (WM0 h ad cA) sz) := by
  refine E_in (cc := cX5_keepNew) (maxL := 2) (ret := (some .int)) (by decide) rfl (Nat.le_of_ble_eq_true rfl) ?_
  intro p e s m args below meth c ls Q hQ C hr hlk hK hN hD hA I hl
  have C : CallFix p m c cX5_keepNew 2 s args wsX5_keepNew RX5 := C
  have hx := C.1
  have hb := C.2.1
  have hl : lv_has ls 2 [(0, .ref h)] := hl
  have loop_15 : ∀ (v_roads : Int32) (v_lengths : Nat → Int32) (n : Nat) (v_signs : Nat → Int32) (x1 : Int32) (out : (Nat → Int32)), P5_keepNew_15 v_roads v_newLength v_newSigns n v_signs x1 = some out → (∀ (H : Heap) (locs : List Loc) (ls : Array Slot), IM D (va_A (WM0 h ad cA) sz) s.heap H locs (WM h ad cA v_pageLength v_page v_roads v_lengths out v_wordsRead v_disc v_forms v_formA v_formB v_formC v_nextOf v_cycleOf v_cycles v_firstOf v_newLength v_newSigns v_mayRun v_size v_at v_otherSize v_other v_tableA v_tableB v_tableC v_tableD v_a v_b v_c v_grade v_flowA v_flowB v_flowC v_seedNow v_h) → lv_has ls 2 [(0, .ref h)] → W p l e rm5_keepNew s m args below meth c H locs 0 0 Q (F0 m 49 ls [])) → ∀ (H : Heap) (locs : List Loc) (ls : Array Slot), IM D (va_A (WM0 h ad cA) sz) s.heap H locs (WM h ad cA v_pageLength v_page v_roads v_lengths v_signs v_wordsRead v_disc v_forms v_formA v_formB v_formC v_nextOf v_cycleOf v_cycles v_firstOf v_newLength v_newSigns v_mayRun v_size v_at v_otherSize v_other v_tableA v_tableB v_tableC v_tableD v_a v_b v_c v_grade v_flowA v_flowB v_flowC v_seedNow v_h) → lv_has ls 2 [(0, .ref h), (1, .int x1)] → W p l e rm5_keepNew s m args below meth c H locs 0 0 Q (F0 m 15 ls []) := by
    intro v_roads v_lengths n
    induction n with
    | zero =>
      intro v_signs x1 out hrun K H locs ls I hl
      cases hrun
    | succ n ih =>
      intro v_signs x1 out hrun K H locs ls I hl
      rw [P5_keepNew_15] at hrun
      refine lv_iload_n hx hb dX5_keepNew_15 rfl (lv_at hl 1 rfl) ?_
      refine lv_aload_n hx hb dX5_keepNew_16 rfl (lv_at hl 0 rfl) ?_
      refine gM_newLength C inm5_keepNew hK I.1 fl5_keepNew_60 dX5_keepNew_17 ?_
      refine lv_icmp_ge (tgt := 49) hx hb dX5_keepNew_20 rfl (fun c2 => ?_) (fun c2 => ?_)
      · have hrun := p_pos hrun c2
        cases hrun
        exact K _ _ _ I (lv_sub hl [0] rfl)
      · have hrun := p_neg hrun c2
        refine lv_aload_n hx hb dX5_keepNew_23 rfl (lv_at hl 0 rfl) ?_
        refine gM_signs C inm5_keepNew hK I.1 fl5_keepNew_16 dX5_keepNew_24 ?_
        refine lv_bipush (v := 20) hx hb dX5_keepNew_27 rfl ?_
        refine lv_aload_n hx hb dX5_keepNew_29 rfl (lv_at hl 0 rfl) ?_
        refine gM_roads C inm5_keepNew hK I.1 fl5_keepNew_75 dX5_keepNew_30 ?_
        refine lv_imul hx hb dX5_keepNew_33 ?_
        refine lv_iload_n hx hb dX5_keepNew_34 rfl (lv_at hl 1 rfl) ?_
        refine lv_iadd hx hb dX5_keepNew_35 ?_
        refine lv_aload_n hx hb dX5_keepNew_36 rfl (lv_at hl 0 rfl) ?_
        refine gM_newSigns C inm5_keepNew hK I.1 fl5_keepNew_37 dX5_keepNew_37 ?_
        refine lv_iload_n hx hb dX5_keepNew_40 rfl (lv_at hl 1 rfl) ?_
        obtain ⟨b3, hrun⟩ := p_chk hrun
        refine ldM_newSigns C hK I.1 b3 dX5_keepNew_41 ?_
        obtain ⟨b4, hrun⟩ := p_chk hrun
        refine stM_signs C hK hD I b4 dX5_keepNew_42 (fun H locs I => ?_)
        refine lv_iinc (v := x1 + 1) (lv' := [(1, .int (x1 + 1)), (0, .ref h)]) hx hb dX5_keepNew_43 hl (k := 1) rfl rfl (by decide) rfl (fun ls hl => ?_)
        refine lv_goto (tgt := 15) hx hb dX5_keepNew_46 rfl ?_
        exact ih (upd v_signs (Int32.toNatClampNeg ((20 * v_roads) + x1)) (v_newSigns (Int32.toNatClampNeg x1))) (x1 + 1) out hrun K _ _ _ I (lv_sub hl [1, 0] rfl)
  unfold P5_keepNew at hrun
  refine lv_aload_n hx hb dX5_keepNew_0 rfl (lv_at hl 0 rfl) ?_
  refine gM_lengths C inm5_keepNew hK I.1 fl5_keepNew_13 dX5_keepNew_1 ?_
  refine lv_aload_n hx hb dX5_keepNew_4 rfl (lv_at hl 0 rfl) ?_
  refine gM_roads C inm5_keepNew hK I.1 fl5_keepNew_75 dX5_keepNew_5 ?_
  refine lv_aload_n hx hb dX5_keepNew_8 rfl (lv_at hl 0 rfl) ?_
  refine gM_newLength C inm5_keepNew hK I.1 fl5_keepNew_60 dX5_keepNew_9 ?_
  obtain ⟨b1, hrun⟩ := p_chk hrun
  refine stM_lengths C hK hD I b1 dX5_keepNew_12 (fun H locs I => ?_)
  refine lv_iconst (v := 0) hx hb dX5_keepNew_13 rfl ?_
  refine lv_istore_n (lv' := [(1, .int 0), (0, .ref h)]) hx hb dX5_keepNew_14 rfl hl (by decide) rfl (fun ls hl => ?_)
  obtain ⟨o5, h_o5, hrun⟩ := p_bnd hrun
  refine loop_15 v_roads (upd v_lengths (Int32.toNatClampNeg v_roads) v_newLength) FU v_signs 0 o5 h_o5 (fun H locs ls I hl => ?_) _ _ _ I (lv_sub hl [1, 0] rfl)
  refine lv_aload_n hx hb dX5_keepNew_49 rfl (lv_at hl 0 rfl) ?_
  refine lv_dup hx hb dX5_keepNew_50 rfl ?_
  refine gM_roads C inm5_keepNew hK I.1 fl5_keepNew_75 dX5_keepNew_51 ?_
  refine lv_iconst (v := 1) hx hb dX5_keepNew_54 rfl ?_
  refine lv_iadd hx hb dX5_keepNew_55 ?_
  refine pM_roads C inm5_keepNew hK hD I fl5_keepNew_75 dX5_keepNew_56 (fun H locs I => ?_)
  refine lv_aload_n hx hb dX5_keepNew_59 rfl (lv_at hl 0 rfl) ?_
  refine gM_roads C inm5_keepNew hK I.1 fl5_keepNew_75 dX5_keepNew_60 ?_
  refine lv_iconst (v := 1) hx hb dX5_keepNew_63 rfl ?_
  refine lv_isub hx hb dX5_keepNew_64 ?_
  cases hrun
  exact rE_i C hr hlk hQ I (nbi _) rfl dX5_keepNew_65

end M50
