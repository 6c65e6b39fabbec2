section M51
variable {l : Launch} {D : va_G} {sz : Nat}
variable {h : Nat} {ad : Nat → Nat} {cA : ClassId}
variable {v_pageLength v_roads v_wordsRead v_disc v_forms v_cycles v_newLength v_mayRun v_size v_otherSize v_tableA v_tableB v_tableC v_tableD v_a v_b v_c v_grade v_flowA v_flowB v_flowC : Int32}
variable {v_seedNow v_h : Int64}
variable {v_page v_lengths v_signs v_formA v_formB v_formC v_nextOf v_cycleOf v_firstOf v_newSigns v_at v_other : Nat → Int32}
abbrev rm5_word : Room := { frames := 3, cells := 0, slots := 0, locals := 66 }
theorem fl5_word_55 : Cond.fieldLink RX5 55 "RiverWordsModel" "pageLength" "I" ∈ wsX5_word := by decide +kernel
theorem fl5_word_60 : Cond.fieldLink RX5 60 "RiverWordsModel" "newLength" "I" ∈ wsX5_word := by decide +kernel
theorem fl5_word_75 : Cond.fieldLink RX5 75 "RiverWordsModel" "roads" "I" ∈ wsX5_word := by decide +kernel
theorem fl5_word_79 : Cond.fieldLink RX5 79 "RiverWordsModel" "wordsRead" "I" ∈ wsX5_word := by decide +kernel
theorem k5_word_59 : Cond.constant RX5 59 (-2000000104) ∈ wsX5_word := by decide +kernel
theorem k5_word_78 : Cond.constant RX5 78 (-2000000103) ∈ wsX5_word := by decide +kernel
theorem inm5_word : ∀ w ∈ wsX50, w ∈ wsX5_word := fun w h => by unfold wsX5_word; first | exact List.mem_cons_of_mem _ (List.mem_append_right _ h) | exact List.mem_cons_of_mem _ h
theorem hd5_word : okD yX5_word 0 := by decide +kernel
set_option maxHeartbeats 8000000 in
set_option maxRecDepth 100000 in
theorem c5_word {res : Int32 × Int32 × Int32 × (Nat → Int32) × (Nat → Int32) × Int32 × Int32 × (Nat → Int32) × Int32} (hrun : P5_word v_pageLength v_page v_roads v_lengths v_signs v_wordsRead v_newSigns = some res) : Met l yX5_word wsX5_word rm5_word (va_Pc [.ref h] (PE D [(cA, .int)] sz (WM0 h ad cA) (WM h ad cA v_pageLength v_page v_roads v_lengths v_signs v_wordsRead v_disc v_forms v_formA v_formB v_formC v_nextOf v_cycleOf v_cycles v_firstOf v_newLength v_newSigns v_mayRun v_size v_at v_otherSize v_other v_tableA v_tableB v_tableC v_tableD v_a v_b v_c v_grade v_flowA v_flowB v_flowC v_seedNow v_h))) (va_Qi (fun (x : Int32) (_ : Unit) => x = res.1) (fun _ t => va_P D vwCl (WM h ad cA res.2.1 v_page res.2.2.1 res.2.2.2.1 res.2.2.2.2.1 res.2.2.2.2.2.1 v_disc v_forms v_formA v_formB v_formC v_nextOf v_cycleOf v_cycles v_firstOf res.2.2.2.2.2.2.1 res.2.2.2.2.2.2.2.1 res.2.2.2.2.2.2.2.2 v_size v_at v_otherSize v_other v_tableA v_tableB v_tableC v_tableD v_a v_b v_c v_grade v_flowA v_flowB v_flowC v_seedNow v_h) t.heap) (va_A (WM0 h ad cA) sz)) 0 0 (va_A (WM0 h ad cA) sz) := by
  refine E_in (cc := cX5_word) (maxL := 1) (ret := (some .int)) (by decide) rfl (Nat.le_of_ble_eq_true rfl) ?_
  intro p e s m args below meth c ls Q hQ C hr hlk hK hN hD hA I hl
  have C : CallFix p m c cX5_word 1 s args wsX5_word RX5 := C
  have hx := C.1
  have hb := C.2.1
  have hl : lv_has ls 1 [(0, .ref h)] := hl
  unfold P5_word at hrun
  refine lv_aload_n hx hb dX5_word_0 rfl (lv_at hl 0 rfl) ?_
  obtain ⟨r1, h_r1, hrun⟩ := p_bnd hrun
  refine jVE_i (rest := []) C (c5_read h_r1) gX5_word_X5_read hd5_read hK hN hD hA I rcM rfl ⟨rfl, rfl⟩ ⟨Nat.le_of_ble_eq_true rfl, Nat.le_of_ble_eq_true rfl⟩ rfl hl.1 rfl (Nat.le_of_ble_eq_true rfl) ⟨Nat.le_of_ble_eq_true rfl, Nat.le_of_ble_eq_true rfl⟩ dX5_word_1 (fun H locs I => ?_)
  refine lv_aload_n hx hb dX5_word_4 rfl (lv_at hl 0 rfl) ?_
  refine gM_pageLength C inm5_word hK I.1 fl5_word_55 dX5_word_5 ?_
  refine lv_icmp_lt (tgt := 18) hx hb dX5_word_8 rfl (fun c2 => ?_) (fun c2 => ?_)
  · have hrun := p_pos hrun c2
    refine lv_ldc (v := (-2000000103)) hx hb C.2.2.2.1 (C.2.2.2.2 _ k5_word_78) dX5_word_18 ?_
    cases hrun
    exact rE_i C hr hlk hQ I (nbi _) rfl dX5_word_20
  · have hrun := p_neg hrun c2
    refine lv_aload_n hx hb dX5_word_11 rfl (lv_at hl 0 rfl) ?_
    refine gM_newLength C inm5_word hK I.1 fl5_word_60 dX5_word_12 ?_
    refine lv_if_ne (tgt := 21) hx hb dX5_word_15 rfl (fun c3 => ?_) (fun c3 => ?_)
    · have hrun := p_neg hrun c3
      refine lv_aload_n hx hb dX5_word_21 rfl (lv_at hl 0 rfl) ?_
      refine gM_roads C inm5_word hK I.1 fl5_word_75 dX5_word_22 ?_
      refine lv_bipush (v := 6) hx hb dX5_word_25 rfl ?_
      refine lv_icmp_ne (tgt := 33) hx hb dX5_word_27 rfl (fun c4 => ?_) (fun c4 => ?_)
      · have hrun := p_neg hrun c4
        refine lv_aload_n hx hb dX5_word_33 rfl (lv_at hl 0 rfl) ?_
        refine lv_dup hx hb dX5_word_34 rfl ?_
        refine gM_wordsRead C inm5_word hK I.1 fl5_word_79 dX5_word_35 ?_
        refine lv_iconst (v := 1) hx hb dX5_word_38 rfl ?_
        refine lv_iadd hx hb dX5_word_39 ?_
        refine pM_wordsRead C inm5_word hK hD I fl5_word_79 dX5_word_40 (fun H locs I => ?_)
        refine lv_aload_n hx hb dX5_word_43 rfl (lv_at hl 0 rfl) ?_
        refine lv_iconst (v := 0) hx hb dX5_word_44 rfl ?_
        refine pM_pageLength C inm5_word hK hD I fl5_word_55 dX5_word_45 (fun H locs I => ?_)
        refine lv_aload_n hx hb dX5_word_48 rfl (lv_at hl 0 rfl) ?_
        obtain ⟨r5, h_r5, hrun⟩ := p_bnd hrun
        refine jVE_i (rest := []) C (c5_keepNew h_r5) gX5_word_X5_keepNew hd5_keepNew hK hN hD hA I rcM rfl ⟨rfl, rfl⟩ ⟨Nat.le_of_ble_eq_true rfl, Nat.le_of_ble_eq_true rfl⟩ rfl hl.1 rfl (Nat.le_of_ble_eq_true rfl) ⟨Nat.le_of_ble_eq_true rfl, Nat.le_of_ble_eq_true rfl⟩ dX5_word_49 (fun H locs I => ?_)
        cases hrun
        exact rE_i C hr hlk hQ I (nbi _) rfl dX5_word_52
      · have hrun := p_pos hrun c4
        refine lv_ldc (v := (-2000000104)) hx hb C.2.2.2.1 (C.2.2.2.2 _ k5_word_59) dX5_word_30 ?_
        cases hrun
        exact rE_i C hr hlk hQ I (nbi _) rfl dX5_word_32
    · have hrun := p_pos hrun c3
      refine lv_ldc (v := (-2000000103)) hx hb C.2.2.2.1 (C.2.2.2.2 _ k5_word_78) dX5_word_18 ?_
      cases hrun
      exact rE_i C hr hlk hQ I (nbi _) rfl dX5_word_20

abbrev rm5_look : Room := { frames := 0, cells := 0, slots := 0, locals := 0 }
theorem fl5_look_13 : Cond.fieldLink RX5 13 "RiverWordsModel" "lengths" "[I" ∈ wsX5_look := by decide +kernel
theorem fl5_look_16 : Cond.fieldLink RX5 16 "RiverWordsModel" "signs" "[I" ∈ wsX5_look := by decide +kernel
theorem fl5_look_40 : Cond.fieldLink RX5 40 "RiverWordsModel" "at" "[I" ∈ wsX5_look := by decide +kernel
theorem fl5_look_85 : Cond.fieldLink RX5 85 "RiverWordsModel" "size" "I" ∈ wsX5_look := by decide +kernel
theorem inm5_look : ∀ w ∈ wsX50, w ∈ wsX5_look := fun w h => by unfold wsX5_look; first | exact List.mem_cons_of_mem _ (List.mem_append_right _ h) | exact List.mem_cons_of_mem _ h
theorem hd5_look : okD yX5_look 1 := by decide +kernel
set_option maxHeartbeats 8000000 in
set_option maxRecDepth 100000 in
theorem c5_look {x1 : Int32} {res : Int32 × (Nat → Int32)} (hrun : P5_look v_lengths v_signs v_at x1 = some res) : Met l yX5_look wsX5_look rm5_look (va_Pc [.ref h, .int x1] (PE D [(cA, .int)] sz (WM0 h ad cA) (WM h ad cA v_pageLength v_page v_roads v_lengths v_signs v_wordsRead v_disc v_forms v_formA v_formB v_formC v_nextOf v_cycleOf v_cycles v_firstOf v_newLength v_newSigns v_mayRun v_size v_at v_otherSize v_other v_tableA v_tableB v_tableC v_tableD v_a v_b v_c v_grade v_flowA v_flowB v_flowC v_seedNow v_h))) (va_Qv (fun _ : Unit => True) (fun _ t => va_P D vwCl (WM h ad cA v_pageLength v_page v_roads v_lengths v_signs v_wordsRead v_disc v_forms v_formA v_formB v_formC v_nextOf v_cycleOf v_cycles v_firstOf v_newLength v_newSigns v_mayRun res.1 res.2 v_otherSize v_other v_tableA v_tableB v_tableC v_tableD v_a v_b v_c v_grade v_flowA v_flowB v_flowC v_seedNow v_h) t.heap) (va_A (WM0 h ad cA) sz)) 0 0 (va_A (WM0 h ad cA) sz) := by
  refine E_in (cc := cX5_look) (maxL := 3) (ret := none) (by decide) rfl (Nat.le_of_ble_eq_true rfl) ?_
  intro p e s m args below meth c ls Q hQ C hr hlk hK hN hD hA I hl
  have C : CallFix p m c cX5_look 3 s args wsX5_look RX5 := C
  have hx := C.1
  have hb := C.2.1
  have hl : lv_has ls 3 [(0, .ref h), (1, .int x1)] := hl
  have loop_12 : ∀ (v_size : Int32) (n : Nat) (v_at : Nat → Int32) (x2 : Int32) (out : (Nat → Int32)), P5_look_12 v_signs v_size x1 n v_at x2 = some out → (∀ (H : Heap) (locs : List Loc) (ls : Array Slot), IM D (va_A (WM0 h ad cA) sz) s.heap H locs (WM h ad cA v_pageLength v_page v_roads v_lengths v_signs v_wordsRead v_disc v_forms v_formA v_formB v_formC v_nextOf v_cycleOf v_cycles v_firstOf v_newLength v_newSigns v_mayRun v_size out v_otherSize v_other v_tableA v_tableB v_tableC v_tableD v_a v_b v_c v_grade v_flowA v_flowB v_flowC v_seedNow v_h) → lv_has ls 3 [] → W p l e rm5_look s m args below meth c H locs 0 0 Q (F0 m 43 ls [])) → ∀ (H : Heap) (locs : List Loc) (ls : Array Slot), IM D (va_A (WM0 h ad cA) sz) s.heap H locs (WM h ad cA v_pageLength v_page v_roads v_lengths v_signs v_wordsRead v_disc v_forms v_formA v_formB v_formC v_nextOf v_cycleOf v_cycles v_firstOf v_newLength v_newSigns v_mayRun v_size v_at v_otherSize v_other v_tableA v_tableB v_tableC v_tableD v_a v_b v_c v_grade v_flowA v_flowB v_flowC v_seedNow v_h) → lv_has ls 3 [(0, .ref h), (1, .int x1), (2, .int x2)] → W p l e rm5_look s m args below meth c H locs 0 0 Q (F0 m 12 ls []) := by
    intro v_size n
    induction n with
    | zero =>
      intro v_at x2 out hrun K H locs ls I hl
      cases hrun
    | succ n ih =>
      intro v_at x2 out hrun K H locs ls I hl
      rw [P5_look_12] at hrun
      refine lv_iload_n hx hb dX5_look_12 rfl (lv_at hl 2 rfl) ?_
      refine lv_aload_n hx hb dX5_look_13 rfl (lv_at hl 0 rfl) ?_
      refine gM_size C inm5_look hK I.1 fl5_look_85 dX5_look_14 ?_
      refine lv_icmp_ge (tgt := 43) hx hb dX5_look_17 rfl (fun c2 => ?_) (fun c2 => ?_)
      · have hrun := p_pos hrun c2
        cases hrun
        exact K _ _ _ I (lv_sub hl [] rfl)
      · have hrun := p_neg hrun c2
        refine lv_aload_n hx hb dX5_look_20 rfl (lv_at hl 0 rfl) ?_
        refine gM_at C inm5_look hK I.1 fl5_look_40 dX5_look_21 ?_
        refine lv_iload_n hx hb dX5_look_24 rfl (lv_at hl 2 rfl) ?_
        refine lv_aload_n hx hb dX5_look_25 rfl (lv_at hl 0 rfl) ?_
        refine gM_signs C inm5_look hK I.1 fl5_look_16 dX5_look_26 ?_
        refine lv_bipush (v := 20) hx hb dX5_look_29 rfl ?_
        refine lv_iload_n hx hb dX5_look_31 rfl (lv_at hl 1 rfl) ?_
        refine lv_imul hx hb dX5_look_32 ?_
        refine lv_iload_n hx hb dX5_look_33 rfl (lv_at hl 2 rfl) ?_
        refine lv_iadd hx hb dX5_look_34 ?_
        obtain ⟨b3, hrun⟩ := p_chk hrun
        refine ldM_signs C hK I.1 b3 dX5_look_35 ?_
        obtain ⟨b4, hrun⟩ := p_chk hrun
        refine stM_at C hK hD I b4 dX5_look_36 (fun H locs I => ?_)
        refine lv_iinc (v := x2 + 1) (lv' := [(2, .int (x2 + 1)), (0, .ref h), (1, .int x1)]) hx hb dX5_look_37 hl (k := 2) rfl rfl (by decide) rfl (fun ls hl => ?_)
        refine lv_goto (tgt := 12) hx hb dX5_look_40 rfl ?_
        exact ih (upd v_at (Int32.toNatClampNeg x2) (v_signs (Int32.toNatClampNeg ((20 * x1) + x2)))) (x2 + 1) out hrun K _ _ _ I (lv_sub hl [1, 2, 0] rfl)
  unfold P5_look at hrun
  refine lv_aload_n hx hb dX5_look_0 rfl (lv_at hl 0 rfl) ?_
  refine lv_aload_n hx hb dX5_look_1 rfl (lv_at hl 0 rfl) ?_
  refine gM_lengths C inm5_look hK I.1 fl5_look_13 dX5_look_2 ?_
  refine lv_iload_n hx hb dX5_look_5 rfl (lv_at hl 1 rfl) ?_
  obtain ⟨b1, hrun⟩ := p_chk hrun
  refine ldM_lengths C hK I.1 b1 dX5_look_6 ?_
  refine pM_size C inm5_look hK hD I fl5_look_85 dX5_look_7 (fun H locs I => ?_)
  refine lv_iconst (v := 0) hx hb dX5_look_10 rfl ?_
  refine lv_istore_n (lv' := [(2, .int 0), (0, .ref h), (1, .int x1)]) hx hb dX5_look_11 rfl hl (by decide) rfl (fun ls hl => ?_)
  obtain ⟨o5, h_o5, hrun⟩ := p_bnd hrun
  refine loop_12 (v_lengths (Int32.toNatClampNeg x1)) FU v_at 0 o5 h_o5 (fun H locs ls I hl => ?_) _ _ _ I (lv_sub hl [1, 2, 0] rfl)
  cases hrun
  exact rE_v C hr hlk hQ I dX5_look_43

abbrev rm5_lefts : Room := { frames := 0, cells := 0, slots := 0, locals := 0 }
theorem fl5_lefts_40 : Cond.fieldLink RX5 40 "RiverWordsModel" "at" "[I" ∈ wsX5_lefts := by decide +kernel
theorem fl5_lefts_85 : Cond.fieldLink RX5 85 "RiverWordsModel" "size" "I" ∈ wsX5_lefts := by decide +kernel
theorem inm5_lefts : ∀ w ∈ wsX50, w ∈ wsX5_lefts := fun w h => by unfold wsX5_lefts; first | exact List.mem_cons_of_mem _ (List.mem_append_right _ h) | exact List.mem_cons_of_mem _ h
theorem hd5_lefts : okD yX5_lefts 0 := by decide +kernel
set_option maxHeartbeats 8000000 in
set_option maxRecDepth 100000 in
theorem c5_lefts {res : Int32} (hrun : P5_lefts v_size v_at = some res) : Met l yX5_lefts wsX5_lefts rm5_lefts (va_Pc [.ref h] (PS D [(cA, .int)] (WM h ad cA v_pageLength v_page v_roads v_lengths v_signs v_wordsRead v_disc v_forms v_formA v_formB v_formC v_nextOf v_cycleOf v_cycles v_firstOf v_newLength v_newSigns v_mayRun v_size v_at v_otherSize v_other v_tableA v_tableB v_tableC v_tableD v_a v_b v_c v_grade v_flowA v_flowB v_flowC v_seedNow v_h))) (vp_Si (fun x => x = res)) 0 0 (fun _ => False) := by
  refine S_in (cc := cX5_lefts) (maxL := 3) (ret := (some .int)) (by decide) rfl (Nat.le_of_ble_eq_true rfl) ?_
  intro p e s m args below meth c ls Q hQ C hr hlk hK hN hP hl
  have C : CallFix p m c cX5_lefts 3 s args wsX5_lefts RX5 := C
  have hx := C.1
  have hb := C.2.1
  have hl : lv_has ls 3 [(0, .ref h)] := hl
  have loop_4 : ∀ (n : Nat) (x1 : Int32) (x2 : Int32) (out : Int32), P5_lefts_4 v_size v_at n x1 x2 = some out → (∀ (ls : Array Slot), lv_has ls 3 [(1, .int out)] → W p l e rm5_lefts s m args below meth c s.heap [] 0 0 Q (F0 m 35 ls [])) → ∀ (ls : Array Slot), lv_has ls 3 [(0, .ref h), (1, .int x1), (2, .int x2)] → W p l e rm5_lefts s m args below meth c s.heap [] 0 0 Q (F0 m 4 ls []) := by
    intro n
    induction n with
    | zero =>
      intro x1 x2 out hrun K ls hl
      cases hrun
    | succ n ih =>
      intro x1 x2 out hrun K ls hl
      rw [P5_lefts_4] at hrun
      refine lv_iload_n hx hb dX5_lefts_4 rfl (lv_at hl 2 rfl) ?_
      refine lv_aload_n hx hb dX5_lefts_5 rfl (lv_at hl 0 rfl) ?_
      refine gM_size C inm5_lefts hK hP fl5_lefts_85 dX5_lefts_6 ?_
      refine lv_icmp_ge (tgt := 35) hx hb dX5_lefts_9 rfl (fun c1 => ?_) (fun c1 => ?_)
      · have hrun := p_pos hrun c1
        cases hrun
        exact K _ (lv_sub hl [1] rfl)
      · have hrun := p_neg hrun c1
        refine lv_iload_n hx hb dX5_lefts_12 rfl (lv_at hl 1 rfl) ?_
        refine lv_aload_n hx hb dX5_lefts_13 rfl (lv_at hl 0 rfl) ?_
        refine gM_at C inm5_lefts hK hP fl5_lefts_40 dX5_lefts_14 ?_
        refine lv_iload_n hx hb dX5_lefts_17 rfl (lv_at hl 2 rfl) ?_
        obtain ⟨b2, hrun⟩ := p_chk hrun
        refine ldM_at C hK hP b2 dX5_lefts_18 ?_
        refine lv_if_ne (tgt := 26) hx hb dX5_lefts_19 rfl (fun c3 => ?_) (fun c3 => ?_)
        · have hrun := p_neg hrun c3
          refine lv_iconst (v := 0) hx hb dX5_lefts_26 rfl ?_
          refine lv_iadd hx hb dX5_lefts_27 ?_
          refine lv_istore_n (lv' := [(1, .int (x1 + 0)), (0, .ref h), (2, .int x2)]) hx hb dX5_lefts_28 rfl hl (by decide) rfl (fun ls hl => ?_)
          refine lv_iinc (v := x2 + 1) (lv' := [(2, .int (x2 + 1)), (1, .int (x1 + 0)), (0, .ref h)]) hx hb dX5_lefts_29 hl (k := 2) rfl rfl (by decide) rfl (fun ls hl => ?_)
          refine lv_goto (tgt := 4) hx hb dX5_lefts_32 rfl ?_
          exact ih (x1 + 0) (x2 + 1) out hrun K _ (lv_sub hl [2, 1, 0] rfl)
        · have hrun := p_pos hrun c3
          refine lv_iconst (v := 1) hx hb dX5_lefts_22 rfl ?_
          refine lv_goto (tgt := 27) hx hb dX5_lefts_23 rfl ?_
          refine lv_iadd hx hb dX5_lefts_27 ?_
          refine lv_istore_n (lv' := [(1, .int (x1 + 1)), (0, .ref h), (2, .int x2)]) hx hb dX5_lefts_28 rfl hl (by decide) rfl (fun ls hl => ?_)
          refine lv_iinc (v := x2 + 1) (lv' := [(2, .int (x2 + 1)), (1, .int (x1 + 1)), (0, .ref h)]) hx hb dX5_lefts_29 hl (k := 2) rfl rfl (by decide) rfl (fun ls hl => ?_)
          refine lv_goto (tgt := 4) hx hb dX5_lefts_32 rfl ?_
          exact ih (x1 + 1) (x2 + 1) out hrun K _ (lv_sub hl [2, 1, 0] rfl)
  unfold P5_lefts at hrun
  refine lv_iconst (v := 0) hx hb dX5_lefts_0 rfl ?_
  refine lv_istore_n (lv' := [(1, .int 0), (0, .ref h)]) hx hb dX5_lefts_1 rfl hl (by decide) rfl (fun ls hl => ?_)
  refine lv_iconst (v := 0) hx hb dX5_lefts_2 rfl ?_
  refine lv_istore_n (lv' := [(2, .int 0), (1, .int 0), (0, .ref h)]) hx hb dX5_lefts_3 rfl hl (by decide) rfl (fun ls hl => ?_)
  obtain ⟨o4, h_o4, hrun⟩ := p_bnd hrun
  refine loop_4 FU 0 0 o4 h_o4 (fun ls hl => ?_) _ (lv_sub hl [2, 1, 0] rfl)
  refine lv_iload_n hx hb dX5_lefts_35 rfl (lv_at hl 0 rfl) ?_
  cases hrun
  exact rS_i C hr hlk hQ (nbi _) rfl dX5_lefts_36

abbrev rm5_isClosedNow : Room := { frames := 1, cells := 0, slots := 0, locals := 22 }
theorem fl5_isClosedNow_85 : Cond.fieldLink RX5 85 "RiverWordsModel" "size" "I" ∈ wsX5_isClosedNow := by decide +kernel
theorem inm5_isClosedNow : ∀ w ∈ wsX50, w ∈ wsX5_isClosedNow := fun w h => by unfold wsX5_isClosedNow; first | exact List.mem_cons_of_mem _ (List.mem_append_right _ h) | exact List.mem_cons_of_mem _ h
theorem hd5_isClosedNow : okD yX5_isClosedNow 0 := by decide +kernel
set_option maxHeartbeats 8000000 in
set_option maxRecDepth 100000 in
theorem c5_isClosedNow {res : Int32} (hrun : P5_isClosedNow v_size v_at = some res) : Met l yX5_isClosedNow wsX5_isClosedNow rm5_isClosedNow (va_Pc [.ref h] (PS D [(cA, .int)] (WM h ad cA v_pageLength v_page v_roads v_lengths v_signs v_wordsRead v_disc v_forms v_formA v_formB v_formC v_nextOf v_cycleOf v_cycles v_firstOf v_newLength v_newSigns v_mayRun v_size v_at v_otherSize v_other v_tableA v_tableB v_tableC v_tableD v_a v_b v_c v_grade v_flowA v_flowB v_flowC v_seedNow v_h))) (vp_Si (fun x => x = res)) 0 0 (fun _ => False) := by
  refine S_in (cc := cX5_isClosedNow) (maxL := 1) (ret := (some .boolean)) (by decide) rfl (Nat.le_of_ble_eq_true rfl) ?_
  intro p e s m args below meth c ls Q hQ C hr hlk hK hN hP hl
  have C : CallFix p m c cX5_isClosedNow 1 s args wsX5_isClosedNow RX5 := C
  have hx := C.1
  have hb := C.2.1
  have hl : lv_has ls 1 [(0, .ref h)] := hl
  unfold P5_isClosedNow at hrun
  refine lv_aload_n hx hb dX5_isClosedNow_0 rfl (lv_at hl 0 rfl) ?_
  obtain ⟨r1, h_r1, hrun⟩ := p_bnd hrun
  refine jVS_i (rest := []) C (c5_lefts h_r1) gX5_isClosedNow_X5_lefts hd5_lefts hK hN hP rcM rfl ⟨rfl, rfl⟩ ⟨Nat.le_of_ble_eq_true rfl, Nat.le_of_ble_eq_true rfl⟩ rfl hl.1 rfl (Nat.le_of_ble_eq_true rfl) ⟨Nat.le_of_ble_eq_true rfl, Nat.le_of_ble_eq_true rfl⟩ dX5_isClosedNow_1 ?_
  refine lv_if_le (tgt := 22) hx hb dX5_isClosedNow_4 rfl (fun c2 => ?_) (fun c2 => ?_)
  · have hrun := p_pos hrun c2
    refine lv_iconst (v := 0) hx hb dX5_isClosedNow_22 rfl ?_
    cases hrun
    exact rS_i C hr hlk hQ (nb01 (Or.inl rfl)) rfl dX5_isClosedNow_23
  · have hrun := p_neg hrun c2
    refine lv_aload_n hx hb dX5_isClosedNow_7 rfl (lv_at hl 0 rfl) ?_
    obtain ⟨r3, h_r3, hrun⟩ := p_bnd hrun
    refine jVS_i (rest := []) C (c5_lefts h_r3) gX5_isClosedNow_X5_lefts hd5_lefts hK hN hP rcM rfl ⟨rfl, rfl⟩ ⟨Nat.le_of_ble_eq_true rfl, Nat.le_of_ble_eq_true rfl⟩ rfl hl.1 rfl (Nat.le_of_ble_eq_true rfl) ⟨Nat.le_of_ble_eq_true rfl, Nat.le_of_ble_eq_true rfl⟩ dX5_isClosedNow_8 ?_
    refine lv_aload_n hx hb dX5_isClosedNow_11 rfl (lv_at hl 0 rfl) ?_
    refine gM_size C inm5_isClosedNow hK hP fl5_isClosedNow_85 dX5_isClosedNow_12 ?_
    refine lv_icmp_ge (tgt := 22) hx hb dX5_isClosedNow_15 rfl (fun c4 => ?_) (fun c4 => ?_)
    · have hrun := p_pos hrun c4
      refine lv_iconst (v := 0) hx hb dX5_isClosedNow_22 rfl ?_
      cases hrun
      exact rS_i C hr hlk hQ (nb01 (Or.inl rfl)) rfl dX5_isClosedNow_23
    · have hrun := p_neg hrun c4
      refine lv_iconst (v := 1) hx hb dX5_isClosedNow_18 rfl ?_
      refine lv_goto (tgt := 23) hx hb dX5_isClosedNow_19 rfl ?_
      cases hrun
      exact rS_i C hr hlk hQ (nb01 (Or.inr rfl)) rfl dX5_isClosedNow_23

abbrev rm5_isClosed : Room := { frames := 2, cells := 0, slots := 0, locals := 42 }
theorem hd5_isClosed : okD yX5_isClosed 1 := by decide +kernel
set_option maxHeartbeats 8000000 in
set_option maxRecDepth 100000 in
theorem c5_isClosed {x1 : Int32} {res : Int32 × Int32 × (Nat → Int32)} (hrun : P5_isClosed v_lengths v_signs v_at x1 = some res) : Met l yX5_isClosed wsX5_isClosed rm5_isClosed (va_Pc [.ref h, .int x1] (PE D [(cA, .int)] sz (WM0 h ad cA) (WM h ad cA v_pageLength v_page v_roads v_lengths v_signs v_wordsRead v_disc v_forms v_formA v_formB v_formC v_nextOf v_cycleOf v_cycles v_firstOf v_newLength v_newSigns v_mayRun v_size v_at v_otherSize v_other v_tableA v_tableB v_tableC v_tableD v_a v_b v_c v_grade v_flowA v_flowB v_flowC v_seedNow v_h))) (va_Qi (fun (x : Int32) (_ : Unit) => x = res.1) (fun _ t => va_P D vwCl (WM h ad cA v_pageLength v_page v_roads v_lengths v_signs v_wordsRead v_disc v_forms v_formA v_formB v_formC v_nextOf v_cycleOf v_cycles v_firstOf v_newLength v_newSigns v_mayRun res.2.1 res.2.2 v_otherSize v_other v_tableA v_tableB v_tableC v_tableD v_a v_b v_c v_grade v_flowA v_flowB v_flowC v_seedNow v_h) t.heap) (va_A (WM0 h ad cA) sz)) 0 0 (va_A (WM0 h ad cA) sz) := by
  refine E_in (cc := cX5_isClosed) (maxL := 2) (ret := (some .boolean)) (by decide) rfl (Nat.le_of_ble_eq_true rfl) ?_
  intro p e s m args below meth c ls Q hQ C hr hlk hK hN hD hA I hl
  have C : CallFix p m c cX5_isClosed 2 s args wsX5_isClosed RX5 := C
  have hx := C.1
  have hb := C.2.1
  have hl : lv_has ls 2 [(0, .ref h), (1, .int x1)] := hl
  unfold P5_isClosed at hrun
  refine lv_aload_n hx hb dX5_isClosed_0 rfl (lv_at hl 0 rfl) ?_
  refine lv_iload_n hx hb dX5_isClosed_1 rfl (lv_at hl 1 rfl) ?_
  obtain ⟨r1, h_r1, hrun⟩ := p_bnd hrun
  refine jVE_v (rest := []) C (c5_look h_r1) gX5_isClosed_X5_look hd5_look hK hN hD hA I rcM rfl ⟨rfl, rfl⟩ ⟨Nat.le_of_ble_eq_true rfl, Nat.le_of_ble_eq_true rfl⟩ rfl hl.1 rfl (Nat.le_of_ble_eq_true rfl) ⟨Nat.le_of_ble_eq_true rfl, Nat.le_of_ble_eq_true rfl⟩ dX5_isClosed_2 (fun H locs I => ?_)
  refine lv_aload_n hx hb dX5_isClosed_5 rfl (lv_at hl 0 rfl) ?_
  obtain ⟨r2, h_r2, hrun⟩ := p_bnd hrun
  refine jVS_i (rest := []) C (c5_isClosedNow h_r2) gX5_isClosed_X5_isClosedNow hd5_isClosedNow hK hN I.1 rcM rfl ⟨rfl, rfl⟩ ⟨Nat.le_of_ble_eq_true rfl, Nat.le_of_ble_eq_true rfl⟩ rfl hl.1 rfl (Nat.le_of_ble_eq_true rfl) ⟨Nat.le_of_ble_eq_true rfl, Nat.le_of_ble_eq_true rfl⟩ dX5_isClosed_6 ?_
  obtain ⟨z3, hrun⟩ := p_chk hrun
  cases hrun
  exact rE_i C hr hlk hQ I (nb01 z3) rfl dX5_isClosed_9

abbrev rm5_compareTurns : Room := { frames := 0, cells := 0, slots := 0, locals := 0 }
theorem fl5_compareTurns_40 : Cond.fieldLink RX5 40 "RiverWordsModel" "at" "[I" ∈ wsX5_compareTurns := by decide +kernel
theorem fl5_compareTurns_85 : Cond.fieldLink RX5 85 "RiverWordsModel" "size" "I" ∈ wsX5_compareTurns := by decide +kernel
theorem inm5_compareTurns : ∀ w ∈ wsX50, w ∈ wsX5_compareTurns := fun w h => by unfold wsX5_compareTurns; first | exact List.mem_cons_of_mem _ (List.mem_append_right _ h) | exact List.mem_cons_of_mem _ h
theorem hd5_compareTurns : okD yX5_compareTurns 2 := by decide +kernel
set_option maxHeartbeats 8000000 in
set_option maxRecDepth 100000 in
theorem c5_compareTurns {x1 : Int32} {x2 : Int32} {res : Int32} (hrun : P5_compareTurns v_size v_at x1 x2 = some res) : Met l yX5_compareTurns wsX5_compareTurns rm5_compareTurns (va_Pc [.ref h, .int x1, .int x2] (PS D [(cA, .int)] (WM h ad cA v_pageLength v_page v_roads v_lengths v_signs v_wordsRead v_disc v_forms v_formA v_formB v_formC v_nextOf v_cycleOf v_cycles v_firstOf v_newLength v_newSigns v_mayRun v_size v_at v_otherSize v_other v_tableA v_tableB v_tableC v_tableD v_a v_b v_c v_grade v_flowA v_flowB v_flowC v_seedNow v_h))) (vp_Si (fun x => x = res)) 0 0 (fun _ => False) := by
  refine S_in (cc := cX5_compareTurns) (maxL := 5) (ret := (some .int)) (by decide) rfl (Nat.le_of_ble_eq_true rfl) ?_
  intro p e s m args below meth c ls Q hQ C hr hlk hK hN hP hl
  have C : CallFix p m c cX5_compareTurns 5 s args wsX5_compareTurns RX5 := C
  have hx := C.1
  have hb := C.2.1
  have hl : lv_has ls 5 [(0, .ref h), (1, .int x1), (2, .int x2)] := hl
  have loop_2 : ∀ (n : Nat) (x3 : Int32), P5_compareTurns_2 v_size v_at x1 x2 n x3 = some res → ∀ (ls : Array Slot), lv_has ls 5 [(0, .ref h), (1, .int x1), (2, .int x2), (3, .int x3)] → W p l e rm5_compareTurns s m args below meth c s.heap [] 0 0 Q (F0 m 2 ls []) := by
    intro n
    induction n with
    | zero =>
      intro x3 hrun ls hl
      cases hrun
    | succ n ih =>
      intro x3 hrun ls hl
      rw [P5_compareTurns_2] at hrun
      refine lv_iload_n hx hb dX5_compareTurns_2 rfl (lv_at hl 3 rfl) ?_
      refine lv_aload_n hx hb dX5_compareTurns_3 rfl (lv_at hl 0 rfl) ?_
      refine gM_size C inm5_compareTurns hK hP fl5_compareTurns_85 dX5_compareTurns_4 ?_
      refine lv_icmp_ge (tgt := 53) hx hb dX5_compareTurns_7 rfl (fun c1 => ?_) (fun c1 => ?_)
      · have hrun := p_pos hrun c1
        refine lv_iconst (v := 0) hx hb dX5_compareTurns_53 rfl ?_
        cases hrun
        exact rS_i C hr hlk hQ (nbi _) rfl dX5_compareTurns_54
      · have hrun := p_neg hrun c1
        refine lv_aload_n hx hb dX5_compareTurns_10 rfl (lv_at hl 0 rfl) ?_
        refine gM_at C inm5_compareTurns hK hP fl5_compareTurns_40 dX5_compareTurns_11 ?_
        refine lv_iload_n hx hb dX5_compareTurns_14 rfl (lv_at hl 1 rfl) ?_
        refine lv_iload_n hx hb dX5_compareTurns_15 rfl (lv_at hl 3 rfl) ?_
        refine lv_iadd hx hb dX5_compareTurns_16 ?_
        refine lv_aload_n hx hb dX5_compareTurns_17 rfl (lv_at hl 0 rfl) ?_
        refine gM_size C inm5_compareTurns hK hP fl5_compareTurns_85 dX5_compareTurns_18 ?_
        obtain ⟨z2, hrun⟩ := p_chk hrun
        refine j_irem hx hb dX5_compareTurns_21 z2 ?_
        obtain ⟨b3, hrun⟩ := p_chk hrun
        refine ldM_at C hK hP b3 dX5_compareTurns_22 ?_
        refine lv_aload_n hx hb dX5_compareTurns_23 rfl (lv_at hl 0 rfl) ?_
        refine gM_at C inm5_compareTurns hK hP fl5_compareTurns_40 dX5_compareTurns_24 ?_
        refine lv_iload_n hx hb dX5_compareTurns_27 rfl (lv_at hl 2 rfl) ?_
        refine lv_iload_n hx hb dX5_compareTurns_28 rfl (lv_at hl 3 rfl) ?_
        refine lv_iadd hx hb dX5_compareTurns_29 ?_
        refine lv_aload_n hx hb dX5_compareTurns_30 rfl (lv_at hl 0 rfl) ?_
        refine gM_size C inm5_compareTurns hK hP fl5_compareTurns_85 dX5_compareTurns_31 ?_
        obtain ⟨z4, hrun⟩ := p_chk hrun
        refine j_irem hx hb dX5_compareTurns_34 z4 ?_
        obtain ⟨b5, hrun⟩ := p_chk hrun
        refine ldM_at C hK hP b5 dX5_compareTurns_35 ?_
        refine lv_isub hx hb dX5_compareTurns_36 ?_
        refine lv_istore (lv' := [(4, .int ((v_at (Int32.toNatClampNeg (jrem (x1 + x3) v_size))) - (v_at (Int32.toNatClampNeg (jrem (x2 + x3) v_size))))), (0, .ref h), (1, .int x1), (2, .int x2), (3, .int x3)]) hx hb dX5_compareTurns_37 hl (by decide) rfl (fun ls hl => ?_)
        refine lv_iload hx hb dX5_compareTurns_39 (lv_at hl 0 rfl) ?_
        refine lv_if_eq (tgt := 47) hx hb dX5_compareTurns_41 rfl (fun c6 => ?_) (fun c6 => ?_)
        · have hrun := p_pos hrun c6
          refine lv_iinc (v := x3 + 1) (lv' := [(3, .int (x3 + 1)), (4, .int ((v_at (Int32.toNatClampNeg (jrem (x1 + x3) v_size))) - (v_at (Int32.toNatClampNeg (jrem (x2 + x3) v_size))))), (0, .ref h), (1, .int x1), (2, .int x2)]) hx hb dX5_compareTurns_47 hl (k := 4) rfl rfl (by decide) rfl (fun ls hl => ?_)
          refine lv_goto (tgt := 2) hx hb dX5_compareTurns_50 rfl ?_
          exact ih (x3 + 1) hrun _ (lv_sub hl [2, 3, 4, 0] rfl)
        · have hrun := p_neg hrun c6
          refine lv_iload hx hb dX5_compareTurns_44 (lv_at hl 0 rfl) ?_
          cases hrun
          exact rS_i C hr hlk hQ (nbi _) rfl dX5_compareTurns_46
  unfold P5_compareTurns at hrun
  refine lv_iconst (v := 0) hx hb dX5_compareTurns_0 rfl ?_
  refine lv_istore_n (lv' := [(3, .int 0), (0, .ref h), (1, .int x1), (2, .int x2)]) hx hb dX5_compareTurns_1 rfl hl (by decide) rfl (fun ls hl => ?_)
  exact loop_2 FU 0 hrun _ (lv_sub hl [1, 2, 3, 0] rfl)

abbrev rm5_periodNow : Room := { frames := 1, cells := 0, slots := 0, locals := 24 }
theorem fl5_periodNow_85 : Cond.fieldLink RX5 85 "RiverWordsModel" "size" "I" ∈ wsX5_periodNow := by decide +kernel
theorem inm5_periodNow : ∀ w ∈ wsX50, w ∈ wsX5_periodNow := fun w h => by unfold wsX5_periodNow; first | exact List.mem_cons_of_mem _ (List.mem_append_right _ h) | exact List.mem_cons_of_mem _ h
theorem hd5_periodNow : okD yX5_periodNow 0 := by decide +kernel
set_option maxHeartbeats 8000000 in
set_option maxRecDepth 100000 in
theorem c5_periodNow {res : Int32} (hrun : P5_periodNow v_size v_at = some res) : Met l yX5_periodNow wsX5_periodNow rm5_periodNow (va_Pc [.ref h] (PS D [(cA, .int)] (WM h ad cA v_pageLength v_page v_roads v_lengths v_signs v_wordsRead v_disc v_forms v_formA v_formB v_formC v_nextOf v_cycleOf v_cycles v_firstOf v_newLength v_newSigns v_mayRun v_size v_at v_otherSize v_other v_tableA v_tableB v_tableC v_tableD v_a v_b v_c v_grade v_flowA v_flowB v_flowC v_seedNow v_h))) (vp_Si (fun x => x = res)) 0 0 (fun _ => False) := by
  refine S_in (cc := cX5_periodNow) (maxL := 2) (ret := (some .int)) (by decide) rfl (Nat.le_of_ble_eq_true rfl) ?_
  intro p e s m args below meth c ls Q hQ C hr hlk hK hN hP hl
  have C : CallFix p m c cX5_periodNow 2 s args wsX5_periodNow RX5 := C
  have hx := C.1
  have hb := C.2.1
  have hl : lv_has ls 2 [(0, .ref h)] := hl
  have loop_2 : ∀ (n : Nat) (x1 : Int32) (out : Int32), P5_periodNow_2 v_size v_at n x1 = some out → (∀ (ls : Array Slot), lv_has ls 2 [(1, .int out)] → W p l e rm5_periodNow s m args below meth c s.heap [] 0 0 Q (F0 m 22 ls [])) → ∀ (ls : Array Slot), lv_has ls 2 [(0, .ref h), (1, .int x1)] → W p l e rm5_periodNow s m args below meth c s.heap [] 0 0 Q (F0 m 2 ls []) := by
    intro n
    induction n with
    | zero =>
      intro x1 out hrun K ls hl
      cases hrun
    | succ n ih =>
      intro x1 out hrun K ls hl
      rw [P5_periodNow_2] at hrun
      refine lv_aload_n hx hb dX5_periodNow_2 rfl (lv_at hl 0 rfl) ?_
      refine lv_iload_n hx hb dX5_periodNow_3 rfl (lv_at hl 1 rfl) ?_
      refine lv_aload_n hx hb dX5_periodNow_4 rfl (lv_at hl 0 rfl) ?_
      refine gM_size C inm5_periodNow hK hP fl5_periodNow_85 dX5_periodNow_5 ?_
      obtain ⟨z1, hrun⟩ := p_chk hrun
      refine j_irem hx hb dX5_periodNow_8 z1 ?_
      refine lv_iconst (v := 0) hx hb dX5_periodNow_9 rfl ?_
      obtain ⟨r2, h_r2, hrun⟩ := p_bnd hrun
      refine jVS_i (rest := []) C (c5_compareTurns h_r2) gX5_periodNow_X5_compareTurns hd5_compareTurns hK hN hP rcM rfl ⟨rfl, rfl⟩ ⟨Nat.le_of_ble_eq_true rfl, Nat.le_of_ble_eq_true rfl⟩ rfl hl.1 rfl (Nat.le_of_ble_eq_true rfl) ⟨Nat.le_of_ble_eq_true rfl, Nat.le_of_ble_eq_true rfl⟩ dX5_periodNow_10 ?_
      refine lv_if_eq (tgt := 22) hx hb dX5_periodNow_13 rfl (fun c3 => ?_) (fun c3 => ?_)
      · have hrun := p_pos hrun c3
        cases hrun
        exact K _ (lv_sub hl [1] rfl)
      · have hrun := p_neg hrun c3
        refine lv_iinc (v := x1 + 1) (lv' := [(1, .int (x1 + 1)), (0, .ref h)]) hx hb dX5_periodNow_16 hl (k := 1) rfl rfl (by decide) rfl (fun ls hl => ?_)
        refine lv_goto (tgt := 2) hx hb dX5_periodNow_19 rfl ?_
        exact ih (x1 + 1) out hrun K _ (lv_sub hl [1, 0] rfl)
  unfold P5_periodNow at hrun
  refine lv_iconst (v := 1) hx hb dX5_periodNow_0 rfl ?_
  refine lv_istore_n (lv' := [(1, .int 1), (0, .ref h)]) hx hb dX5_periodNow_1 rfl hl (by decide) rfl (fun ls hl => ?_)
  obtain ⟨o4, h_o4, hrun⟩ := p_bnd hrun
  refine loop_2 FU 1 o4 h_o4 (fun ls hl => ?_) _ (lv_sub hl [1, 0] rfl)
  refine lv_iload_n hx hb dX5_periodNow_22 rfl (lv_at hl 0 rfl) ?_
  cases hrun
  exact rS_i C hr hlk hQ (nbi _) rfl dX5_periodNow_23

abbrev rm5_leastTurnNow : Room := { frames := 1, cells := 0, slots := 0, locals := 24 }
theorem fl5_leastTurnNow_85 : Cond.fieldLink RX5 85 "RiverWordsModel" "size" "I" ∈ wsX5_leastTurnNow := by decide +kernel
theorem inm5_leastTurnNow : ∀ w ∈ wsX50, w ∈ wsX5_leastTurnNow := fun w h => by unfold wsX5_leastTurnNow; first | exact List.mem_cons_of_mem _ (List.mem_append_right _ h) | exact List.mem_cons_of_mem _ h
theorem hd5_leastTurnNow : okD yX5_leastTurnNow 0 := by decide +kernel
set_option maxHeartbeats 8000000 in
set_option maxRecDepth 100000 in
theorem c5_leastTurnNow {res : Int32} (hrun : P5_leastTurnNow v_size v_at = some res) : Met l yX5_leastTurnNow wsX5_leastTurnNow rm5_leastTurnNow (va_Pc [.ref h] (PS D [(cA, .int)] (WM h ad cA v_pageLength v_page v_roads v_lengths v_signs v_wordsRead v_disc v_forms v_formA v_formB v_formC v_nextOf v_cycleOf v_cycles v_firstOf v_newLength v_newSigns v_mayRun v_size v_at v_otherSize v_other v_tableA v_tableB v_tableC v_tableD v_a v_b v_c v_grade v_flowA v_flowB v_flowC v_seedNow v_h))) (vp_Si (fun x => x = res)) 0 0 (fun _ => False) := by
  refine S_in (cc := cX5_leastTurnNow) (maxL := 3) (ret := (some .int)) (by decide) rfl (Nat.le_of_ble_eq_true rfl) ?_
  intro p e s m args below meth c ls Q hQ C hr hlk hK hN hP hl
  have C : CallFix p m c cX5_leastTurnNow 3 s args wsX5_leastTurnNow RX5 := C
  have hx := C.1
  have hb := C.2.1
  have hl : lv_has ls 3 [(0, .ref h)] := hl
  have loop_4 : ∀ (n : Nat) (x1 : Int32) (x2 : Int32) (out : Int32), P5_leastTurnNow_4 v_size v_at n x1 x2 = some out → (∀ (ls : Array Slot), lv_has ls 3 [(1, .int out)] → W p l e rm5_leastTurnNow s m args below meth c s.heap [] 0 0 Q (F0 m 33 ls [])) → ∀ (ls : Array Slot), lv_has ls 3 [(0, .ref h), (1, .int x1), (2, .int x2)] → W p l e rm5_leastTurnNow s m args below meth c s.heap [] 0 0 Q (F0 m 4 ls []) := by
    intro n
    induction n with
    | zero =>
      intro x1 x2 out hrun K ls hl
      cases hrun
    | succ n ih =>
      intro x1 x2 out hrun K ls hl
      rw [P5_leastTurnNow_4] at hrun
      refine lv_iload_n hx hb dX5_leastTurnNow_4 rfl (lv_at hl 2 rfl) ?_
      refine lv_aload_n hx hb dX5_leastTurnNow_5 rfl (lv_at hl 0 rfl) ?_
      refine gM_size C inm5_leastTurnNow hK hP fl5_leastTurnNow_85 dX5_leastTurnNow_6 ?_
      refine lv_icmp_ge (tgt := 33) hx hb dX5_leastTurnNow_9 rfl (fun c1 => ?_) (fun c1 => ?_)
      · have hrun := p_pos hrun c1
        cases hrun
        exact K _ (lv_sub hl [1] rfl)
      · have hrun := p_neg hrun c1
        refine lv_aload_n hx hb dX5_leastTurnNow_12 rfl (lv_at hl 0 rfl) ?_
        refine lv_iload_n hx hb dX5_leastTurnNow_13 rfl (lv_at hl 2 rfl) ?_
        refine lv_iload_n hx hb dX5_leastTurnNow_14 rfl (lv_at hl 1 rfl) ?_
        obtain ⟨r2, h_r2, hrun⟩ := p_bnd hrun
        refine jVS_i (rest := []) C (c5_compareTurns h_r2) gX5_leastTurnNow_X5_compareTurns hd5_compareTurns hK hN hP rcM rfl ⟨rfl, rfl⟩ ⟨Nat.le_of_ble_eq_true rfl, Nat.le_of_ble_eq_true rfl⟩ rfl hl.1 rfl (Nat.le_of_ble_eq_true rfl) ⟨Nat.le_of_ble_eq_true rfl, Nat.le_of_ble_eq_true rfl⟩ dX5_leastTurnNow_15 ?_
        refine lv_if_ge (tgt := 25) hx hb dX5_leastTurnNow_18 rfl (fun c3 => ?_) (fun c3 => ?_)
        · have hrun := p_pos hrun c3
          refine lv_iload_n hx hb dX5_leastTurnNow_25 rfl (lv_at hl 1 rfl) ?_
          refine lv_istore_n (lv' := [(1, .int x1), (0, .ref h), (2, .int x2)]) hx hb dX5_leastTurnNow_26 rfl hl (by decide) rfl (fun ls hl => ?_)
          refine lv_iinc (v := x2 + 1) (lv' := [(2, .int (x2 + 1)), (1, .int x1), (0, .ref h)]) hx hb dX5_leastTurnNow_27 hl (k := 2) rfl rfl (by decide) rfl (fun ls hl => ?_)
          refine lv_goto (tgt := 4) hx hb dX5_leastTurnNow_30 rfl ?_
          exact ih x1 (x2 + 1) out hrun K _ (lv_sub hl [2, 1, 0] rfl)
        · have hrun := p_neg hrun c3
          refine lv_iload_n hx hb dX5_leastTurnNow_21 rfl (lv_at hl 2 rfl) ?_
          refine lv_goto (tgt := 26) hx hb dX5_leastTurnNow_22 rfl ?_
          refine lv_istore_n (lv' := [(1, .int x2), (0, .ref h), (2, .int x2)]) hx hb dX5_leastTurnNow_26 rfl hl (by decide) rfl (fun ls hl => ?_)
          refine lv_iinc (v := x2 + 1) (lv' := [(2, .int (x2 + 1)), (1, .int x2), (0, .ref h)]) hx hb dX5_leastTurnNow_27 hl (k := 2) rfl rfl (by decide) rfl (fun ls hl => ?_)
          refine lv_goto (tgt := 4) hx hb dX5_leastTurnNow_30 rfl ?_
          exact ih x2 (x2 + 1) out hrun K _ (lv_sub hl [2, 1, 0] rfl)
  unfold P5_leastTurnNow at hrun
  refine lv_iconst (v := 0) hx hb dX5_leastTurnNow_0 rfl ?_
  refine lv_istore_n (lv' := [(1, .int 0), (0, .ref h)]) hx hb dX5_leastTurnNow_1 rfl hl (by decide) rfl (fun ls hl => ?_)
  refine lv_iconst (v := 1) hx hb dX5_leastTurnNow_2 rfl ?_
  refine lv_istore_n (lv' := [(2, .int 1), (1, .int 0), (0, .ref h)]) hx hb dX5_leastTurnNow_3 rfl hl (by decide) rfl (fun ls hl => ?_)
  obtain ⟨o4, h_o4, hrun⟩ := p_bnd hrun
  refine loop_4 FU 0 1 o4 h_o4 (fun ls hl => ?_) _ (lv_sub hl [2, 1, 0] rfl)
  refine lv_iload_n hx hb dX5_leastTurnNow_33 rfl (lv_at hl 0 rfl) ?_
  cases hrun
  exact rS_i C hr hlk hQ (nbi _) rfl dX5_leastTurnNow_34

abbrev rm5_turnTo : Room := { frames := 0, cells := 0, slots := 0, locals := 0 }
theorem fl5_turnTo_40 : Cond.fieldLink RX5 40 "RiverWordsModel" "at" "[I" ∈ wsX5_turnTo := by decide +kernel
theorem fl5_turnTo_43 : Cond.fieldLink RX5 43 "RiverWordsModel" "other" "[I" ∈ wsX5_turnTo := by decide +kernel
theorem fl5_turnTo_85 : Cond.fieldLink RX5 85 "RiverWordsModel" "size" "I" ∈ wsX5_turnTo := by decide +kernel
theorem fl5_turnTo_103 : Cond.fieldLink RX5 103 "RiverWordsModel" "otherSize" "I" ∈ wsX5_turnTo := by decide +kernel
theorem k5_turnTo_106 : Cond.constant RX5 106 (-2000000001) ∈ wsX5_turnTo := by decide +kernel
theorem inm5_turnTo : ∀ w ∈ wsX50, w ∈ wsX5_turnTo := fun w h => by unfold wsX5_turnTo; first | exact List.mem_cons_of_mem _ (List.mem_append_right _ h) | exact List.mem_cons_of_mem _ h
theorem hd5_turnTo : okD yX5_turnTo 0 := by decide +kernel
set_option maxHeartbeats 8000000 in
set_option maxRecDepth 100000 in
theorem c5_turnTo {res : Int32} (hrun : P5_turnTo v_size v_at v_otherSize v_other = some res) : Met l yX5_turnTo wsX5_turnTo rm5_turnTo (va_Pc [.ref h] (PS D [(cA, .int)] (WM h ad cA v_pageLength v_page v_roads v_lengths v_signs v_wordsRead v_disc v_forms v_formA v_formB v_formC v_nextOf v_cycleOf v_cycles v_firstOf v_newLength v_newSigns v_mayRun v_size v_at v_otherSize v_other v_tableA v_tableB v_tableC v_tableD v_a v_b v_c v_grade v_flowA v_flowB v_flowC v_seedNow v_h))) (vp_Si (fun x => x = res)) 0 0 (fun _ => False) := by
  refine S_in (cc := cX5_turnTo) (maxL := 4) (ret := (some .int)) (by decide) rfl (Nat.le_of_ble_eq_true rfl) ?_
  intro p e s m args below meth c ls Q hQ C hr hlk hK hN hP hl
  have C : CallFix p m c cX5_turnTo 4 s args wsX5_turnTo RX5 := C
  have hx := C.1
  have hb := C.2.1
  have hl : lv_has ls 4 [(0, .ref h)] := hl
  have loop_25 : ∀ (x1 : Int32) (n : Nat) (x2 : Int32) (x3 : Int32) (out : Int32), P5_turnTo_25 v_size v_at v_other x1 n x2 x3 = some out → (∀ (ls : Array Slot), lv_has ls 4 [(0, .ref h), (1, .int x1), (2, .int out)] → W p l e rm5_turnTo s m args below meth c s.heap [] 0 0 Q (F0 m 71 ls [])) → ∀ (ls : Array Slot), lv_has ls 4 [(0, .ref h), (1, .int x1), (2, .int x2), (3, .int x3)] → W p l e rm5_turnTo s m args below meth c s.heap [] 0 0 Q (F0 m 25 ls []) := by
    intro x1 n
    induction n with
    | zero =>
      intro x2 x3 out hrun K ls hl
      cases hrun
    | succ n ih =>
      intro x2 x3 out hrun K ls hl
      rw [P5_turnTo_25] at hrun
      refine lv_iload_n hx hb dX5_turnTo_25 rfl (lv_at hl 3 rfl) ?_
      refine lv_aload_n hx hb dX5_turnTo_26 rfl (lv_at hl 0 rfl) ?_
      refine gM_size C inm5_turnTo hK hP fl5_turnTo_85 dX5_turnTo_27 ?_
      refine lv_icmp_ge (tgt := 71) hx hb dX5_turnTo_30 rfl (fun c3 => ?_) (fun c3 => ?_)
      · have hrun := p_pos hrun c3
        cases hrun
        exact K _ (lv_sub hl [0, 1, 2] rfl)
      · have hrun := p_neg hrun c3
        refine lv_iload_n hx hb dX5_turnTo_33 rfl (lv_at hl 2 rfl) ?_
        refine lv_if_eq (tgt := 63) hx hb dX5_turnTo_34 rfl (fun c4 => ?_) (fun c4 => ?_)
        · have hrun := p_pos hrun c4
          refine lv_iconst (v := 0) hx hb dX5_turnTo_63 rfl ?_
          refine lv_istore_n (lv' := [(2, .int 0), (0, .ref h), (1, .int x1), (3, .int x3)]) hx hb dX5_turnTo_64 rfl hl (by decide) rfl (fun ls hl => ?_)
          refine lv_iinc (v := x3 + 1) (lv' := [(3, .int (x3 + 1)), (2, .int 0), (0, .ref h), (1, .int x1)]) hx hb dX5_turnTo_65 hl (k := 3) rfl rfl (by decide) rfl (fun ls hl => ?_)
          refine lv_goto (tgt := 25) hx hb dX5_turnTo_68 rfl ?_
          exact ih 0 (x3 + 1) out hrun K _ (lv_sub hl [2, 3, 1, 0] rfl)
        · have hrun := p_neg hrun c4
          refine lv_aload_n hx hb dX5_turnTo_37 rfl (lv_at hl 0 rfl) ?_
          refine gM_at C inm5_turnTo hK hP fl5_turnTo_40 dX5_turnTo_38 ?_
          refine lv_iload_n hx hb dX5_turnTo_41 rfl (lv_at hl 1 rfl) ?_
          refine lv_iload_n hx hb dX5_turnTo_42 rfl (lv_at hl 3 rfl) ?_
          refine lv_iadd hx hb dX5_turnTo_43 ?_
          refine lv_aload_n hx hb dX5_turnTo_44 rfl (lv_at hl 0 rfl) ?_
          refine gM_size C inm5_turnTo hK hP fl5_turnTo_85 dX5_turnTo_45 ?_
          obtain ⟨z5, hrun⟩ := p_chk hrun
          refine j_irem hx hb dX5_turnTo_48 z5 ?_
          obtain ⟨b6, hrun⟩ := p_chk hrun
          refine ldM_at C hK hP b6 dX5_turnTo_49 ?_
          refine lv_aload_n hx hb dX5_turnTo_50 rfl (lv_at hl 0 rfl) ?_
          refine gM_other C inm5_turnTo hK hP fl5_turnTo_43 dX5_turnTo_51 ?_
          refine lv_iload_n hx hb dX5_turnTo_54 rfl (lv_at hl 3 rfl) ?_
          obtain ⟨b7, hrun⟩ := p_chk hrun
          refine ldM_other C hK hP b7 dX5_turnTo_55 ?_
          refine lv_icmp_ne (tgt := 63) hx hb dX5_turnTo_56 rfl (fun c8 => ?_) (fun c8 => ?_)
          · have hrun := p_neg hrun c8
            refine lv_iconst (v := 0) hx hb dX5_turnTo_63 rfl ?_
            refine lv_istore_n (lv' := [(2, .int 0), (0, .ref h), (1, .int x1), (3, .int x3)]) hx hb dX5_turnTo_64 rfl hl (by decide) rfl (fun ls hl => ?_)
            refine lv_iinc (v := x3 + 1) (lv' := [(3, .int (x3 + 1)), (2, .int 0), (0, .ref h), (1, .int x1)]) hx hb dX5_turnTo_65 hl (k := 3) rfl rfl (by decide) rfl (fun ls hl => ?_)
            refine lv_goto (tgt := 25) hx hb dX5_turnTo_68 rfl ?_
            exact ih 0 (x3 + 1) out hrun K _ (lv_sub hl [2, 3, 1, 0] rfl)
          · have hrun := p_pos hrun c8
            refine lv_iconst (v := 1) hx hb dX5_turnTo_59 rfl ?_
            refine lv_goto (tgt := 64) hx hb dX5_turnTo_60 rfl ?_
            refine lv_istore_n (lv' := [(2, .int 1), (0, .ref h), (1, .int x1), (3, .int x3)]) hx hb dX5_turnTo_64 rfl hl (by decide) rfl (fun ls hl => ?_)
            refine lv_iinc (v := x3 + 1) (lv' := [(3, .int (x3 + 1)), (2, .int 1), (0, .ref h), (1, .int x1)]) hx hb dX5_turnTo_65 hl (k := 3) rfl rfl (by decide) rfl (fun ls hl => ?_)
            refine lv_goto (tgt := 25) hx hb dX5_turnTo_68 rfl ?_
            exact ih 1 (x3 + 1) out hrun K _ (lv_sub hl [2, 3, 1, 0] rfl)
  have loop_2 : ∀ (n : Nat) (x1 : Int32), P5_turnTo_2 v_size v_at v_otherSize v_other n x1 = some res → ∀ (ls : Array Slot), lv_has ls 4 [(0, .ref h), (1, .int x1)] → W p l e rm5_turnTo s m args below meth c s.heap [] 0 0 Q (F0 m 2 ls []) := by
    intro n
    induction n with
    | zero =>
      intro x1 hrun ls hl
      cases hrun
    | succ n ih =>
      intro x1 hrun ls hl
      rw [P5_turnTo_2] at hrun
      refine lv_iload_n hx hb dX5_turnTo_2 rfl (lv_at hl 1 rfl) ?_
      refine lv_aload_n hx hb dX5_turnTo_3 rfl (lv_at hl 0 rfl) ?_
      refine gM_size C inm5_turnTo hK hP fl5_turnTo_85 dX5_turnTo_4 ?_
      refine lv_icmp_ge (tgt := 83) hx hb dX5_turnTo_7 rfl (fun c1 => ?_) (fun c1 => ?_)
      · have hrun := p_pos hrun c1
        refine lv_ldc (v := (-2000000001)) hx hb C.2.2.2.1 (C.2.2.2.2 _ k5_turnTo_106) dX5_turnTo_83 ?_
        cases hrun
        exact rS_i C hr hlk hQ (nbi _) rfl dX5_turnTo_85
      · have hrun := p_neg hrun c1
        refine lv_aload_n hx hb dX5_turnTo_10 rfl (lv_at hl 0 rfl) ?_
        refine gM_size C inm5_turnTo hK hP fl5_turnTo_85 dX5_turnTo_11 ?_
        refine lv_aload_n hx hb dX5_turnTo_14 rfl (lv_at hl 0 rfl) ?_
        refine gM_otherSize C inm5_turnTo hK hP fl5_turnTo_103 dX5_turnTo_15 ?_
        refine lv_icmp_ne (tgt := 83) hx hb dX5_turnTo_18 rfl (fun c2 => ?_) (fun c2 => ?_)
        · have hrun := p_neg hrun c2
          refine lv_ldc (v := (-2000000001)) hx hb C.2.2.2.1 (C.2.2.2.2 _ k5_turnTo_106) dX5_turnTo_83 ?_
          cases hrun
          exact rS_i C hr hlk hQ (nbi _) rfl dX5_turnTo_85
        · have hrun := p_pos hrun c2
          refine lv_iconst (v := 1) hx hb dX5_turnTo_21 rfl ?_
          refine lv_istore_n (lv' := [(2, .int 1), (0, .ref h), (1, .int x1)]) hx hb dX5_turnTo_22 rfl hl (by decide) rfl (fun ls hl => ?_)
          refine lv_iconst (v := 0) hx hb dX5_turnTo_23 rfl ?_
          refine lv_istore_n (lv' := [(3, .int 0), (2, .int 1), (0, .ref h), (1, .int x1)]) hx hb dX5_turnTo_24 rfl hl (by decide) rfl (fun ls hl => ?_)
          obtain ⟨o9, h_o9, hrun⟩ := p_bnd hrun
          refine loop_25 x1 FU 1 0 o9 h_o9 (fun ls hl => ?_) _ (lv_sub hl [2, 3, 1, 0] rfl)
          refine lv_iload_n hx hb dX5_turnTo_71 rfl (lv_at hl 2 rfl) ?_
          refine lv_if_eq (tgt := 77) hx hb dX5_turnTo_72 rfl (fun c10 => ?_) (fun c10 => ?_)
          · have hrun := p_pos hrun c10
            refine lv_iinc (v := x1 + 1) (lv' := [(1, .int (x1 + 1)), (0, .ref h), (2, .int o9)]) hx hb dX5_turnTo_77 hl (k := 1) rfl rfl (by decide) rfl (fun ls hl => ?_)
            refine lv_goto (tgt := 2) hx hb dX5_turnTo_80 rfl ?_
            exact ih (x1 + 1) hrun _ (lv_sub hl [1, 0] rfl)
          · have hrun := p_neg hrun c10
            refine lv_iload_n hx hb dX5_turnTo_75 rfl (lv_at hl 1 rfl) ?_
            cases hrun
            exact rS_i C hr hlk hQ (nbi _) rfl dX5_turnTo_76
  unfold P5_turnTo at hrun
  refine lv_iconst (v := 0) hx hb dX5_turnTo_0 rfl ?_
  refine lv_istore_n (lv' := [(1, .int 0), (0, .ref h)]) hx hb dX5_turnTo_1 rfl hl (by decide) rfl (fun ls hl => ?_)
  exact loop_2 FU 0 hrun _ (lv_sub hl [1, 0] rfl)

end M51
