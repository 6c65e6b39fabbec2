section M514
variable {l : Launch} {D : va_G} {sz : Nat}
variable {h : Nat} {ad : Nat → Nat} {cA : ClassId}
variable {v_pageLength v_roads v_wordsRead v_disc v_forms v_cycles v_newLength v_mayRun v_size v_otherSize v_tableA v_tableB v_tableC v_tableD v_a v_b v_c v_grade v_flowA v_flowB v_flowC : Int32}
variable {v_seedNow v_h : Int64}
variable {v_page v_lengths v_signs v_formA v_formB v_formC v_nextOf v_cycleOf v_firstOf v_newSigns v_at v_other : Nat → Int32}
abbrev rm5_mixCrossings : Room := { frames := 3, cells := 0, slots := 0, locals := 71 }
theorem fl5_mixCrossings_75 : Cond.fieldLink RX5 75 "RiverWordsModel" "roads" "I" ∈ wsX5_mixCrossings := by decide +kernel
theorem inm5_mixCrossings : ∀ w ∈ wsX50, w ∈ wsX5_mixCrossings := fun w h => by unfold wsX5_mixCrossings; first | exact List.mem_cons_of_mem _ (List.mem_append_right _ h) | exact List.mem_cons_of_mem _ h
theorem hd5_mixCrossings : okD yX5_mixCrossings 0 := by decide +kernel
set_option maxHeartbeats 8000000 in
set_option maxRecDepth 100000 in
theorem c5_mixCrossings {res : Int32 × (Nat → Int32) × Int32 × (Nat → Int32) × Int64} (hrun : P5_mixCrossings v_roads v_lengths v_signs v_size v_at v_otherSize v_other v_h = some res) : Met l yX5_mixCrossings wsX5_mixCrossings rm5_mixCrossings (va_Pc [.ref h] (PE D [(cA, .int)] sz (WM0 h ad cA) (WM h ad cA v_pageLength v_page v_roads v_lengths v_signs v_wordsRead v_disc v_forms v_formA v_formB v_formC v_nextOf v_cycleOf v_cycles v_firstOf v_newLength v_newSigns v_mayRun v_size v_at v_otherSize v_other v_tableA v_tableB v_tableC v_tableD v_a v_b v_c v_grade v_flowA v_flowB v_flowC v_seedNow v_h))) (va_Qv (fun _ : Unit => True) (fun _ t => va_P D vwCl (WM h ad cA v_pageLength v_page v_roads v_lengths v_signs v_wordsRead v_disc v_forms v_formA v_formB v_formC v_nextOf v_cycleOf v_cycles v_firstOf v_newLength v_newSigns v_mayRun res.1 res.2.1 res.2.2.1 res.2.2.2.1 v_tableA v_tableB v_tableC v_tableD v_a v_b v_c v_grade v_flowA v_flowB v_flowC v_seedNow res.2.2.2.2) t.heap) (va_A (WM0 h ad cA) sz)) 0 0 (va_A (WM0 h ad cA) sz) := by
  refine E_in (cc := cX5_mixCrossings) (maxL := 3) (ret := none) (by decide) rfl (Nat.le_of_ble_eq_true rfl) ?_
  intro p e s m args below meth c ls Q hQ C hr hlk hK hN hD hA I hl
  have C : CallFix p m c cX5_mixCrossings 3 s args wsX5_mixCrossings RX5 := C
  have hx := C.1
  have hb := C.2.1
  have hl : lv_has ls 3 [(0, .ref h)] := hl
  have loop_12 : ∀ (x1 : Int32) (n : Nat) (v_size : Int32) (v_at : Nat → Int32) (v_otherSize : Int32) (v_other : Nat → Int32) (v_h : Int64) (x2 : Int32) (out : Int32 × (Nat → Int32) × Int32 × (Nat → Int32) × Int64), P5_mixCrossings_12 v_roads v_lengths v_signs x1 n v_size v_at v_otherSize v_other v_h x2 = some out → (∀ (H : Heap) (locs : List Loc) (ls : Array Slot), IM D (va_A (WM0 h ad cA) sz) s.heap H locs (WM h ad cA v_pageLength v_page v_roads v_lengths v_signs v_wordsRead v_disc v_forms v_formA v_formB v_formC v_nextOf v_cycleOf v_cycles v_firstOf v_newLength v_newSigns v_mayRun out.1 out.2.1 out.2.2.1 out.2.2.2.1 v_tableA v_tableB v_tableC v_tableD v_a v_b v_c v_grade v_flowA v_flowB v_flowC v_seedNow out.2.2.2.2) → lv_has ls 3 [(0, .ref h), (1, .int x1)] → W p l e rm5_mixCrossings s m args below meth c H locs 0 0 Q (F0 m 53 ls [])) → ∀ (H : Heap) (locs : List Loc) (ls : Array Slot), IM D (va_A (WM0 h ad cA) sz) s.heap H locs (WM h ad cA v_pageLength v_page v_roads v_lengths v_signs v_wordsRead v_disc v_forms v_formA v_formB v_formC v_nextOf v_cycleOf v_cycles v_firstOf v_newLength v_newSigns v_mayRun v_size v_at v_otherSize v_other v_tableA v_tableB v_tableC v_tableD v_a v_b v_c v_grade v_flowA v_flowB v_flowC v_seedNow v_h) → lv_has ls 3 [(0, .ref h), (1, .int x1), (2, .int x2)] → W p l e rm5_mixCrossings s m args below meth c H locs 0 0 Q (F0 m 12 ls []) := by
    intro x1 n
    induction n with
    | zero =>
      intro v_size v_at v_otherSize v_other v_h x2 out hrun K H locs ls I hl
      cases hrun
    | succ n ih =>
      intro v_size v_at v_otherSize v_other v_h x2 out hrun K H locs ls I hl
      rw [P5_mixCrossings_12] at hrun
      refine lv_iload_n hx hb dX5_mixCrossings_12 rfl (lv_at hl 2 rfl) ?_
      refine lv_aload_n hx hb dX5_mixCrossings_13 rfl (lv_at hl 0 rfl) ?_
      refine gM_roads C inm5_mixCrossings hK I.1 fl5_mixCrossings_75 dX5_mixCrossings_14 ?_
      refine lv_icmp_ge (tgt := 53) hx hb dX5_mixCrossings_17 rfl (fun c2 => ?_) (fun c2 => ?_)
      · have hrun := p_pos hrun c2
        cases hrun
        exact K _ _ _ I (lv_sub hl [0, 1] rfl)
      · have hrun := p_neg hrun c2
        refine lv_aload_n hx hb dX5_mixCrossings_20 rfl (lv_at hl 0 rfl) ?_
        refine lv_iload_n hx hb dX5_mixCrossings_21 rfl (lv_at hl 1 rfl) ?_
        obtain ⟨r3, h_r3, hrun⟩ := p_bnd hrun
        refine jVE_i (rest := []) C (c5_isClosed h_r3) gX5_mixCrossings_X5_isClosed hd5_isClosed hK hN hD hA I rcM rfl ⟨rfl, rfl⟩ ⟨Nat.le_of_ble_eq_true rfl, Nat.le_of_ble_eq_true rfl⟩ rfl hl.1 rfl (Nat.le_of_ble_eq_true rfl) ⟨Nat.le_of_ble_eq_true rfl, Nat.le_of_ble_eq_true rfl⟩ dX5_mixCrossings_22 (fun H locs I => ?_)
        refine lv_if_eq (tgt := 47) hx hb dX5_mixCrossings_25 rfl (fun c4 => ?_) (fun c4 => ?_)
        · have hrun := p_pos hrun c4
          refine lv_iinc (v := x2 + 1) (lv' := [(2, .int (x2 + 1)), (0, .ref h), (1, .int x1)]) hx hb dX5_mixCrossings_47 hl (k := 2) rfl rfl (by decide) rfl (fun ls hl => ?_)
          refine lv_goto (tgt := 12) hx hb dX5_mixCrossings_50 rfl ?_
          exact ih r3.2.1 r3.2.2 v_otherSize v_other v_h (x2 + 1) out hrun K _ _ _ I (lv_sub hl [1, 2, 0] rfl)
        · have hrun := p_neg hrun c4
          refine lv_aload_n hx hb dX5_mixCrossings_28 rfl (lv_at hl 0 rfl) ?_
          refine lv_iload_n hx hb dX5_mixCrossings_29 rfl (lv_at hl 2 rfl) ?_
          obtain ⟨r5, h_r5, hrun⟩ := p_bnd hrun
          refine jVE_i (rest := []) C (c5_isClosed h_r5) gX5_mixCrossings_X5_isClosed hd5_isClosed hK hN hD hA I rcM rfl ⟨rfl, rfl⟩ ⟨Nat.le_of_ble_eq_true rfl, Nat.le_of_ble_eq_true rfl⟩ rfl hl.1 rfl (Nat.le_of_ble_eq_true rfl) ⟨Nat.le_of_ble_eq_true rfl, Nat.le_of_ble_eq_true rfl⟩ dX5_mixCrossings_30 (fun H locs I => ?_)
          refine lv_if_eq (tgt := 47) hx hb dX5_mixCrossings_33 rfl (fun c6 => ?_) (fun c6 => ?_)
          · have hrun := p_pos hrun c6
            refine lv_iinc (v := x2 + 1) (lv' := [(2, .int (x2 + 1)), (0, .ref h), (1, .int x1)]) hx hb dX5_mixCrossings_47 hl (k := 2) rfl rfl (by decide) rfl (fun ls hl => ?_)
            refine lv_goto (tgt := 12) hx hb dX5_mixCrossings_50 rfl ?_
            exact ih r5.2.1 r5.2.2 v_otherSize v_other v_h (x2 + 1) out hrun K _ _ _ I (lv_sub hl [1, 2, 0] rfl)
          · have hrun := p_neg hrun c6
            refine lv_aload_n hx hb dX5_mixCrossings_36 rfl (lv_at hl 0 rfl) ?_
            refine lv_aload_n hx hb dX5_mixCrossings_37 rfl (lv_at hl 0 rfl) ?_
            refine lv_iload_n hx hb dX5_mixCrossings_38 rfl (lv_at hl 1 rfl) ?_
            refine lv_iload_n hx hb dX5_mixCrossings_39 rfl (lv_at hl 2 rfl) ?_
            obtain ⟨r7, h_r7, hrun⟩ := p_bnd hrun
            refine jVE_i (rest := [.ref h]) C (c5_crossings h_r7) gX5_mixCrossings_X5_crossings hd5_crossings hK hN hD hA I rcM rfl ⟨rfl, rfl⟩ ⟨Nat.le_of_ble_eq_true rfl, Nat.le_of_ble_eq_true rfl⟩ rfl hl.1 rfl (Nat.le_of_ble_eq_true rfl) ⟨Nat.le_of_ble_eq_true rfl, Nat.le_of_ble_eq_true rfl⟩ dX5_mixCrossings_40 (fun H locs I => ?_)
            refine lv_i2l (v := Int32.toInt64 r7.1) hx hb dX5_mixCrossings_43 rfl ?_
            obtain ⟨r8, h_r8, hrun⟩ := p_bnd hrun
            refine jVE_v (rest := []) C (c5_mix h_r8) gX5_mixCrossings_X5_mix hd5_mix hK hN hD hA I rcM rfl ⟨rfl, rfl⟩ ⟨Nat.le_of_ble_eq_true rfl, Nat.le_of_ble_eq_true rfl⟩ rfl hl.1 rfl (Nat.le_of_ble_eq_true rfl) ⟨Nat.le_of_ble_eq_true rfl, Nat.le_of_ble_eq_true rfl⟩ dX5_mixCrossings_44 (fun H locs I => ?_)
            refine lv_iinc (v := x2 + 1) (lv' := [(2, .int (x2 + 1)), (0, .ref h), (1, .int x1)]) hx hb dX5_mixCrossings_47 hl (k := 2) rfl rfl (by decide) rfl (fun ls hl => ?_)
            refine lv_goto (tgt := 12) hx hb dX5_mixCrossings_50 rfl ?_
            exact ih r7.2.1 r7.2.2.1 r7.2.2.2.1 r7.2.2.2.2 r8 (x2 + 1) out hrun K _ _ _ I (lv_sub hl [1, 2, 0] rfl)
  have loop_2 : ∀ (n : Nat) (v_size : Int32) (v_at : Nat → Int32) (v_otherSize : Int32) (v_other : Nat → Int32) (v_h : Int64) (x1 : Int32) (out : Int32 × (Nat → Int32) × Int32 × (Nat → Int32) × Int64), P5_mixCrossings_2 v_roads v_lengths v_signs n v_size v_at v_otherSize v_other v_h x1 = some out → (∀ (H : Heap) (locs : List Loc) (ls : Array Slot), IM D (va_A (WM0 h ad cA) sz) s.heap H locs (WM h ad cA v_pageLength v_page v_roads v_lengths v_signs v_wordsRead v_disc v_forms v_formA v_formB v_formC v_nextOf v_cycleOf v_cycles v_firstOf v_newLength v_newSigns v_mayRun out.1 out.2.1 out.2.2.1 out.2.2.2.1 v_tableA v_tableB v_tableC v_tableD v_a v_b v_c v_grade v_flowA v_flowB v_flowC v_seedNow out.2.2.2.2) → lv_has ls 3 [] → W p l e rm5_mixCrossings s m args below meth c H locs 0 0 Q (F0 m 59 ls [])) → ∀ (H : Heap) (locs : List Loc) (ls : Array Slot), IM D (va_A (WM0 h ad cA) sz) s.heap H locs (WM h ad cA v_pageLength v_page v_roads v_lengths v_signs v_wordsRead v_disc v_forms v_formA v_formB v_formC v_nextOf v_cycleOf v_cycles v_firstOf v_newLength v_newSigns v_mayRun v_size v_at v_otherSize v_other v_tableA v_tableB v_tableC v_tableD v_a v_b v_c v_grade v_flowA v_flowB v_flowC v_seedNow v_h) → lv_has ls 3 [(0, .ref h), (1, .int x1)] → W p l e rm5_mixCrossings s m args below meth c H locs 0 0 Q (F0 m 2 ls []) := by
    intro n
    induction n with
    | zero =>
      intro v_size v_at v_otherSize v_other v_h x1 out hrun K H locs ls I hl
      cases hrun
    | succ n ih =>
      intro v_size v_at v_otherSize v_other v_h x1 out hrun K H locs ls I hl
      rw [P5_mixCrossings_2] at hrun
      refine lv_iload_n hx hb dX5_mixCrossings_2 rfl (lv_at hl 1 rfl) ?_
      refine lv_aload_n hx hb dX5_mixCrossings_3 rfl (lv_at hl 0 rfl) ?_
      refine gM_roads C inm5_mixCrossings hK I.1 fl5_mixCrossings_75 dX5_mixCrossings_4 ?_
      refine lv_icmp_ge (tgt := 59) hx hb dX5_mixCrossings_7 rfl (fun c1 => ?_) (fun c1 => ?_)
      · have hrun := p_pos hrun c1
        cases hrun
        exact K _ _ _ I (lv_sub hl [] rfl)
      · have hrun := p_neg hrun c1
        refine lv_iload_n hx hb dX5_mixCrossings_10 rfl (lv_at hl 1 rfl) ?_
        refine lv_istore_n (lv' := [(2, .int x1), (0, .ref h), (1, .int x1)]) hx hb dX5_mixCrossings_11 rfl hl (by decide) rfl (fun ls hl => ?_)
        obtain ⟨o9, h_o9, hrun⟩ := p_bnd hrun
        refine loop_12 x1 FU v_size v_at v_otherSize v_other v_h x1 o9 h_o9 (fun H locs ls I hl => ?_) _ _ _ I (lv_sub hl [1, 2, 0] rfl)
        refine lv_iinc (v := x1 + 1) (lv' := [(1, .int (x1 + 1)), (0, .ref h)]) hx hb dX5_mixCrossings_53 hl (k := 1) rfl rfl (by decide) rfl (fun ls hl => ?_)
        refine lv_goto (tgt := 2) hx hb dX5_mixCrossings_56 rfl ?_
        exact ih o9.1 o9.2.1 o9.2.2.1 o9.2.2.2.1 o9.2.2.2.2 (x1 + 1) out hrun K _ _ _ I (lv_sub hl [1, 0] rfl)
  unfold P5_mixCrossings at hrun
  refine lv_iconst (v := 0) hx hb dX5_mixCrossings_0 rfl ?_
  refine lv_istore_n (lv' := [(1, .int 0), (0, .ref h)]) hx hb dX5_mixCrossings_1 rfl hl (by decide) rfl (fun ls hl => ?_)
  obtain ⟨o10, h_o10, hrun⟩ := p_bnd hrun
  refine loop_2 FU v_size v_at v_otherSize v_other v_h 0 o10 h_o10 (fun H locs ls I hl => ?_) _ _ _ I (lv_sub hl [1, 0] rfl)
  cases hrun
  exact rE_v C hr hlk hQ I dX5_mixCrossings_59

abbrev rm5_mixRiver : Room := { frames := 3, cells := 0, slots := 0, locals := 69 }
theorem fl5_mixRiver_212 : Cond.fieldLink RX5 212 "RiverWordsModel" "forms" "I" ∈ wsX5_mixRiver := by decide +kernel
theorem fl5_mixRiver_224 : Cond.fieldLink RX5 224 "RiverWordsModel" "cycles" "I" ∈ wsX5_mixRiver := by decide +kernel
theorem inm5_mixRiver : ∀ w ∈ wsX50, w ∈ wsX5_mixRiver := fun w h => by unfold wsX5_mixRiver; first | exact List.mem_cons_of_mem _ (List.mem_append_right _ h) | exact List.mem_cons_of_mem _ h
theorem hd5_mixRiver : okD yX5_mixRiver 0 := by decide +kernel
set_option maxHeartbeats 8000000 in
set_option maxRecDepth 100000 in
theorem c5_mixRiver {res : Int64} (hrun : P5_mixRiver v_forms v_formA v_formB v_formC v_nextOf v_cycleOf v_cycles v_firstOf v_h = some res) : Met l yX5_mixRiver wsX5_mixRiver rm5_mixRiver (va_Pc [.ref h] (PE D [(cA, .int)] sz (WM0 h ad cA) (WM h ad cA v_pageLength v_page v_roads v_lengths v_signs v_wordsRead v_disc v_forms v_formA v_formB v_formC v_nextOf v_cycleOf v_cycles v_firstOf v_newLength v_newSigns v_mayRun v_size v_at v_otherSize v_other v_tableA v_tableB v_tableC v_tableD v_a v_b v_c v_grade v_flowA v_flowB v_flowC v_seedNow v_h))) (va_Qv (fun _ : Unit => True) (fun _ t => va_P D vwCl (WM h ad cA v_pageLength v_page v_roads v_lengths v_signs v_wordsRead v_disc v_forms v_formA v_formB v_formC v_nextOf v_cycleOf v_cycles v_firstOf v_newLength v_newSigns v_mayRun v_size v_at v_otherSize v_other v_tableA v_tableB v_tableC v_tableD v_a v_b v_c v_grade v_flowA v_flowB v_flowC v_seedNow res) t.heap) (va_A (WM0 h ad cA) sz)) 0 0 (va_A (WM0 h ad cA) sz) := by
  refine E_in (cc := cX5_mixRiver) (maxL := 3) (ret := none) (by decide) rfl (Nat.le_of_ble_eq_true rfl) ?_
  intro p e s m args below meth c ls Q hQ C hr hlk hK hN hD hA I hl
  have C : CallFix p m c cX5_mixRiver 3 s args wsX5_mixRiver RX5 := C
  have hx := C.1
  have hb := C.2.1
  have hl : lv_has ls 3 [(0, .ref h)] := hl
  have loop_2 : ∀ (n : Nat) (v_h : Int64) (x1 : Int32) (out : Int64), P5_mixRiver_2 v_forms v_formA v_formB v_formC v_nextOf v_cycleOf n v_h x1 = some out → (∀ (H : Heap) (locs : List Loc) (ls : Array Slot), IM D (va_A (WM0 h ad cA) sz) s.heap H locs (WM h ad cA v_pageLength v_page v_roads v_lengths v_signs v_wordsRead v_disc v_forms v_formA v_formB v_formC v_nextOf v_cycleOf v_cycles v_firstOf v_newLength v_newSigns v_mayRun v_size v_at v_otherSize v_other v_tableA v_tableB v_tableC v_tableD v_a v_b v_c v_grade v_flowA v_flowB v_flowC v_seedNow out) → lv_has ls 3 [(0, .ref h)] → W p l e rm5_mixRiver s m args below meth c H locs 0 0 Q (F0 m 36 ls [])) → ∀ (H : Heap) (locs : List Loc) (ls : Array Slot), IM D (va_A (WM0 h ad cA) sz) s.heap H locs (WM h ad cA v_pageLength v_page v_roads v_lengths v_signs v_wordsRead v_disc v_forms v_formA v_formB v_formC v_nextOf v_cycleOf v_cycles v_firstOf v_newLength v_newSigns v_mayRun v_size v_at v_otherSize v_other v_tableA v_tableB v_tableC v_tableD v_a v_b v_c v_grade v_flowA v_flowB v_flowC v_seedNow v_h) → lv_has ls 3 [(0, .ref h), (1, .int x1)] → W p l e rm5_mixRiver s m args below meth c H locs 0 0 Q (F0 m 2 ls []) := by
    intro n
    induction n with
    | zero =>
      intro v_h x1 out hrun K H locs ls I hl
      cases hrun
    | succ n ih =>
      intro v_h x1 out hrun K H locs ls I hl
      rw [P5_mixRiver_2] at hrun
      refine lv_iload_n hx hb dX5_mixRiver_2 rfl (lv_at hl 1 rfl) ?_
      refine lv_bipush (v := 8) hx hb dX5_mixRiver_3 rfl ?_
      refine lv_aload_n hx hb dX5_mixRiver_5 rfl (lv_at hl 0 rfl) ?_
      refine gM_forms C inm5_mixRiver hK I.1 fl5_mixRiver_212 dX5_mixRiver_6 ?_
      refine lv_imul hx hb dX5_mixRiver_9 ?_
      refine lv_icmp_ge (tgt := 36) hx hb dX5_mixRiver_10 rfl (fun c1 => ?_) (fun c1 => ?_)
      · have hrun := p_pos hrun c1
        cases hrun
        exact K _ _ _ I (lv_sub hl [0] rfl)
      · have hrun := p_neg hrun c1
        refine lv_aload_n hx hb dX5_mixRiver_13 rfl (lv_at hl 0 rfl) ?_
        refine lv_aload_n hx hb dX5_mixRiver_14 rfl (lv_at hl 0 rfl) ?_
        refine lv_iload_n hx hb dX5_mixRiver_15 rfl (lv_at hl 1 rfl) ?_
        refine lv_bipush (v := 8) hx hb dX5_mixRiver_16 rfl ?_
        refine lv_idiv hx hb dX5_mixRiver_18 (by decide) ?_
        refine lv_iload_n hx hb dX5_mixRiver_19 rfl (lv_at hl 1 rfl) ?_
        refine lv_bipush (v := 8) hx hb dX5_mixRiver_20 rfl ?_
        refine j_irem hx hb dX5_mixRiver_22 (by decide) ?_
        obtain ⟨r2, h_r2, hrun⟩ := p_bnd hrun
        refine jVS_i (rest := [.ref h]) C (c5_simpleNow h_r2) gX5_mixRiver_X5_simpleNow hd5_simpleNow hK hN I.1 rcM rfl ⟨rfl, rfl⟩ ⟨Nat.le_of_ble_eq_true rfl, Nat.le_of_ble_eq_true rfl⟩ rfl hl.1 rfl (Nat.le_of_ble_eq_true rfl) ⟨Nat.le_of_ble_eq_true rfl, Nat.le_of_ble_eq_true rfl⟩ dX5_mixRiver_23 ?_
        refine lv_i2l (v := Int32.toInt64 r2) hx hb dX5_mixRiver_26 rfl ?_
        obtain ⟨r3, h_r3, hrun⟩ := p_bnd hrun
        refine jVE_v (rest := []) C (c5_mix h_r3) gX5_mixRiver_X5_mix hd5_mix hK hN hD hA I rcM rfl ⟨rfl, rfl⟩ ⟨Nat.le_of_ble_eq_true rfl, Nat.le_of_ble_eq_true rfl⟩ rfl hl.1 rfl (Nat.le_of_ble_eq_true rfl) ⟨Nat.le_of_ble_eq_true rfl, Nat.le_of_ble_eq_true rfl⟩ dX5_mixRiver_27 (fun H locs I => ?_)
        refine lv_iinc (v := x1 + 1) (lv' := [(1, .int (x1 + 1)), (0, .ref h)]) hx hb dX5_mixRiver_30 hl (k := 1) rfl rfl (by decide) rfl (fun ls hl => ?_)
        refine lv_goto (tgt := 2) hx hb dX5_mixRiver_33 rfl ?_
        exact ih r3 (x1 + 1) out hrun K _ _ _ I (lv_sub hl [1, 0] rfl)
  have loop_48 : ∀ (x1 : Int32) (n : Nat) (v_h : Int64) (x2 : Int32) (out : Int64), P5_mixRiver_48 v_forms v_formA v_formB v_formC v_nextOf v_cycleOf v_firstOf x1 n v_h x2 = some out → (∀ (H : Heap) (locs : List Loc) (ls : Array Slot), IM D (va_A (WM0 h ad cA) sz) s.heap H locs (WM h ad cA v_pageLength v_page v_roads v_lengths v_signs v_wordsRead v_disc v_forms v_formA v_formB v_formC v_nextOf v_cycleOf v_cycles v_firstOf v_newLength v_newSigns v_mayRun v_size v_at v_otherSize v_other v_tableA v_tableB v_tableC v_tableD v_a v_b v_c v_grade v_flowA v_flowB v_flowC v_seedNow out) → lv_has ls 3 [(0, .ref h), (1, .int x1)] → W p l e rm5_mixRiver s m args below meth c H locs 0 0 Q (F0 m 70 ls [])) → ∀ (H : Heap) (locs : List Loc) (ls : Array Slot), IM D (va_A (WM0 h ad cA) sz) s.heap H locs (WM h ad cA v_pageLength v_page v_roads v_lengths v_signs v_wordsRead v_disc v_forms v_formA v_formB v_formC v_nextOf v_cycleOf v_cycles v_firstOf v_newLength v_newSigns v_mayRun v_size v_at v_otherSize v_other v_tableA v_tableB v_tableC v_tableD v_a v_b v_c v_grade v_flowA v_flowB v_flowC v_seedNow v_h) → lv_has ls 3 [(0, .ref h), (1, .int x1), (2, .int x2)] → W p l e rm5_mixRiver s m args below meth c H locs 0 0 Q (F0 m 48 ls []) := by
    intro x1 n
    induction n with
    | zero =>
      intro v_h x2 out hrun K H locs ls I hl
      cases hrun
    | succ n ih =>
      intro v_h x2 out hrun K H locs ls I hl
      rw [P5_mixRiver_48] at hrun
      refine lv_iload_n hx hb dX5_mixRiver_48 rfl (lv_at hl 2 rfl) ?_
      refine lv_iconst (v := 5) hx hb dX5_mixRiver_49 rfl ?_
      refine lv_icmp_ge (tgt := 70) hx hb dX5_mixRiver_50 rfl (fun c6 => ?_) (fun c6 => ?_)
      · have hrun := p_pos hrun c6
        cases hrun
        exact K _ _ _ I (lv_sub hl [0, 1] rfl)
      · have hrun := p_neg hrun c6
        refine lv_aload_n hx hb dX5_mixRiver_53 rfl (lv_at hl 0 rfl) ?_
        refine lv_aload_n hx hb dX5_mixRiver_54 rfl (lv_at hl 0 rfl) ?_
        refine lv_iload_n hx hb dX5_mixRiver_55 rfl (lv_at hl 1 rfl) ?_
        refine lv_iload_n hx hb dX5_mixRiver_56 rfl (lv_at hl 2 rfl) ?_
        obtain ⟨r7, h_r7, hrun⟩ := p_bnd hrun
        refine jVS_i (rest := [.ref h]) C (c5_cycleNow h_r7) gX5_mixRiver_X5_cycleNow hd5_cycleNow hK hN I.1 rcM rfl ⟨rfl, rfl⟩ ⟨Nat.le_of_ble_eq_true rfl, Nat.le_of_ble_eq_true rfl⟩ rfl hl.1 rfl (Nat.le_of_ble_eq_true rfl) ⟨Nat.le_of_ble_eq_true rfl, Nat.le_of_ble_eq_true rfl⟩ dX5_mixRiver_57 ?_
        refine lv_i2l (v := Int32.toInt64 r7) hx hb dX5_mixRiver_60 rfl ?_
        obtain ⟨r8, h_r8, hrun⟩ := p_bnd hrun
        refine jVE_v (rest := []) C (c5_mix h_r8) gX5_mixRiver_X5_mix hd5_mix hK hN hD hA I rcM rfl ⟨rfl, rfl⟩ ⟨Nat.le_of_ble_eq_true rfl, Nat.le_of_ble_eq_true rfl⟩ rfl hl.1 rfl (Nat.le_of_ble_eq_true rfl) ⟨Nat.le_of_ble_eq_true rfl, Nat.le_of_ble_eq_true rfl⟩ dX5_mixRiver_61 (fun H locs I => ?_)
        refine lv_iinc (v := x2 + 1) (lv' := [(2, .int (x2 + 1)), (0, .ref h), (1, .int x1)]) hx hb dX5_mixRiver_64 hl (k := 2) rfl rfl (by decide) rfl (fun ls hl => ?_)
        refine lv_goto (tgt := 48) hx hb dX5_mixRiver_67 rfl ?_
        exact ih r8 (x2 + 1) out hrun K _ _ _ I (lv_sub hl [1, 2, 0] rfl)
  have loop_38 : ∀ (n : Nat) (v_h : Int64) (x1 : Int32) (out : Int64), P5_mixRiver_38 v_forms v_formA v_formB v_formC v_nextOf v_cycleOf v_cycles v_firstOf n v_h x1 = some out → (∀ (H : Heap) (locs : List Loc) (ls : Array Slot), IM D (va_A (WM0 h ad cA) sz) s.heap H locs (WM h ad cA v_pageLength v_page v_roads v_lengths v_signs v_wordsRead v_disc v_forms v_formA v_formB v_formC v_nextOf v_cycleOf v_cycles v_firstOf v_newLength v_newSigns v_mayRun v_size v_at v_otherSize v_other v_tableA v_tableB v_tableC v_tableD v_a v_b v_c v_grade v_flowA v_flowB v_flowC v_seedNow out) → lv_has ls 3 [] → W p l e rm5_mixRiver s m args below meth c H locs 0 0 Q (F0 m 89 ls [])) → ∀ (H : Heap) (locs : List Loc) (ls : Array Slot), IM D (va_A (WM0 h ad cA) sz) s.heap H locs (WM h ad cA v_pageLength v_page v_roads v_lengths v_signs v_wordsRead v_disc v_forms v_formA v_formB v_formC v_nextOf v_cycleOf v_cycles v_firstOf v_newLength v_newSigns v_mayRun v_size v_at v_otherSize v_other v_tableA v_tableB v_tableC v_tableD v_a v_b v_c v_grade v_flowA v_flowB v_flowC v_seedNow v_h) → lv_has ls 3 [(0, .ref h), (1, .int x1)] → W p l e rm5_mixRiver s m args below meth c H locs 0 0 Q (F0 m 38 ls []) := by
    intro n
    induction n with
    | zero =>
      intro v_h x1 out hrun K H locs ls I hl
      cases hrun
    | succ n ih =>
      intro v_h x1 out hrun K H locs ls I hl
      rw [P5_mixRiver_38] at hrun
      refine lv_iload_n hx hb dX5_mixRiver_38 rfl (lv_at hl 1 rfl) ?_
      refine lv_aload_n hx hb dX5_mixRiver_39 rfl (lv_at hl 0 rfl) ?_
      refine gM_cycles C inm5_mixRiver hK I.1 fl5_mixRiver_224 dX5_mixRiver_40 ?_
      refine lv_icmp_ge (tgt := 89) hx hb dX5_mixRiver_43 rfl (fun c5 => ?_) (fun c5 => ?_)
      · have hrun := p_pos hrun c5
        cases hrun
        exact K _ _ _ I (lv_sub hl [] rfl)
      · have hrun := p_neg hrun c5
        refine lv_iconst (v := 0) hx hb dX5_mixRiver_46 rfl ?_
        refine lv_istore_n (lv' := [(2, .int 0), (0, .ref h), (1, .int x1)]) hx hb dX5_mixRiver_47 rfl hl (by decide) rfl (fun ls hl => ?_)
        obtain ⟨o9, h_o9, hrun⟩ := p_bnd hrun
        refine loop_48 x1 FU v_h 0 o9 h_o9 (fun H locs ls I hl => ?_) _ _ _ I (lv_sub hl [1, 2, 0] rfl)
        refine lv_aload_n hx hb dX5_mixRiver_70 rfl (lv_at hl 0 rfl) ?_
        refine lv_aload_n hx hb dX5_mixRiver_71 rfl (lv_at hl 0 rfl) ?_
        refine lv_iload_n hx hb dX5_mixRiver_72 rfl (lv_at hl 1 rfl) ?_
        refine lv_sipush (v := 997) hx hb dX5_mixRiver_73 rfl ?_
        obtain ⟨r10, h_r10, hrun⟩ := p_bnd hrun
        refine jVS_i (rest := [.ref h]) C (c5_traceOf h_r10) gX5_mixRiver_X5_traceOf hd5_traceOf hK hN I.1 rcM rfl ⟨rfl, rfl⟩ ⟨Nat.le_of_ble_eq_true rfl, Nat.le_of_ble_eq_true rfl⟩ rfl hl.1 rfl (Nat.le_of_ble_eq_true rfl) ⟨Nat.le_of_ble_eq_true rfl, Nat.le_of_ble_eq_true rfl⟩ dX5_mixRiver_76 ?_
        refine lv_i2l (v := Int32.toInt64 r10) hx hb dX5_mixRiver_79 rfl ?_
        obtain ⟨r11, h_r11, hrun⟩ := p_bnd hrun
        refine jVE_v (rest := []) C (c5_mix h_r11) gX5_mixRiver_X5_mix hd5_mix hK hN hD hA I rcM rfl ⟨rfl, rfl⟩ ⟨Nat.le_of_ble_eq_true rfl, Nat.le_of_ble_eq_true rfl⟩ rfl hl.1 rfl (Nat.le_of_ble_eq_true rfl) ⟨Nat.le_of_ble_eq_true rfl, Nat.le_of_ble_eq_true rfl⟩ dX5_mixRiver_80 (fun H locs I => ?_)
        refine lv_iinc (v := x1 + 1) (lv' := [(1, .int (x1 + 1)), (0, .ref h)]) hx hb dX5_mixRiver_83 hl (k := 1) rfl rfl (by decide) rfl (fun ls hl => ?_)
        refine lv_goto (tgt := 38) hx hb dX5_mixRiver_86 rfl ?_
        exact ih r11 (x1 + 1) out hrun K _ _ _ I (lv_sub hl [1, 0] rfl)
  unfold P5_mixRiver at hrun
  refine lv_iconst (v := 0) hx hb dX5_mixRiver_0 rfl ?_
  refine lv_istore_n (lv' := [(1, .int 0), (0, .ref h)]) hx hb dX5_mixRiver_1 rfl hl (by decide) rfl (fun ls hl => ?_)
  obtain ⟨o4, h_o4, hrun⟩ := p_bnd hrun
  refine loop_2 FU v_h 0 o4 h_o4 (fun H locs ls I hl => ?_) _ _ _ I (lv_sub hl [1, 0] rfl)
  refine lv_iconst (v := 0) hx hb dX5_mixRiver_36 rfl ?_
  refine lv_istore_n (lv' := [(1, .int 0), (0, .ref h)]) hx hb dX5_mixRiver_37 rfl hl (by decide) rfl (fun ls hl => ?_)
  obtain ⟨o12, h_o12, hrun⟩ := p_bnd hrun
  refine loop_38 FU o4 0 o12 h_o12 (fun H locs ls I hl => ?_) _ _ _ I (lv_sub hl [1, 0] rfl)
  cases hrun
  exact rE_v C hr hlk hQ I dX5_mixRiver_89

abbrev rm5_digest : Room := { frames := 5, cells := 0, slots := 0, locals := 110 }
theorem fl5_digest_7 : Cond.fieldLink RX5 7 "RiverWordsModel" "page" "[I" ∈ wsX5_digest := by decide +kernel
theorem fl5_digest_55 : Cond.fieldLink RX5 55 "RiverWordsModel" "pageLength" "I" ∈ wsX5_digest := by decide +kernel
theorem fl5_digest_75 : Cond.fieldLink RX5 75 "RiverWordsModel" "roads" "I" ∈ wsX5_digest := by decide +kernel
theorem fl5_digest_308 : Cond.fieldLink RX5 308 "RiverWordsModel" "h" "J" ∈ wsX5_digest := by decide +kernel
theorem k5_digest_315 : Cond.constantLong RX5 315 1549 ∈ wsX5_digest := by decide +kernel
theorem inm5_digest : ∀ w ∈ wsX50, w ∈ wsX5_digest := fun w h => by unfold wsX5_digest; first | exact List.mem_cons_of_mem _ (List.mem_append_right _ h) | exact List.mem_cons_of_mem _ h
theorem hd5_digest : okD yX5_digest 0 := by decide +kernel
set_option maxHeartbeats 8000000 in
set_option maxRecDepth 100000 in
theorem c5_digest {res : Int64 × Int32 × (Nat → Int32) × Int32 × (Nat → Int32) × Int32 × Int32 × Int32 × Int32 × Int32 × Int32 × Int32 × Int32 × Int64} (hrun : P5_digest v_pageLength v_page v_roads v_lengths v_signs v_wordsRead v_forms v_formA v_formB v_formC v_nextOf v_cycleOf v_cycles v_firstOf v_size v_at v_otherSize v_other v_tableA v_tableB v_tableC v_tableD v_a v_b v_c v_grade = some res) : Met l yX5_digest wsX5_digest rm5_digest (va_Pc [.ref h] (PE D [(cA, .int)] sz (WM0 h ad cA) (WM h ad cA v_pageLength v_page v_roads v_lengths v_signs v_wordsRead v_disc v_forms v_formA v_formB v_formC v_nextOf v_cycleOf v_cycles v_firstOf v_newLength v_newSigns v_mayRun v_size v_at v_otherSize v_other v_tableA v_tableB v_tableC v_tableD v_a v_b v_c v_grade v_flowA v_flowB v_flowC v_seedNow v_h))) (va_Ql (fun (x : Int64) (_ : Unit) => x = res.1) (fun _ t => va_P D vwCl (WM h ad cA v_pageLength v_page v_roads v_lengths v_signs v_wordsRead v_disc v_forms v_formA v_formB v_formC v_nextOf v_cycleOf v_cycles v_firstOf v_newLength v_newSigns v_mayRun res.2.1 res.2.2.1 res.2.2.2.1 res.2.2.2.2.1 res.2.2.2.2.2.1 res.2.2.2.2.2.2.1 res.2.2.2.2.2.2.2.1 res.2.2.2.2.2.2.2.2.1 res.2.2.2.2.2.2.2.2.2.1 res.2.2.2.2.2.2.2.2.2.2.1 res.2.2.2.2.2.2.2.2.2.2.2.1 res.2.2.2.2.2.2.2.2.2.2.2.2.1 v_flowA v_flowB v_flowC v_seedNow res.2.2.2.2.2.2.2.2.2.2.2.2.2) t.heap) (va_A (WM0 h ad cA) sz)) 0 0 (va_A (WM0 h ad cA) sz) := by
  refine E_in (cc := cX5_digest) (maxL := 2) (ret := (some .long)) (by decide) rfl (Nat.le_of_ble_eq_true rfl) ?_
  intro p e s m args below meth c ls Q hQ C hr hlk hK hN hD hA I hl
  have C : CallFix p m c cX5_digest 2 s args wsX5_digest RX5 := C
  have hx := C.1
  have hb := C.2.1
  have hl : lv_has ls 2 [(0, .ref h)] := hl
  have loop_9 : ∀ (n : Nat) (v_size : Int32) (v_at : Nat → Int32) (v_otherSize : Int32) (v_other : Nat → Int32) (v_tableA : Int32) (v_tableB : Int32) (v_tableC : Int32) (v_tableD : Int32) (v_a : Int32) (v_b : Int32) (v_c : Int32) (v_grade : Int32) (v_h : Int64) (x1 : Int32) (out : Int32 × (Nat → Int32) × Int32 × (Nat → Int32) × Int32 × Int32 × Int32 × Int32 × Int32 × Int32 × Int32 × Int32 × Int64), P5_digest_9 v_roads v_lengths v_signs n v_size v_at v_otherSize v_other v_tableA v_tableB v_tableC v_tableD v_a v_b v_c v_grade v_h x1 = some out → (∀ (H : Heap) (locs : List Loc) (ls : Array Slot), IM D (va_A (WM0 h ad cA) sz) s.heap H locs (WM h ad cA v_pageLength v_page v_roads v_lengths v_signs v_wordsRead v_disc v_forms v_formA v_formB v_formC v_nextOf v_cycleOf v_cycles v_firstOf v_newLength v_newSigns v_mayRun out.1 out.2.1 out.2.2.1 out.2.2.2.1 out.2.2.2.2.1 out.2.2.2.2.2.1 out.2.2.2.2.2.2.1 out.2.2.2.2.2.2.2.1 out.2.2.2.2.2.2.2.2.1 out.2.2.2.2.2.2.2.2.2.1 out.2.2.2.2.2.2.2.2.2.2.1 out.2.2.2.2.2.2.2.2.2.2.2.1 v_flowA v_flowB v_flowC v_seedNow out.2.2.2.2.2.2.2.2.2.2.2.2) → lv_has ls 2 [(0, .ref h)] → W p l e rm5_digest s m args below meth c H locs 0 0 Q (F0 m 28 ls [])) → ∀ (H : Heap) (locs : List Loc) (ls : Array Slot), IM D (va_A (WM0 h ad cA) sz) s.heap H locs (WM h ad cA v_pageLength v_page v_roads v_lengths v_signs v_wordsRead v_disc v_forms v_formA v_formB v_formC v_nextOf v_cycleOf v_cycles v_firstOf v_newLength v_newSigns v_mayRun v_size v_at v_otherSize v_other v_tableA v_tableB v_tableC v_tableD v_a v_b v_c v_grade v_flowA v_flowB v_flowC v_seedNow v_h) → lv_has ls 2 [(0, .ref h), (1, .int x1)] → W p l e rm5_digest s m args below meth c H locs 0 0 Q (F0 m 9 ls []) := by
    intro n
    induction n with
    | zero =>
      intro v_size v_at v_otherSize v_other v_tableA v_tableB v_tableC v_tableD v_a v_b v_c v_grade v_h x1 out hrun K H locs ls I hl
      cases hrun
    | succ n ih =>
      intro v_size v_at v_otherSize v_other v_tableA v_tableB v_tableC v_tableD v_a v_b v_c v_grade v_h x1 out hrun K H locs ls I hl
      rw [P5_digest_9] at hrun
      refine lv_iload_n hx hb dX5_digest_9 rfl (lv_at hl 1 rfl) ?_
      refine lv_aload_n hx hb dX5_digest_10 rfl (lv_at hl 0 rfl) ?_
      refine gM_roads C inm5_digest hK I.1 fl5_digest_75 dX5_digest_11 ?_
      refine lv_icmp_ge (tgt := 28) hx hb dX5_digest_14 rfl (fun c1 => ?_) (fun c1 => ?_)
      · have hrun := p_pos hrun c1
        cases hrun
        exact K _ _ _ I (lv_sub hl [0] rfl)
      · have hrun := p_neg hrun c1
        refine lv_aload_n hx hb dX5_digest_17 rfl (lv_at hl 0 rfl) ?_
        refine lv_iload_n hx hb dX5_digest_18 rfl (lv_at hl 1 rfl) ?_
        obtain ⟨r2, h_r2, hrun⟩ := p_bnd hrun
        refine jVE_v (rest := []) C (c5_mixRoad h_r2) gX5_digest_X5_mixRoad hd5_mixRoad hK hN hD hA I rcM rfl ⟨rfl, rfl⟩ ⟨Nat.le_of_ble_eq_true rfl, Nat.le_of_ble_eq_true rfl⟩ rfl hl.1 rfl (Nat.le_of_ble_eq_true rfl) ⟨Nat.le_of_ble_eq_true rfl, Nat.le_of_ble_eq_true rfl⟩ dX5_digest_19 (fun H locs I => ?_)
        refine lv_iinc (v := x1 + 1) (lv' := [(1, .int (x1 + 1)), (0, .ref h)]) hx hb dX5_digest_22 hl (k := 1) rfl rfl (by decide) rfl (fun ls hl => ?_)
        refine lv_goto (tgt := 9) hx hb dX5_digest_25 rfl ?_
        exact ih r2.1 r2.2.1 r2.2.2.1 r2.2.2.2.1 r2.2.2.2.2.1 r2.2.2.2.2.2.1 r2.2.2.2.2.2.2.1 r2.2.2.2.2.2.2.2.1 r2.2.2.2.2.2.2.2.2.1 r2.2.2.2.2.2.2.2.2.2.1 r2.2.2.2.2.2.2.2.2.2.2.1 r2.2.2.2.2.2.2.2.2.2.2.2.1 r2.2.2.2.2.2.2.2.2.2.2.2.2 (x1 + 1) out hrun K _ _ _ I (lv_sub hl [1, 0] rfl)
  have loop_38 : ∀ (v_size : Int32) (v_at : Nat → Int32) (v_otherSize : Int32) (v_other : Nat → Int32) (v_tableA : Int32) (v_tableB : Int32) (v_tableC : Int32) (v_tableD : Int32) (v_a : Int32) (v_b : Int32) (v_c : Int32) (v_grade : Int32) (n : Nat) (v_h : Int64) (x1 : Int32) (out : Int64), P5_digest_38 v_pageLength v_page n v_h x1 = some out → (∀ (H : Heap) (locs : List Loc) (ls : Array Slot), IM D (va_A (WM0 h ad cA) sz) s.heap H locs (WM h ad cA v_pageLength v_page v_roads v_lengths v_signs v_wordsRead v_disc v_forms v_formA v_formB v_formC v_nextOf v_cycleOf v_cycles v_firstOf v_newLength v_newSigns v_mayRun v_size v_at v_otherSize v_other v_tableA v_tableB v_tableC v_tableD v_a v_b v_c v_grade v_flowA v_flowB v_flowC v_seedNow out) → lv_has ls 2 [(0, .ref h)] → W p l e rm5_digest s m args below meth c H locs 0 0 Q (F0 m 63 ls [])) → ∀ (H : Heap) (locs : List Loc) (ls : Array Slot), IM D (va_A (WM0 h ad cA) sz) s.heap H locs (WM h ad cA v_pageLength v_page v_roads v_lengths v_signs v_wordsRead v_disc v_forms v_formA v_formB v_formC v_nextOf v_cycleOf v_cycles v_firstOf v_newLength v_newSigns v_mayRun v_size v_at v_otherSize v_other v_tableA v_tableB v_tableC v_tableD v_a v_b v_c v_grade v_flowA v_flowB v_flowC v_seedNow v_h) → lv_has ls 2 [(0, .ref h), (1, .int x1)] → W p l e rm5_digest s m args below meth c H locs 0 0 Q (F0 m 38 ls []) := by
    intro v_size v_at v_otherSize v_other v_tableA v_tableB v_tableC v_tableD v_a v_b v_c v_grade n
    induction n with
    | zero =>
      intro v_h x1 out hrun K H locs ls I hl
      cases hrun
    | succ n ih =>
      intro v_h x1 out hrun K H locs ls I hl
      rw [P5_digest_38] at hrun
      refine lv_iload_n hx hb dX5_digest_38 rfl (lv_at hl 1 rfl) ?_
      refine lv_aload_n hx hb dX5_digest_39 rfl (lv_at hl 0 rfl) ?_
      refine gM_pageLength C inm5_digest hK I.1 fl5_digest_55 dX5_digest_40 ?_
      refine lv_icmp_ge (tgt := 63) hx hb dX5_digest_43 rfl (fun c6 => ?_) (fun c6 => ?_)
      · have hrun := p_pos hrun c6
        cases hrun
        exact K _ _ _ I (lv_sub hl [0] rfl)
      · have hrun := p_neg hrun c6
        refine lv_aload_n hx hb dX5_digest_46 rfl (lv_at hl 0 rfl) ?_
        refine lv_aload_n hx hb dX5_digest_47 rfl (lv_at hl 0 rfl) ?_
        refine gM_page C inm5_digest hK I.1 fl5_digest_7 dX5_digest_48 ?_
        refine lv_iload_n hx hb dX5_digest_51 rfl (lv_at hl 1 rfl) ?_
        obtain ⟨b7, hrun⟩ := p_chk hrun
        refine ldM_page C hK I.1 b7 dX5_digest_52 ?_
        refine lv_i2l (v := Int32.toInt64 (v_page (Int32.toNatClampNeg x1))) hx hb dX5_digest_53 rfl ?_
        obtain ⟨r8, h_r8, hrun⟩ := p_bnd hrun
        refine jVE_v (rest := []) C (c5_mix h_r8) gX5_digest_X5_mix hd5_mix hK hN hD hA I rcM rfl ⟨rfl, rfl⟩ ⟨Nat.le_of_ble_eq_true rfl, Nat.le_of_ble_eq_true rfl⟩ rfl hl.1 rfl (Nat.le_of_ble_eq_true rfl) ⟨Nat.le_of_ble_eq_true rfl, Nat.le_of_ble_eq_true rfl⟩ dX5_digest_54 (fun H locs I => ?_)
        refine lv_iinc (v := x1 + 1) (lv' := [(1, .int (x1 + 1)), (0, .ref h)]) hx hb dX5_digest_57 hl (k := 1) rfl rfl (by decide) rfl (fun ls hl => ?_)
        refine lv_goto (tgt := 38) hx hb dX5_digest_60 rfl ?_
        exact ih r8 (x1 + 1) out hrun K _ _ _ I (lv_sub hl [1, 0] rfl)
  have loop_65 : ∀ (v_tableA : Int32) (v_tableB : Int32) (v_tableC : Int32) (v_tableD : Int32) (v_a : Int32) (v_b : Int32) (v_c : Int32) (v_grade : Int32) (n : Nat) (v_size : Int32) (v_at : Nat → Int32) (v_otherSize : Int32) (v_other : Nat → Int32) (v_h : Int64) (x1 : Int32) (out : Int32 × (Nat → Int32) × Int32 × (Nat → Int32) × Int64), P5_digest_65 v_pageLength v_roads v_lengths v_signs v_wordsRead v_forms v_cycles n v_size v_at v_otherSize v_other v_h x1 = some out → (∀ (H : Heap) (locs : List Loc) (ls : Array Slot), IM D (va_A (WM0 h ad cA) sz) s.heap H locs (WM h ad cA v_pageLength v_page v_roads v_lengths v_signs v_wordsRead v_disc v_forms v_formA v_formB v_formC v_nextOf v_cycleOf v_cycles v_firstOf v_newLength v_newSigns v_mayRun out.1 out.2.1 out.2.2.1 out.2.2.2.1 v_tableA v_tableB v_tableC v_tableD v_a v_b v_c v_grade v_flowA v_flowB v_flowC v_seedNow out.2.2.2.2) → lv_has ls 2 [(0, .ref h)] → W p l e rm5_digest s m args below meth c H locs 0 0 Q (F0 m 87 ls [])) → ∀ (H : Heap) (locs : List Loc) (ls : Array Slot), IM D (va_A (WM0 h ad cA) sz) s.heap H locs (WM h ad cA v_pageLength v_page v_roads v_lengths v_signs v_wordsRead v_disc v_forms v_formA v_formB v_formC v_nextOf v_cycleOf v_cycles v_firstOf v_newLength v_newSigns v_mayRun v_size v_at v_otherSize v_other v_tableA v_tableB v_tableC v_tableD v_a v_b v_c v_grade v_flowA v_flowB v_flowC v_seedNow v_h) → lv_has ls 2 [(0, .ref h), (1, .int x1)] → W p l e rm5_digest s m args below meth c H locs 0 0 Q (F0 m 65 ls []) := by
    intro v_tableA v_tableB v_tableC v_tableD v_a v_b v_c v_grade n
    induction n with
    | zero =>
      intro v_size v_at v_otherSize v_other v_h x1 out hrun K H locs ls I hl
      cases hrun
    | succ n ih =>
      intro v_size v_at v_otherSize v_other v_h x1 out hrun K H locs ls I hl
      rw [P5_digest_65] at hrun
      refine lv_iload_n hx hb dX5_digest_65 rfl (lv_at hl 1 rfl) ?_
      refine lv_bipush (v := 7) hx hb dX5_digest_66 rfl ?_
      refine lv_icmp_ge (tgt := 87) hx hb dX5_digest_68 rfl (fun c10 => ?_) (fun c10 => ?_)
      · have hrun := p_pos hrun c10
        cases hrun
        exact K _ _ _ I (lv_sub hl [0] rfl)
      · have hrun := p_neg hrun c10
        refine lv_aload_n hx hb dX5_digest_71 rfl (lv_at hl 0 rfl) ?_
        refine lv_aload_n hx hb dX5_digest_72 rfl (lv_at hl 0 rfl) ?_
        refine lv_iload_n hx hb dX5_digest_73 rfl (lv_at hl 1 rfl) ?_
        obtain ⟨r11, h_r11, hrun⟩ := p_bnd hrun
        refine jVE_i (rest := [.ref h]) C (c5_howMany h_r11) gX5_digest_X5_howMany hd5_howMany hK hN hD hA I rcM rfl ⟨rfl, rfl⟩ ⟨Nat.le_of_ble_eq_true rfl, Nat.le_of_ble_eq_true rfl⟩ rfl hl.1 rfl (Nat.le_of_ble_eq_true rfl) ⟨Nat.le_of_ble_eq_true rfl, Nat.le_of_ble_eq_true rfl⟩ dX5_digest_74 (fun H locs I => ?_)
        refine lv_i2l (v := Int32.toInt64 r11.1) hx hb dX5_digest_77 rfl ?_
        obtain ⟨r12, h_r12, hrun⟩ := p_bnd hrun
        refine jVE_v (rest := []) C (c5_mix h_r12) gX5_digest_X5_mix hd5_mix hK hN hD hA I rcM rfl ⟨rfl, rfl⟩ ⟨Nat.le_of_ble_eq_true rfl, Nat.le_of_ble_eq_true rfl⟩ rfl hl.1 rfl (Nat.le_of_ble_eq_true rfl) ⟨Nat.le_of_ble_eq_true rfl, Nat.le_of_ble_eq_true rfl⟩ dX5_digest_78 (fun H locs I => ?_)
        refine lv_iinc (v := x1 + 1) (lv' := [(1, .int (x1 + 1)), (0, .ref h)]) hx hb dX5_digest_81 hl (k := 1) rfl rfl (by decide) rfl (fun ls hl => ?_)
        refine lv_goto (tgt := 65) hx hb dX5_digest_84 rfl ?_
        exact ih r11.2.1 r11.2.2.1 r11.2.2.2.1 r11.2.2.2.2 r12 (x1 + 1) out hrun K _ _ _ I (lv_sub hl [1, 0] rfl)
  unfold P5_digest at hrun
  refine lv_aload_n hx hb dX5_digest_0 rfl (lv_at hl 0 rfl) ?_
  refine lv_ldc2 (v := 1549) hx hb C.2.2.2.1 (C.2.2.2.2 _ k5_digest_315) dX5_digest_1 ?_
  refine pM_h C inm5_digest hK hD I fl5_digest_308 dX5_digest_4 (fun H locs I => ?_)
  refine lv_iconst (v := 0) hx hb dX5_digest_7 rfl ?_
  refine lv_istore_n (lv' := [(1, .int 0), (0, .ref h)]) hx hb dX5_digest_8 rfl hl (by decide) rfl (fun ls hl => ?_)
  obtain ⟨o3, h_o3, hrun⟩ := p_bnd hrun
  refine loop_9 FU v_size v_at v_otherSize v_other v_tableA v_tableB v_tableC v_tableD v_a v_b v_c v_grade 1549 0 o3 h_o3 (fun H locs ls I hl => ?_) _ _ _ I (lv_sub hl [1, 0] rfl)
  refine lv_aload_n hx hb dX5_digest_28 rfl (lv_at hl 0 rfl) ?_
  obtain ⟨r4, h_r4, hrun⟩ := p_bnd hrun
  refine jVE_v (rest := []) C (c5_mixCrossings h_r4) gX5_digest_X5_mixCrossings hd5_mixCrossings hK hN hD hA I rcM rfl ⟨rfl, rfl⟩ ⟨Nat.le_of_ble_eq_true rfl, Nat.le_of_ble_eq_true rfl⟩ rfl hl.1 rfl (Nat.le_of_ble_eq_true rfl) ⟨Nat.le_of_ble_eq_true rfl, Nat.le_of_ble_eq_true rfl⟩ dX5_digest_29 (fun H locs I => ?_)
  refine lv_aload_n hx hb dX5_digest_32 rfl (lv_at hl 0 rfl) ?_
  obtain ⟨r5, h_r5, hrun⟩ := p_bnd hrun
  refine jVE_v (rest := []) C (c5_mixRiver h_r5) gX5_digest_X5_mixRiver hd5_mixRiver hK hN hD hA I rcM rfl ⟨rfl, rfl⟩ ⟨Nat.le_of_ble_eq_true rfl, Nat.le_of_ble_eq_true rfl⟩ rfl hl.1 rfl (Nat.le_of_ble_eq_true rfl) ⟨Nat.le_of_ble_eq_true rfl, Nat.le_of_ble_eq_true rfl⟩ dX5_digest_33 (fun H locs I => ?_)
  refine lv_iconst (v := 0) hx hb dX5_digest_36 rfl ?_
  refine lv_istore_n (lv' := [(1, .int 0), (0, .ref h)]) hx hb dX5_digest_37 rfl hl (by decide) rfl (fun ls hl => ?_)
  obtain ⟨o9, h_o9, hrun⟩ := p_bnd hrun
  refine loop_38 r4.1 r4.2.1 r4.2.2.1 r4.2.2.2.1 o3.2.2.2.2.1 o3.2.2.2.2.2.1 o3.2.2.2.2.2.2.1 o3.2.2.2.2.2.2.2.1 o3.2.2.2.2.2.2.2.2.1 o3.2.2.2.2.2.2.2.2.2.1 o3.2.2.2.2.2.2.2.2.2.2.1 o3.2.2.2.2.2.2.2.2.2.2.2.1 FU r5 0 o9 h_o9 (fun H locs ls I hl => ?_) _ _ _ I (lv_sub hl [1, 0] rfl)
  refine lv_iconst (v := 0) hx hb dX5_digest_63 rfl ?_
  refine lv_istore_n (lv' := [(1, .int 0), (0, .ref h)]) hx hb dX5_digest_64 rfl hl (by decide) rfl (fun ls hl => ?_)
  obtain ⟨o13, h_o13, hrun⟩ := p_bnd hrun
  refine loop_65 o3.2.2.2.2.1 o3.2.2.2.2.2.1 o3.2.2.2.2.2.2.1 o3.2.2.2.2.2.2.2.1 o3.2.2.2.2.2.2.2.2.1 o3.2.2.2.2.2.2.2.2.2.1 o3.2.2.2.2.2.2.2.2.2.2.1 o3.2.2.2.2.2.2.2.2.2.2.2.1 FU r4.1 r4.2.1 r4.2.2.1 r4.2.2.2.1 o9 0 o13 h_o13 (fun H locs ls I hl => ?_) _ _ _ I (lv_sub hl [1, 0] rfl)
  refine lv_aload_n hx hb dX5_digest_87 rfl (lv_at hl 0 rfl) ?_
  refine gM_h C inm5_digest hK I.1 fl5_digest_308 dX5_digest_88 ?_
  cases hrun
  exact rE_l C hr hlk hQ I rfl dX5_digest_91

end M514
