section M513
variable {l : Launch} {D : va_G} {sz : Nat}
variable {h : Nat} {ad : Nat → Nat} {cA : ClassId}
variable {v_pageLength v_roads v_wordsRead v_disc v_forms v_cycles v_newLength v_mayRun v_size v_otherSize v_tableA v_tableB v_tableC v_tableD v_a v_b v_c v_grade v_flowA v_flowB v_flowC : Int32}
variable {v_seedNow v_h : Int64}
variable {v_page v_lengths v_signs v_formA v_formB v_formC v_nextOf v_cycleOf v_firstOf v_newSigns v_at v_other : Nat → Int32}
abbrev rm5_newMany : Room := { frames := 2, cells := 0, slots := 0, locals := 46 }
theorem fl5_newMany_75 : Cond.fieldLink RX5 75 "RiverWordsModel" "roads" "I" ∈ wsX5_newMany := by decide +kernel
theorem k5_newMany_106 : Cond.constant RX5 106 (-2000000001) ∈ wsX5_newMany := by decide +kernel
theorem inm5_newMany : ∀ w ∈ wsX50, w ∈ wsX5_newMany := fun w h => by unfold wsX5_newMany; first | exact List.mem_cons_of_mem _ (List.mem_append_right _ h) | exact List.mem_cons_of_mem _ h
theorem hd5_newMany : okD yX5_newMany 0 := by decide +kernel
set_option maxHeartbeats 8000000 in
set_option maxRecDepth 100000 in
theorem c5_newMany {res : Int32 × Int32 × (Nat → Int32) × Int32 × (Nat → Int32)} (hrun : P5_newMany v_roads v_lengths v_signs v_size v_at v_otherSize v_other = some res) : Met l yX5_newMany wsX5_newMany rm5_newMany (va_Pc [.ref h] (PE D [(cA, .int)] sz (WM0 h ad cA) (WM h ad cA v_pageLength v_page v_roads v_lengths v_signs v_wordsRead v_disc v_forms v_formA v_formB v_formC v_nextOf v_cycleOf v_cycles v_firstOf v_newLength v_newSigns v_mayRun v_size v_at v_otherSize v_other v_tableA v_tableB v_tableC v_tableD v_a v_b v_c v_grade v_flowA v_flowB v_flowC v_seedNow v_h))) (va_Qi (fun (x : Int32) (_ : Unit) => x = res.1) (fun _ t => va_P D vwCl (WM h ad cA v_pageLength v_page v_roads v_lengths v_signs v_wordsRead v_disc v_forms v_formA v_formB v_formC v_nextOf v_cycleOf v_cycles v_firstOf v_newLength v_newSigns v_mayRun res.2.1 res.2.2.1 res.2.2.2.1 res.2.2.2.2 v_tableA v_tableB v_tableC v_tableD v_a v_b v_c v_grade v_flowA v_flowB v_flowC v_seedNow v_h) t.heap) (va_A (WM0 h ad cA) sz)) 0 0 (va_A (WM0 h ad cA) sz) := by
  refine E_in (cc := cX5_newMany) (maxL := 5) (ret := (some .int)) (by decide) rfl (Nat.le_of_ble_eq_true rfl) ?_
  intro p e s m args below meth c ls Q hQ C hr hlk hK hN hD hA I hl
  have C : CallFix p m c cX5_newMany 5 s args wsX5_newMany RX5 := C
  have hx := C.1
  have hb := C.2.1
  have hl : lv_has ls 5 [(0, .ref h)] := hl
  have loop_17 : ∀ (x1 : Int32) (x2 : Int32) (n : Nat) (v_size : Int32) (v_at : Nat → Int32) (v_otherSize : Int32) (v_other : Nat → Int32) (x3 : Int32) (x4 : Int32) (out : Int32 × (Nat → Int32) × Int32 × (Nat → Int32) × Int32), P5_newMany_17 v_lengths v_signs x2 n v_size v_at v_otherSize v_other x3 x4 = some out → (∀ (H : Heap) (locs : List Loc) (ls : Array Slot), IM D (va_A (WM0 h ad cA) sz) s.heap H locs (WM h ad cA v_pageLength v_page v_roads v_lengths v_signs v_wordsRead v_disc v_forms v_formA v_formB v_formC v_nextOf v_cycleOf v_cycles v_firstOf v_newLength v_newSigns v_mayRun out.1 out.2.1 out.2.2.1 out.2.2.2.1 v_tableA v_tableB v_tableC v_tableD v_a v_b v_c v_grade v_flowA v_flowB v_flowC v_seedNow v_h) → lv_has ls 5 [(0, .ref h), (1, .int x1), (2, .int x2), (3, .int out.2.2.2.2)] → W p l e rm5_newMany s m args below meth c H locs 0 0 Q (F0 m 51 ls [])) → ∀ (H : Heap) (locs : List Loc) (ls : Array Slot), IM D (va_A (WM0 h ad cA) sz) s.heap H locs (WM h ad cA v_pageLength v_page v_roads v_lengths v_signs v_wordsRead v_disc v_forms v_formA v_formB v_formC v_nextOf v_cycleOf v_cycles v_firstOf v_newLength v_newSigns v_mayRun v_size v_at v_otherSize v_other v_tableA v_tableB v_tableC v_tableD v_a v_b v_c v_grade v_flowA v_flowB v_flowC v_seedNow v_h) → lv_has ls 5 [(0, .ref h), (1, .int x1), (2, .int x2), (3, .int x3), (4, .int x4)] → W p l e rm5_newMany s m args below meth c H locs 0 0 Q (F0 m 17 ls []) := by
    intro x1 x2 n
    induction n with
    | zero =>
      intro v_size v_at v_otherSize v_other x3 x4 out hrun K H locs ls I hl
      cases hrun
    | succ n ih =>
      intro v_size v_at v_otherSize v_other x3 x4 out hrun K H locs ls I hl
      rw [P5_newMany_17] at hrun
      refine lv_iload hx hb dX5_newMany_17 (lv_at hl 4 rfl) ?_
      refine lv_iload_n hx hb dX5_newMany_19 rfl (lv_at hl 2 rfl) ?_
      refine lv_icmp_ge (tgt := 51) hx hb dX5_newMany_20 rfl (fun c2 => ?_) (fun c2 => ?_)
      · have hrun := p_pos hrun c2
        cases hrun
        exact K _ _ _ I (lv_sub hl [0, 1, 2, 3] rfl)
      · have hrun := p_neg hrun c2
        refine lv_iload_n hx hb dX5_newMany_23 rfl (lv_at hl 3 rfl) ?_
        refine lv_if_eq (tgt := 43) hx hb dX5_newMany_24 rfl (fun c3 => ?_) (fun c3 => ?_)
        · have hrun := p_pos hrun c3
          refine lv_iconst (v := 0) hx hb dX5_newMany_43 rfl ?_
          refine lv_istore_n (lv' := [(3, .int 0), (0, .ref h), (1, .int x1), (2, .int x2), (4, .int x4)]) hx hb dX5_newMany_44 rfl hl (by decide) rfl (fun ls hl => ?_)
          refine lv_iinc (v := x4 + 1) (lv' := [(4, .int (x4 + 1)), (3, .int 0), (0, .ref h), (1, .int x1), (2, .int x2)]) hx hb dX5_newMany_45 hl (k := 4) rfl rfl (by decide) rfl (fun ls hl => ?_)
          refine lv_goto (tgt := 17) hx hb dX5_newMany_48 rfl ?_
          exact ih v_size v_at v_otherSize v_other 0 (x4 + 1) out hrun K _ _ _ I (lv_sub hl [2, 3, 4, 1, 0] rfl)
        · have hrun := p_neg hrun c3
          refine lv_aload_n hx hb dX5_newMany_27 rfl (lv_at hl 0 rfl) ?_
          refine lv_iload hx hb dX5_newMany_28 (lv_at hl 4 rfl) ?_
          refine lv_iload_n hx hb dX5_newMany_30 rfl (lv_at hl 2 rfl) ?_
          obtain ⟨r4, h_r4, hrun⟩ := p_bnd hrun
          refine jVE_i (rest := []) C (c5_alikeNow h_r4) gX5_newMany_X5_alikeNow hd5_alikeNow hK hN hD hA I rcM rfl ⟨rfl, rfl⟩ ⟨Nat.le_of_ble_eq_true rfl, Nat.le_of_ble_eq_true rfl⟩ rfl hl.1 rfl (Nat.le_of_ble_eq_true rfl) ⟨Nat.le_of_ble_eq_true rfl, Nat.le_of_ble_eq_true rfl⟩ dX5_newMany_31 (fun H locs I => ?_)
          refine lv_ldc (v := (-2000000001)) hx hb C.2.2.2.1 (C.2.2.2.2 _ k5_newMany_106) dX5_newMany_34 ?_
          refine lv_icmp_ne (tgt := 43) hx hb dX5_newMany_36 rfl (fun c5 => ?_) (fun c5 => ?_)
          · have hrun := p_neg hrun c5
            refine lv_iconst (v := 0) hx hb dX5_newMany_43 rfl ?_
            refine lv_istore_n (lv' := [(3, .int 0), (0, .ref h), (1, .int x1), (2, .int x2), (4, .int x4)]) hx hb dX5_newMany_44 rfl hl (by decide) rfl (fun ls hl => ?_)
            refine lv_iinc (v := x4 + 1) (lv' := [(4, .int (x4 + 1)), (3, .int 0), (0, .ref h), (1, .int x1), (2, .int x2)]) hx hb dX5_newMany_45 hl (k := 4) rfl rfl (by decide) rfl (fun ls hl => ?_)
            refine lv_goto (tgt := 17) hx hb dX5_newMany_48 rfl ?_
            exact ih r4.2.1 r4.2.2.1 r4.2.2.2.1 r4.2.2.2.2 0 (x4 + 1) out hrun K _ _ _ I (lv_sub hl [2, 3, 4, 1, 0] rfl)
          · have hrun := p_pos hrun c5
            refine lv_iconst (v := 1) hx hb dX5_newMany_39 rfl ?_
            refine lv_goto (tgt := 44) hx hb dX5_newMany_40 rfl ?_
            refine lv_istore_n (lv' := [(3, .int 1), (0, .ref h), (1, .int x1), (2, .int x2), (4, .int x4)]) hx hb dX5_newMany_44 rfl hl (by decide) rfl (fun ls hl => ?_)
            refine lv_iinc (v := x4 + 1) (lv' := [(4, .int (x4 + 1)), (3, .int 1), (0, .ref h), (1, .int x1), (2, .int x2)]) hx hb dX5_newMany_45 hl (k := 4) rfl rfl (by decide) rfl (fun ls hl => ?_)
            refine lv_goto (tgt := 17) hx hb dX5_newMany_48 rfl ?_
            exact ih r4.2.1 r4.2.2.1 r4.2.2.2.1 r4.2.2.2.2 1 (x4 + 1) out hrun K _ _ _ I (lv_sub hl [2, 3, 4, 1, 0] rfl)
  have loop_4 : ∀ (n : Nat) (v_size : Int32) (v_at : Nat → Int32) (v_otherSize : Int32) (v_other : Nat → Int32) (x1 : Int32) (x2 : Int32) (out : Int32 × (Nat → Int32) × Int32 × (Nat → Int32) × Int32), P5_newMany_4 v_roads v_lengths v_signs n v_size v_at v_otherSize v_other x1 x2 = some out → (∀ (H : Heap) (locs : List Loc) (ls : Array Slot), IM D (va_A (WM0 h ad cA) sz) s.heap H locs (WM h ad cA v_pageLength v_page v_roads v_lengths v_signs v_wordsRead v_disc v_forms v_formA v_formB v_formC v_nextOf v_cycleOf v_cycles v_firstOf v_newLength v_newSigns v_mayRun out.1 out.2.1 out.2.2.1 out.2.2.2.1 v_tableA v_tableB v_tableC v_tableD v_a v_b v_c v_grade v_flowA v_flowB v_flowC v_seedNow v_h) → lv_has ls 5 [(1, .int out.2.2.2.2)] → W p l e rm5_newMany s m args below meth c H locs 0 0 Q (F0 m 69 ls [])) → ∀ (H : Heap) (locs : List Loc) (ls : Array Slot), IM D (va_A (WM0 h ad cA) sz) s.heap H locs (WM h ad cA v_pageLength v_page v_roads v_lengths v_signs v_wordsRead v_disc v_forms v_formA v_formB v_formC v_nextOf v_cycleOf v_cycles v_firstOf v_newLength v_newSigns v_mayRun v_size v_at v_otherSize v_other v_tableA v_tableB v_tableC v_tableD v_a v_b v_c v_grade v_flowA v_flowB v_flowC v_seedNow v_h) → lv_has ls 5 [(0, .ref h), (1, .int x1), (2, .int x2)] → W p l e rm5_newMany s m args below meth c H locs 0 0 Q (F0 m 4 ls []) := by
    intro n
    induction n with
    | zero =>
      intro v_size v_at v_otherSize v_other x1 x2 out hrun K H locs ls I hl
      cases hrun
    | succ n ih =>
      intro v_size v_at v_otherSize v_other x1 x2 out hrun K H locs ls I hl
      rw [P5_newMany_4] at hrun
      refine lv_iload_n hx hb dX5_newMany_4 rfl (lv_at hl 2 rfl) ?_
      refine lv_aload_n hx hb dX5_newMany_5 rfl (lv_at hl 0 rfl) ?_
      refine gM_roads C inm5_newMany hK I.1 fl5_newMany_75 dX5_newMany_6 ?_
      refine lv_icmp_ge (tgt := 69) hx hb dX5_newMany_9 rfl (fun c1 => ?_) (fun c1 => ?_)
      · have hrun := p_pos hrun c1
        cases hrun
        exact K _ _ _ I (lv_sub hl [1] rfl)
      · have hrun := p_neg hrun c1
        refine lv_iconst (v := 1) hx hb dX5_newMany_12 rfl ?_
        refine lv_istore_n (lv' := [(3, .int 1), (0, .ref h), (1, .int x1), (2, .int x2)]) hx hb dX5_newMany_13 rfl hl (by decide) rfl (fun ls hl => ?_)
        refine lv_iconst (v := 0) hx hb dX5_newMany_14 rfl ?_
        refine lv_istore (lv' := [(4, .int 0), (3, .int 1), (0, .ref h), (1, .int x1), (2, .int x2)]) hx hb dX5_newMany_15 hl (by decide) rfl (fun ls hl => ?_)
        obtain ⟨o6, h_o6, hrun⟩ := p_bnd hrun
        refine loop_17 x1 x2 FU v_size v_at v_otherSize v_other 1 0 o6 h_o6 (fun H locs ls I hl => ?_) _ _ _ I (lv_sub hl [2, 3, 4, 1, 0] rfl)
        refine lv_iload_n hx hb dX5_newMany_51 rfl (lv_at hl 1 rfl) ?_
        refine lv_iload_n hx hb dX5_newMany_52 rfl (lv_at hl 3 rfl) ?_
        refine lv_if_eq (tgt := 60) hx hb dX5_newMany_53 rfl (fun c7 => ?_) (fun c7 => ?_)
        · have hrun := p_pos hrun c7
          refine lv_iconst (v := 0) hx hb dX5_newMany_60 rfl ?_
          refine lv_iadd hx hb dX5_newMany_61 ?_
          refine lv_istore_n (lv' := [(1, .int (x1 + 0)), (0, .ref h), (2, .int x2), (3, .int o6.2.2.2.2)]) hx hb dX5_newMany_62 rfl hl (by decide) rfl (fun ls hl => ?_)
          refine lv_iinc (v := x2 + 1) (lv' := [(2, .int (x2 + 1)), (1, .int (x1 + 0)), (0, .ref h), (3, .int o6.2.2.2.2)]) hx hb dX5_newMany_63 hl (k := 2) rfl rfl (by decide) rfl (fun ls hl => ?_)
          refine lv_goto (tgt := 4) hx hb dX5_newMany_66 rfl ?_
          exact ih o6.1 o6.2.1 o6.2.2.1 o6.2.2.2.1 (x1 + 0) (x2 + 1) out hrun K _ _ _ I (lv_sub hl [2, 1, 0] rfl)
        · have hrun := p_neg hrun c7
          refine lv_iconst (v := 1) hx hb dX5_newMany_56 rfl ?_
          refine lv_goto (tgt := 61) hx hb dX5_newMany_57 rfl ?_
          refine lv_iadd hx hb dX5_newMany_61 ?_
          refine lv_istore_n (lv' := [(1, .int (x1 + 1)), (0, .ref h), (2, .int x2), (3, .int o6.2.2.2.2)]) hx hb dX5_newMany_62 rfl hl (by decide) rfl (fun ls hl => ?_)
          refine lv_iinc (v := x2 + 1) (lv' := [(2, .int (x2 + 1)), (1, .int (x1 + 1)), (0, .ref h), (3, .int o6.2.2.2.2)]) hx hb dX5_newMany_63 hl (k := 2) rfl rfl (by decide) rfl (fun ls hl => ?_)
          refine lv_goto (tgt := 4) hx hb dX5_newMany_66 rfl ?_
          exact ih o6.1 o6.2.1 o6.2.2.1 o6.2.2.2.1 (x1 + 1) (x2 + 1) out hrun K _ _ _ I (lv_sub hl [2, 1, 0] rfl)
  unfold P5_newMany at hrun
  refine lv_iconst (v := 0) hx hb dX5_newMany_0 rfl ?_
  refine lv_istore_n (lv' := [(1, .int 0), (0, .ref h)]) hx hb dX5_newMany_1 rfl hl (by decide) rfl (fun ls hl => ?_)
  refine lv_iconst (v := 0) hx hb dX5_newMany_2 rfl ?_
  refine lv_istore_n (lv' := [(2, .int 0), (1, .int 0), (0, .ref h)]) hx hb dX5_newMany_3 rfl hl (by decide) rfl (fun ls hl => ?_)
  obtain ⟨o8, h_o8, hrun⟩ := p_bnd hrun
  refine loop_4 FU v_size v_at v_otherSize v_other 0 0 o8 h_o8 (fun H locs ls I hl => ?_) _ _ _ I (lv_sub hl [2, 1, 0] rfl)
  refine lv_iload_n hx hb dX5_newMany_69 rfl (lv_at hl 0 rfl) ?_
  cases hrun
  exact rE_i C hr hlk hQ I (nbi _) rfl dX5_newMany_70

abbrev rm5_howMany : Room := { frames := 4, cells := 0, slots := 0, locals := 85 }
theorem fl5_howMany_55 : Cond.fieldLink RX5 55 "RiverWordsModel" "pageLength" "I" ∈ wsX5_howMany := by decide +kernel
theorem fl5_howMany_75 : Cond.fieldLink RX5 75 "RiverWordsModel" "roads" "I" ∈ wsX5_howMany := by decide +kernel
theorem fl5_howMany_79 : Cond.fieldLink RX5 79 "RiverWordsModel" "wordsRead" "I" ∈ wsX5_howMany := by decide +kernel
theorem fl5_howMany_212 : Cond.fieldLink RX5 212 "RiverWordsModel" "forms" "I" ∈ wsX5_howMany := by decide +kernel
theorem fl5_howMany_224 : Cond.fieldLink RX5 224 "RiverWordsModel" "cycles" "I" ∈ wsX5_howMany := by decide +kernel
theorem k5_howMany_54 : Cond.constant RX5 54 (-2000000102) ∈ wsX5_howMany := by decide +kernel
theorem inm5_howMany : ∀ w ∈ wsX50, w ∈ wsX5_howMany := fun w h => by unfold wsX5_howMany; first | exact List.mem_cons_of_mem _ (List.mem_append_right _ h) | exact List.mem_cons_of_mem _ h
theorem hd5_howMany : okD yX5_howMany 1 := by decide +kernel
set_option maxHeartbeats 8000000 in
set_option maxRecDepth 100000 in
theorem c5_howMany {x1 : Int32} {res : Int32 × Int32 × (Nat → Int32) × Int32 × (Nat → Int32)} (hrun : P5_howMany v_pageLength v_roads v_lengths v_signs v_wordsRead v_forms v_cycles v_size v_at v_otherSize v_other x1 = some res) : Met l yX5_howMany wsX5_howMany rm5_howMany (va_Pc [.ref h, .int x1] (PE D [(cA, .int)] sz (WM0 h ad cA) (WM h ad cA v_pageLength v_page v_roads v_lengths v_signs v_wordsRead v_disc v_forms v_formA v_formB v_formC v_nextOf v_cycleOf v_cycles v_firstOf v_newLength v_newSigns v_mayRun v_size v_at v_otherSize v_other v_tableA v_tableB v_tableC v_tableD v_a v_b v_c v_grade v_flowA v_flowB v_flowC v_seedNow v_h))) (va_Qi (fun (x : Int32) (_ : Unit) => x = res.1) (fun _ t => va_P D vwCl (WM h ad cA v_pageLength v_page v_roads v_lengths v_signs v_wordsRead v_disc v_forms v_formA v_formB v_formC v_nextOf v_cycleOf v_cycles v_firstOf v_newLength v_newSigns v_mayRun res.2.1 res.2.2.1 res.2.2.2.1 res.2.2.2.2 v_tableA v_tableB v_tableC v_tableD v_a v_b v_c v_grade v_flowA v_flowB v_flowC v_seedNow v_h) t.heap) (va_A (WM0 h ad cA) sz)) 0 0 (va_A (WM0 h ad cA) sz) := by
  refine E_in (cc := cX5_howMany) (maxL := 2) (ret := (some .int)) (by decide) rfl (Nat.le_of_ble_eq_true rfl) ?_
  intro p e s m args below meth c ls Q hQ C hr hlk hK hN hD hA I hl
  have C : CallFix p m c cX5_howMany 2 s args wsX5_howMany RX5 := C
  have hx := C.1
  have hb := C.2.1
  have hl : lv_has ls 2 [(0, .ref h), (1, .int x1)] := hl
  unfold P5_howMany at hrun
  refine lv_iload_n hx hb dX5_howMany_0 rfl (lv_at hl 1 rfl) ?_
  by_cases c1 : x1 = 0
  · have hrun := p_pos hrun c1
    refine j_tswIn  (tgt := 44) hx hb 0 c1 dX5_howMany_1 (by decide) (by decide) rfl rfl ?_
    refine lv_aload_n hx hb dX5_howMany_44 rfl (lv_at hl 0 rfl) ?_
    refine gM_roads C inm5_howMany hK I.1 fl5_howMany_75 dX5_howMany_45 ?_
    cases hrun
    exact rE_i C hr hlk hQ I (nbi _) rfl dX5_howMany_48
  · have hrun := p_neg hrun c1
    by_cases c2 : x1 = 1
    · have hrun := p_pos hrun c2
      refine j_tswIn  (tgt := 49) hx hb 1 c2 dX5_howMany_1 (by decide) (by decide) rfl rfl ?_
      refine lv_aload_n hx hb dX5_howMany_49 rfl (lv_at hl 0 rfl) ?_
      obtain ⟨r3, h_r3, hrun⟩ := p_bnd hrun
      refine jVE_i (rest := []) C (c5_closedMany h_r3) gX5_howMany_X5_closedMany hd5_closedMany hK hN hD hA I rcM rfl ⟨rfl, rfl⟩ ⟨Nat.le_of_ble_eq_true rfl, Nat.le_of_ble_eq_true rfl⟩ rfl hl.1 rfl (Nat.le_of_ble_eq_true rfl) ⟨Nat.le_of_ble_eq_true rfl, Nat.le_of_ble_eq_true rfl⟩ dX5_howMany_50 (fun H locs I => ?_)
      cases hrun
      exact rE_i C hr hlk hQ I (nbi _) rfl dX5_howMany_53
    · have hrun := p_neg hrun c2
      by_cases c4 : x1 = 2
      · have hrun := p_pos hrun c4
        refine j_tswIn  (tgt := 54) hx hb 2 c4 dX5_howMany_1 (by decide) (by decide) rfl rfl ?_
        refine lv_aload_n hx hb dX5_howMany_54 rfl (lv_at hl 0 rfl) ?_
        obtain ⟨r5, h_r5, hrun⟩ := p_bnd hrun
        refine jVE_i (rest := []) C (c5_newMany h_r5) gX5_howMany_X5_newMany hd5_newMany hK hN hD hA I rcM rfl ⟨rfl, rfl⟩ ⟨Nat.le_of_ble_eq_true rfl, Nat.le_of_ble_eq_true rfl⟩ rfl hl.1 rfl (Nat.le_of_ble_eq_true rfl) ⟨Nat.le_of_ble_eq_true rfl, Nat.le_of_ble_eq_true rfl⟩ dX5_howMany_55 (fun H locs I => ?_)
        cases hrun
        exact rE_i C hr hlk hQ I (nbi _) rfl dX5_howMany_58
      · have hrun := p_neg hrun c4
        by_cases c6 : x1 = 3
        · have hrun := p_pos hrun c6
          refine j_tswIn  (tgt := 59) hx hb 3 c6 dX5_howMany_1 (by decide) (by decide) rfl rfl ?_
          refine lv_aload_n hx hb dX5_howMany_59 rfl (lv_at hl 0 rfl) ?_
          refine gM_pageLength C inm5_howMany hK I.1 fl5_howMany_55 dX5_howMany_60 ?_
          cases hrun
          exact rE_i C hr hlk hQ I (nbi _) rfl dX5_howMany_63
        · have hrun := p_neg hrun c6
          by_cases c7 : x1 = 4
          · have hrun := p_pos hrun c7
            refine j_tswIn  (tgt := 64) hx hb 4 c7 dX5_howMany_1 (by decide) (by decide) rfl rfl ?_
            refine lv_aload_n hx hb dX5_howMany_64 rfl (lv_at hl 0 rfl) ?_
            refine gM_wordsRead C inm5_howMany hK I.1 fl5_howMany_79 dX5_howMany_65 ?_
            cases hrun
            exact rE_i C hr hlk hQ I (nbi _) rfl dX5_howMany_68
          · have hrun := p_neg hrun c7
            by_cases c8 : x1 = 5
            · have hrun := p_pos hrun c8
              refine j_tswIn  (tgt := 69) hx hb 5 c8 dX5_howMany_1 (by decide) (by decide) rfl rfl ?_
              refine lv_aload_n hx hb dX5_howMany_69 rfl (lv_at hl 0 rfl) ?_
              refine gM_forms C inm5_howMany hK I.1 fl5_howMany_212 dX5_howMany_70 ?_
              cases hrun
              exact rE_i C hr hlk hQ I (nbi _) rfl dX5_howMany_73
            · have hrun := p_neg hrun c8
              by_cases c9 : x1 = 6
              · have hrun := p_pos hrun c9
                refine j_tswIn  (tgt := 74) hx hb 6 c9 dX5_howMany_1 (by decide) (by decide) rfl rfl ?_
                refine lv_aload_n hx hb dX5_howMany_74 rfl (lv_at hl 0 rfl) ?_
                refine gM_cycles C inm5_howMany hK I.1 fl5_howMany_224 dX5_howMany_75 ?_
                cases hrun
                exact rE_i C hr hlk hQ I (nbi _) rfl dX5_howMany_78
              · have hrun := p_neg hrun c9
                refine lv_tableOut (tgt := 79) hx hb dX5_howMany_1 (j_tswOut (lo := 0) (hi := 6) [0, 1, 2, 3, 4, 5, 6] (by decide) (fun k hk => by simp only [List.mem_cons, List.not_mem_nil, or_false] at hk; rcases hk with rfl | rfl | rfl | rfl | rfl | rfl | rfl <;> assumption)) rfl ?_
                refine lv_ldc (v := (-2000000102)) hx hb C.2.2.2.1 (C.2.2.2.2 _ k5_howMany_54) dX5_howMany_79 ?_
                cases hrun
                exact rE_i C hr hlk hQ I (nbi _) rfl dX5_howMany_81

abbrev rm5_count : Room := { frames := 5, cells := 0, slots := 0, locals := 106 }
theorem hd5_count : okD yX5_count 1 := by decide +kernel
set_option maxHeartbeats 8000000 in
set_option maxRecDepth 100000 in
theorem c5_count {x1 : Int32} {res : Int32 × Int32 × (Nat → Int32) × Int32 × (Nat → Int32)} (hrun : P5_count v_pageLength v_roads v_lengths v_signs v_wordsRead v_forms v_cycles v_size v_at v_otherSize v_other x1 = some res) : Met l yX5_count wsX5_count rm5_count (va_Pc [.ref h, .int x1] (PE D [(cA, .int)] sz (WM0 h ad cA) (WM h ad cA v_pageLength v_page v_roads v_lengths v_signs v_wordsRead v_disc v_forms v_formA v_formB v_formC v_nextOf v_cycleOf v_cycles v_firstOf v_newLength v_newSigns v_mayRun v_size v_at v_otherSize v_other v_tableA v_tableB v_tableC v_tableD v_a v_b v_c v_grade v_flowA v_flowB v_flowC v_seedNow v_h))) (va_Qi (fun (x : Int32) (_ : Unit) => x = res.1) (fun _ t => va_P D vwCl (WM h ad cA v_pageLength v_page v_roads v_lengths v_signs v_wordsRead v_disc v_forms v_formA v_formB v_formC v_nextOf v_cycleOf v_cycles v_firstOf v_newLength v_newSigns v_mayRun res.2.1 res.2.2.1 res.2.2.2.1 res.2.2.2.2 v_tableA v_tableB v_tableC v_tableD v_a v_b v_c v_grade v_flowA v_flowB v_flowC v_seedNow v_h) t.heap) (va_A (WM0 h ad cA) sz)) 0 0 (va_A (WM0 h ad cA) sz) := by
  refine E_in (cc := cX5_count) (maxL := 2) (ret := (some .int)) (by decide) rfl (Nat.le_of_ble_eq_true rfl) ?_
  intro p e s m args below meth c ls Q hQ C hr hlk hK hN hD hA I hl
  have C : CallFix p m c cX5_count 2 s args wsX5_count RX5 := C
  have hx := C.1
  have hb := C.2.1
  have hl : lv_has ls 2 [(0, .ref h), (1, .int x1)] := hl
  unfold P5_count at hrun
  refine lv_aload_n hx hb dX5_count_0 rfl (lv_at hl 0 rfl) ?_
  refine lv_iload_n hx hb dX5_count_1 rfl (lv_at hl 1 rfl) ?_
  obtain ⟨r1, h_r1, hrun⟩ := p_bnd hrun
  refine jVE_i (rest := []) C (c5_howMany h_r1) gX5_count_X5_howMany hd5_howMany hK hN hD hA I rcM rfl ⟨rfl, rfl⟩ ⟨Nat.le_of_ble_eq_true rfl, Nat.le_of_ble_eq_true rfl⟩ rfl hl.1 rfl (Nat.le_of_ble_eq_true rfl) ⟨Nat.le_of_ble_eq_true rfl, Nat.le_of_ble_eq_true rfl⟩ dX5_count_2 (fun H locs I => ?_)
  cases hrun
  exact rE_i C hr hlk hQ I (nbi _) rfl dX5_count_5

abbrev rm5_mix : Room := { frames := 0, cells := 0, slots := 0, locals := 0 }
theorem fl5_mix_308 : Cond.fieldLink RX5 308 "RiverWordsModel" "h" "J" ∈ wsX5_mix := by decide +kernel
theorem k5_mix_306 : Cond.constantLong RX5 306 31 ∈ wsX5_mix := by decide +kernel
theorem inm5_mix : ∀ w ∈ wsX50, w ∈ wsX5_mix := fun w h => by unfold wsX5_mix; first | exact List.mem_cons_of_mem _ (List.mem_append_right _ h) | exact List.mem_cons_of_mem _ h
theorem hd5_mix : okD yX5_mix 1 := by decide +kernel
set_option maxHeartbeats 8000000 in
set_option maxRecDepth 100000 in
theorem c5_mix {l1 : Int64} {res : Int64} (hrun : P5_mix v_h l1 = some res) : Met l yX5_mix wsX5_mix rm5_mix (va_Pc [.ref h, .long l1] (PE D [(cA, .int)] sz (WM0 h ad cA) (WM h ad cA v_pageLength v_page v_roads v_lengths v_signs v_wordsRead v_disc v_forms v_formA v_formB v_formC v_nextOf v_cycleOf v_cycles v_firstOf v_newLength v_newSigns v_mayRun v_size v_at v_otherSize v_other v_tableA v_tableB v_tableC v_tableD v_a v_b v_c v_grade v_flowA v_flowB v_flowC v_seedNow v_h))) (va_Qv (fun _ : Unit => True) (fun _ t => va_P D vwCl (WM h ad cA v_pageLength v_page v_roads v_lengths v_signs v_wordsRead v_disc v_forms v_formA v_formB v_formC v_nextOf v_cycleOf v_cycles v_firstOf v_newLength v_newSigns v_mayRun v_size v_at v_otherSize v_other v_tableA v_tableB v_tableC v_tableD v_a v_b v_c v_grade v_flowA v_flowB v_flowC v_seedNow res) t.heap) (va_A (WM0 h ad cA) sz)) 0 0 (va_A (WM0 h ad cA) sz) := by
  refine E_in (cc := cX5_mix) (maxL := 3) (ret := none) (by decide) rfl (Nat.le_of_ble_eq_true rfl) ?_
  intro p e s m args below meth c ls Q hQ C hr hlk hK hN hD hA I hl
  have C : CallFix p m c cX5_mix 3 s args wsX5_mix RX5 := C
  have hx := C.1
  have hb := C.2.1
  have hl : lv_has ls 3 [(0, .ref h), (1, .long l1)] := hl
  unfold P5_mix at hrun
  refine lv_aload_n hx hb dX5_mix_0 rfl (lv_at hl 0 rfl) ?_
  refine lv_ldc2 (v := 31) hx hb C.2.2.2.1 (C.2.2.2.2 _ k5_mix_306) dX5_mix_1 ?_
  refine lv_aload_n hx hb dX5_mix_4 rfl (lv_at hl 0 rfl) ?_
  refine gM_h C inm5_mix hK I.1 fl5_mix_308 dX5_mix_5 ?_
  refine lv_lmul hx hb dX5_mix_8 ?_
  refine lv_lload_n hx hb dX5_mix_9 rfl (lv_at hl 1 rfl) ?_
  refine lv_ladd hx hb dX5_mix_10 ?_
  refine pM_h C inm5_mix hK hD I fl5_mix_308 dX5_mix_11 (fun H locs I => ?_)
  cases hrun
  exact rE_v C hr hlk hQ I dX5_mix_14

abbrev rm5_mixRoad : Room := { frames := 4, cells := 0, slots := 0, locals := 87 }
theorem fl5_mixRoad_13 : Cond.fieldLink RX5 13 "RiverWordsModel" "lengths" "[I" ∈ wsX5_mixRoad := by decide +kernel
theorem fl5_mixRoad_16 : Cond.fieldLink RX5 16 "RiverWordsModel" "signs" "[I" ∈ wsX5_mixRoad := by decide +kernel
theorem inm5_mixRoad : ∀ w ∈ wsX50, w ∈ wsX5_mixRoad := fun w h => by unfold wsX5_mixRoad; first | exact List.mem_cons_of_mem _ (List.mem_append_right _ h) | exact List.mem_cons_of_mem _ h
theorem hd5_mixRoad : okD yX5_mixRoad 1 := by decide +kernel
set_option maxHeartbeats 8000000 in
set_option maxRecDepth 100000 in
theorem c5_mixRoad {x1 : Int32} {res : Int32 × (Nat → Int32) × Int32 × (Nat → Int32) × Int32 × Int32 × Int32 × Int32 × Int32 × Int32 × Int32 × Int32 × Int64} (hrun : P5_mixRoad v_lengths v_signs v_at v_otherSize v_other v_tableA v_tableB v_tableC v_tableD v_a v_b v_c v_grade v_h x1 = some res) : Met l yX5_mixRoad wsX5_mixRoad rm5_mixRoad (va_Pc [.ref h, .int x1] (PE D [(cA, .int)] sz (WM0 h ad cA) (WM h ad cA v_pageLength v_page v_roads v_lengths v_signs v_wordsRead v_disc v_forms v_formA v_formB v_formC v_nextOf v_cycleOf v_cycles v_firstOf v_newLength v_newSigns v_mayRun v_size v_at v_otherSize v_other v_tableA v_tableB v_tableC v_tableD v_a v_b v_c v_grade v_flowA v_flowB v_flowC v_seedNow v_h))) (va_Qv (fun _ : Unit => True) (fun _ t => va_P D vwCl (WM h ad cA v_pageLength v_page v_roads v_lengths v_signs v_wordsRead v_disc v_forms v_formA v_formB v_formC v_nextOf v_cycleOf v_cycles v_firstOf v_newLength v_newSigns v_mayRun res.1 res.2.1 res.2.2.1 res.2.2.2.1 res.2.2.2.2.1 res.2.2.2.2.2.1 res.2.2.2.2.2.2.1 res.2.2.2.2.2.2.2.1 res.2.2.2.2.2.2.2.2.1 res.2.2.2.2.2.2.2.2.2.1 res.2.2.2.2.2.2.2.2.2.2.1 res.2.2.2.2.2.2.2.2.2.2.2.1 v_flowA v_flowB v_flowC v_seedNow res.2.2.2.2.2.2.2.2.2.2.2.2) t.heap) (va_A (WM0 h ad cA) sz)) 0 0 (va_A (WM0 h ad cA) sz) := by
  refine E_in (cc := cX5_mixRoad) (maxL := 4) (ret := none) (by decide) rfl (Nat.le_of_ble_eq_true rfl) ?_
  intro p e s m args below meth c ls Q hQ C hr hlk hK hN hD hA I hl
  have C : CallFix p m c cX5_mixRoad 4 s args wsX5_mixRoad RX5 := C
  have hx := C.1
  have hb := C.2.1
  have hl : lv_has ls 4 [(0, .ref h), (1, .int x1)] := hl
  have loop_2 : ∀ (v_a : Int32) (v_b : Int32) (v_c : Int32) (v_grade : Int32) (n : Nat) (v_size : Int32) (v_at : Nat → Int32) (v_otherSize : Int32) (v_other : Nat → Int32) (v_tableA : Int32) (v_tableB : Int32) (v_tableC : Int32) (v_tableD : Int32) (v_h : Int64) (x2 : Int32) (out : (Nat → Int32) × Int32 × (Nat → Int32) × Int64), P5_mixRoad_2 v_lengths v_signs x1 n v_at v_otherSize v_other v_tableA v_tableB v_tableC v_tableD v_h x2 = some out → (∀ (u_size : Int32) (u_tableA : Int32) (u_tableB : Int32) (u_tableC : Int32) (u_tableD : Int32) (H : Heap) (locs : List Loc) (ls : Array Slot), IM D (va_A (WM0 h ad cA) sz) s.heap H locs (WM h ad cA v_pageLength v_page v_roads v_lengths v_signs v_wordsRead v_disc v_forms v_formA v_formB v_formC v_nextOf v_cycleOf v_cycles v_firstOf v_newLength v_newSigns v_mayRun u_size out.1 out.2.1 out.2.2.1 u_tableA u_tableB u_tableC u_tableD v_a v_b v_c v_grade v_flowA v_flowB v_flowC v_seedNow out.2.2.2) → lv_has ls 4 [(0, .ref h), (1, .int x1)] → W p l e rm5_mixRoad s m args below meth c H locs 0 0 Q (F0 m 25 ls [])) → ∀ (H : Heap) (locs : List Loc) (ls : Array Slot), IM D (va_A (WM0 h ad cA) sz) s.heap H locs (WM h ad cA v_pageLength v_page v_roads v_lengths v_signs v_wordsRead v_disc v_forms v_formA v_formB v_formC v_nextOf v_cycleOf v_cycles v_firstOf v_newLength v_newSigns v_mayRun v_size v_at v_otherSize v_other v_tableA v_tableB v_tableC v_tableD v_a v_b v_c v_grade v_flowA v_flowB v_flowC v_seedNow v_h) → lv_has ls 4 [(0, .ref h), (1, .int x1), (2, .int x2)] → W p l e rm5_mixRoad s m args below meth c H locs 0 0 Q (F0 m 2 ls []) := by
    intro v_a v_b v_c v_grade n
    induction n with
    | zero =>
      intro v_size v_at v_otherSize v_other v_tableA v_tableB v_tableC v_tableD v_h x2 out hrun K H locs ls I hl
      cases hrun
    | succ n ih =>
      intro v_size v_at v_otherSize v_other v_tableA v_tableB v_tableC v_tableD v_h x2 out hrun K H locs ls I hl
      rw [P5_mixRoad_2] at hrun
      refine lv_iload_n hx hb dX5_mixRoad_2 rfl (lv_at hl 2 rfl) ?_
      refine lv_bipush (v := 10) hx hb dX5_mixRoad_3 rfl ?_
      refine lv_icmp_ge (tgt := 25) hx hb dX5_mixRoad_5 rfl (fun c1 => ?_) (fun c1 => ?_)
      · have hrun := p_pos hrun c1
        cases hrun
        exact K _ _ _ _ _ _ _ _ I (lv_sub hl [0, 1] rfl)
      · have hrun := p_neg hrun c1
        refine lv_aload_n hx hb dX5_mixRoad_8 rfl (lv_at hl 0 rfl) ?_
        refine lv_aload_n hx hb dX5_mixRoad_9 rfl (lv_at hl 0 rfl) ?_
        refine lv_iload_n hx hb dX5_mixRoad_10 rfl (lv_at hl 1 rfl) ?_
        refine lv_iload_n hx hb dX5_mixRoad_11 rfl (lv_at hl 2 rfl) ?_
        obtain ⟨r2, h_r2, hrun⟩ := p_bnd hrun
        refine jVE_i (rest := [.ref h]) C (c5_roadNow h_r2) gX5_mixRoad_X5_roadNow hd5_roadNow hK hN hD hA I rcM rfl ⟨rfl, rfl⟩ ⟨Nat.le_of_ble_eq_true rfl, Nat.le_of_ble_eq_true rfl⟩ rfl hl.1 rfl (Nat.le_of_ble_eq_true rfl) ⟨Nat.le_of_ble_eq_true rfl, Nat.le_of_ble_eq_true rfl⟩ dX5_mixRoad_12 (fun H locs I => ?_)
        refine lv_i2l (v := Int32.toInt64 r2.1) hx hb dX5_mixRoad_15 rfl ?_
        obtain ⟨r3, h_r3, hrun⟩ := p_bnd hrun
        refine jVE_v (rest := []) C (c5_mix h_r3) gX5_mixRoad_X5_mix hd5_mix hK hN hD hA I rcM rfl ⟨rfl, rfl⟩ ⟨Nat.le_of_ble_eq_true rfl, Nat.le_of_ble_eq_true rfl⟩ rfl hl.1 rfl (Nat.le_of_ble_eq_true rfl) ⟨Nat.le_of_ble_eq_true rfl, Nat.le_of_ble_eq_true rfl⟩ dX5_mixRoad_16 (fun H locs I => ?_)
        refine lv_iinc (v := x2 + 1) (lv' := [(2, .int (x2 + 1)), (0, .ref h), (1, .int x1)]) hx hb dX5_mixRoad_19 hl (k := 2) rfl rfl (by decide) rfl (fun ls hl => ?_)
        refine lv_goto (tgt := 2) hx hb dX5_mixRoad_22 rfl ?_
        exact ih _ r2.2.2.1 r2.2.2.2.1 r2.2.2.2.2.1 r2.2.2.2.2.2.1 r2.2.2.2.2.2.2.1 r2.2.2.2.2.2.2.2.1 r2.2.2.2.2.2.2.2.2 r3 (x2 + 1) out hrun K _ _ _ I (lv_sub hl [1, 2, 0] rfl)
  have loop_27 : ∀ (v_size : Int32) (v_at : Nat → Int32) (v_otherSize : Int32) (v_other : Nat → Int32) (v_tableA : Int32) (v_tableB : Int32) (v_tableC : Int32) (v_tableD : Int32) (v_a : Int32) (v_b : Int32) (v_c : Int32) (v_grade : Int32) (n : Nat) (v_h : Int64) (x2 : Int32) (out : Int64), P5_mixRoad_27 v_lengths v_signs x1 n v_h x2 = some out → (∀ (H : Heap) (locs : List Loc) (ls : Array Slot), IM D (va_A (WM0 h ad cA) sz) s.heap H locs (WM h ad cA v_pageLength v_page v_roads v_lengths v_signs v_wordsRead v_disc v_forms v_formA v_formB v_formC v_nextOf v_cycleOf v_cycles v_firstOf v_newLength v_newSigns v_mayRun v_size v_at v_otherSize v_other v_tableA v_tableB v_tableC v_tableD v_a v_b v_c v_grade v_flowA v_flowB v_flowC v_seedNow out) → lv_has ls 4 [(0, .ref h), (1, .int x1)] → W p l e rm5_mixRoad s m args below meth c H locs 0 0 Q (F0 m 62 ls [])) → ∀ (H : Heap) (locs : List Loc) (ls : Array Slot), IM D (va_A (WM0 h ad cA) sz) s.heap H locs (WM h ad cA v_pageLength v_page v_roads v_lengths v_signs v_wordsRead v_disc v_forms v_formA v_formB v_formC v_nextOf v_cycleOf v_cycles v_firstOf v_newLength v_newSigns v_mayRun v_size v_at v_otherSize v_other v_tableA v_tableB v_tableC v_tableD v_a v_b v_c v_grade v_flowA v_flowB v_flowC v_seedNow v_h) → lv_has ls 4 [(0, .ref h), (1, .int x1), (2, .int x2)] → W p l e rm5_mixRoad s m args below meth c H locs 0 0 Q (F0 m 27 ls []) := by
    intro v_size v_at v_otherSize v_other v_tableA v_tableB v_tableC v_tableD v_a v_b v_c v_grade n
    induction n with
    | zero =>
      intro v_h x2 out hrun K H locs ls I hl
      cases hrun
    | succ n ih =>
      intro v_h x2 out hrun K H locs ls I hl
      rw [P5_mixRoad_27] at hrun
      refine lv_iload_n hx hb dX5_mixRoad_27 rfl (lv_at hl 2 rfl) ?_
      refine lv_aload_n hx hb dX5_mixRoad_28 rfl (lv_at hl 0 rfl) ?_
      refine gM_lengths C inm5_mixRoad hK I.1 fl5_mixRoad_13 dX5_mixRoad_29 ?_
      refine lv_iload_n hx hb dX5_mixRoad_32 rfl (lv_at hl 1 rfl) ?_
      obtain ⟨b10, hrun⟩ := p_chk hrun
      refine ldM_lengths C hK I.1 b10 dX5_mixRoad_33 ?_
      refine lv_icmp_ge (tgt := 62) hx hb dX5_mixRoad_34 rfl (fun c11 => ?_) (fun c11 => ?_)
      · have hrun := p_pos hrun c11
        cases hrun
        exact K _ _ _ I (lv_sub hl [0, 1] rfl)
      · have hrun := p_neg hrun c11
        refine lv_aload_n hx hb dX5_mixRoad_37 rfl (lv_at hl 0 rfl) ?_
        refine lv_aload_n hx hb dX5_mixRoad_38 rfl (lv_at hl 0 rfl) ?_
        refine gM_signs C inm5_mixRoad hK I.1 fl5_mixRoad_16 dX5_mixRoad_39 ?_
        refine lv_bipush (v := 20) hx hb dX5_mixRoad_42 rfl ?_
        refine lv_iload_n hx hb dX5_mixRoad_44 rfl (lv_at hl 1 rfl) ?_
        refine lv_imul hx hb dX5_mixRoad_45 ?_
        refine lv_iload_n hx hb dX5_mixRoad_46 rfl (lv_at hl 2 rfl) ?_
        refine lv_iadd hx hb dX5_mixRoad_47 ?_
        obtain ⟨b12, hrun⟩ := p_chk hrun
        refine ldM_signs C hK I.1 b12 dX5_mixRoad_48 ?_
        obtain ⟨r13, h_r13, hrun⟩ := p_bnd hrun
        refine jSS_i (rest := [.ref h]) C (c5_codeOf h_r13) gX5_mixRoad_X5_codeOf hd5_codeOf rfl ⟨rfl, rfl⟩ ⟨Nat.le_of_ble_eq_true rfl, Nat.le_of_ble_eq_true rfl⟩ rfl hl.1 rfl (Nat.le_of_ble_eq_true rfl) ⟨Nat.le_of_ble_eq_true rfl, Nat.le_of_ble_eq_true rfl⟩ dX5_mixRoad_49 ?_
        refine lv_i2l (v := Int32.toInt64 r13) hx hb dX5_mixRoad_52 rfl ?_
        obtain ⟨r14, h_r14, hrun⟩ := p_bnd hrun
        refine jVE_v (rest := []) C (c5_mix h_r14) gX5_mixRoad_X5_mix hd5_mix hK hN hD hA I rcM rfl ⟨rfl, rfl⟩ ⟨Nat.le_of_ble_eq_true rfl, Nat.le_of_ble_eq_true rfl⟩ rfl hl.1 rfl (Nat.le_of_ble_eq_true rfl) ⟨Nat.le_of_ble_eq_true rfl, Nat.le_of_ble_eq_true rfl⟩ dX5_mixRoad_53 (fun H locs I => ?_)
        refine lv_iinc (v := x2 + 1) (lv' := [(2, .int (x2 + 1)), (0, .ref h), (1, .int x1)]) hx hb dX5_mixRoad_56 hl (k := 2) rfl rfl (by decide) rfl (fun ls hl => ?_)
        refine lv_goto (tgt := 27) hx hb dX5_mixRoad_59 rfl ?_
        exact ih r14 (x2 + 1) out hrun K _ _ _ I (lv_sub hl [1, 2, 0] rfl)
  have loop_64 : ∀ (v_otherSize : Int32) (v_other : Nat → Int32) (v_a : Int32) (v_b : Int32) (v_c : Int32) (v_grade : Int32) (n : Nat) (v_size : Int32) (v_tableA : Int32) (v_tableB : Int32) (v_tableC : Int32) (v_tableD : Int32) (v_at : Nat → Int32) (v_h : Int64) (x2 : Int32) (out : (Nat → Int32) × Int64), P5_mixRoad_64 v_lengths v_signs x1 n v_at v_h x2 = some out → (∀ (u_size : Int32) (u_tableA : Int32) (u_tableB : Int32) (u_tableC : Int32) (u_tableD : Int32) (H : Heap) (locs : List Loc) (ls : Array Slot), IM D (va_A (WM0 h ad cA) sz) s.heap H locs (WM h ad cA v_pageLength v_page v_roads v_lengths v_signs v_wordsRead v_disc v_forms v_formA v_formB v_formC v_nextOf v_cycleOf v_cycles v_firstOf v_newLength v_newSigns v_mayRun u_size out.1 v_otherSize v_other u_tableA u_tableB u_tableC u_tableD v_a v_b v_c v_grade v_flowA v_flowB v_flowC v_seedNow out.2) → lv_has ls 4 [(0, .ref h), (1, .int x1)] → W p l e rm5_mixRoad s m args below meth c H locs 0 0 Q (F0 m 86 ls [])) → ∀ (H : Heap) (locs : List Loc) (ls : Array Slot), IM D (va_A (WM0 h ad cA) sz) s.heap H locs (WM h ad cA v_pageLength v_page v_roads v_lengths v_signs v_wordsRead v_disc v_forms v_formA v_formB v_formC v_nextOf v_cycleOf v_cycles v_firstOf v_newLength v_newSigns v_mayRun v_size v_at v_otherSize v_other v_tableA v_tableB v_tableC v_tableD v_a v_b v_c v_grade v_flowA v_flowB v_flowC v_seedNow v_h) → lv_has ls 4 [(0, .ref h), (1, .int x1), (2, .int x2)] → W p l e rm5_mixRoad s m args below meth c H locs 0 0 Q (F0 m 64 ls []) := by
    intro v_otherSize v_other v_a v_b v_c v_grade n
    induction n with
    | zero =>
      intro v_size v_tableA v_tableB v_tableC v_tableD v_at v_h x2 out hrun K H locs ls I hl
      cases hrun
    | succ n ih =>
      intro v_size v_tableA v_tableB v_tableC v_tableD v_at v_h x2 out hrun K H locs ls I hl
      rw [P5_mixRoad_64] at hrun
      refine lv_iload_n hx hb dX5_mixRoad_64 rfl (lv_at hl 2 rfl) ?_
      refine lv_iconst (v := 4) hx hb dX5_mixRoad_65 rfl ?_
      refine lv_icmp_ge (tgt := 86) hx hb dX5_mixRoad_66 rfl (fun c16 => ?_) (fun c16 => ?_)
      · have hrun := p_pos hrun c16
        cases hrun
        exact K _ _ _ _ _ _ _ _ I (lv_sub hl [0, 1] rfl)
      · have hrun := p_neg hrun c16
        refine lv_aload_n hx hb dX5_mixRoad_69 rfl (lv_at hl 0 rfl) ?_
        refine lv_aload_n hx hb dX5_mixRoad_70 rfl (lv_at hl 0 rfl) ?_
        refine lv_iload_n hx hb dX5_mixRoad_71 rfl (lv_at hl 1 rfl) ?_
        refine lv_iload_n hx hb dX5_mixRoad_72 rfl (lv_at hl 2 rfl) ?_
        obtain ⟨r17, h_r17, hrun⟩ := p_bnd hrun
        refine jVE_i (rest := [.ref h]) C (c5_tableNow h_r17) gX5_mixRoad_X5_tableNow hd5_tableNow hK hN hD hA I rcM rfl ⟨rfl, rfl⟩ ⟨Nat.le_of_ble_eq_true rfl, Nat.le_of_ble_eq_true rfl⟩ rfl hl.1 rfl (Nat.le_of_ble_eq_true rfl) ⟨Nat.le_of_ble_eq_true rfl, Nat.le_of_ble_eq_true rfl⟩ dX5_mixRoad_73 (fun H locs I => ?_)
        refine lv_i2l (v := Int32.toInt64 r17.1) hx hb dX5_mixRoad_76 rfl ?_
        obtain ⟨r18, h_r18, hrun⟩ := p_bnd hrun
        refine jVE_v (rest := []) C (c5_mix h_r18) gX5_mixRoad_X5_mix hd5_mix hK hN hD hA I rcM rfl ⟨rfl, rfl⟩ ⟨Nat.le_of_ble_eq_true rfl, Nat.le_of_ble_eq_true rfl⟩ rfl hl.1 rfl (Nat.le_of_ble_eq_true rfl) ⟨Nat.le_of_ble_eq_true rfl, Nat.le_of_ble_eq_true rfl⟩ dX5_mixRoad_77 (fun H locs I => ?_)
        refine lv_iinc (v := x2 + 1) (lv' := [(2, .int (x2 + 1)), (0, .ref h), (1, .int x1)]) hx hb dX5_mixRoad_80 hl (k := 2) rfl rfl (by decide) rfl (fun ls hl => ?_)
        refine lv_goto (tgt := 64) hx hb dX5_mixRoad_83 rfl ?_
        exact ih _ _ _ _ _ r17.2.2.1 r18 (x2 + 1) out hrun K _ _ _ I (lv_sub hl [1, 2, 0] rfl)
  have loop_116 : ∀ (v_otherSize : Int32) (v_other : Nat → Int32) (x2 : Int32) (n : Nat) (v_size : Int32) (v_at : Nat → Int32) (v_tableA : Int32) (v_tableB : Int32) (v_tableC : Int32) (v_tableD : Int32) (v_a : Int32) (v_b : Int32) (v_c : Int32) (v_grade : Int32) (v_h : Int64) (x3 : Int32) (out : Int32 × (Nat → Int32) × Int32 × Int32 × Int32 × Int32 × Int32 × Int32 × Int32 × Int32 × Int64), P5_mixRoad_116 v_lengths v_signs x1 x2 n v_size v_at v_tableA v_tableB v_tableC v_tableD v_a v_b v_c v_grade v_h x3 = some out → (∀ (H : Heap) (locs : List Loc) (ls : Array Slot), IM D (va_A (WM0 h ad cA) sz) s.heap H locs (WM h ad cA v_pageLength v_page v_roads v_lengths v_signs v_wordsRead v_disc v_forms v_formA v_formB v_formC v_nextOf v_cycleOf v_cycles v_firstOf v_newLength v_newSigns v_mayRun out.1 out.2.1 v_otherSize v_other out.2.2.1 out.2.2.2.1 out.2.2.2.2.1 out.2.2.2.2.2.1 out.2.2.2.2.2.2.1 out.2.2.2.2.2.2.2.1 out.2.2.2.2.2.2.2.2.1 out.2.2.2.2.2.2.2.2.2.1 v_flowA v_flowB v_flowC v_seedNow out.2.2.2.2.2.2.2.2.2.2) → lv_has ls 4 [] → W p l e rm5_mixRoad s m args below meth c H locs 0 0 Q (F0 m 142 ls [])) → ∀ (H : Heap) (locs : List Loc) (ls : Array Slot), IM D (va_A (WM0 h ad cA) sz) s.heap H locs (WM h ad cA v_pageLength v_page v_roads v_lengths v_signs v_wordsRead v_disc v_forms v_formA v_formB v_formC v_nextOf v_cycleOf v_cycles v_firstOf v_newLength v_newSigns v_mayRun v_size v_at v_otherSize v_other v_tableA v_tableB v_tableC v_tableD v_a v_b v_c v_grade v_flowA v_flowB v_flowC v_seedNow v_h) → lv_has ls 4 [(0, .ref h), (1, .int x1), (2, .int x2), (3, .int x3)] → W p l e rm5_mixRoad s m args below meth c H locs 0 0 Q (F0 m 116 ls []) := by
    intro v_otherSize v_other x2 n
    induction n with
    | zero =>
      intro v_size v_at v_tableA v_tableB v_tableC v_tableD v_a v_b v_c v_grade v_h x3 out hrun K H locs ls I hl
      cases hrun
    | succ n ih =>
      intro v_size v_at v_tableA v_tableB v_tableC v_tableD v_a v_b v_c v_grade v_h x3 out hrun K H locs ls I hl
      rw [P5_mixRoad_116] at hrun
      refine lv_iload_n hx hb dX5_mixRoad_116 rfl (lv_at hl 3 rfl) ?_
      refine lv_iconst (v := 5) hx hb dX5_mixRoad_117 rfl ?_
      refine lv_icmp_ge (tgt := 142) hx hb dX5_mixRoad_118 rfl (fun c30 => ?_) (fun c30 => ?_)
      · have hrun := p_pos hrun c30
        cases hrun
        exact K _ _ _ I (lv_sub hl [] rfl)
      · have hrun := p_neg hrun c30
        refine lv_iload_n hx hb dX5_mixRoad_121 rfl (lv_at hl 2 rfl) ?_
        refine lv_if_eq (tgt := 142) hx hb dX5_mixRoad_122 rfl (fun c31 => ?_) (fun c31 => ?_)
        · have hrun := p_pos hrun c31
          cases hrun
          exact K _ _ _ I (lv_sub hl [] rfl)
        · have hrun := p_neg hrun c31
          refine lv_aload_n hx hb dX5_mixRoad_125 rfl (lv_at hl 0 rfl) ?_
          refine lv_aload_n hx hb dX5_mixRoad_126 rfl (lv_at hl 0 rfl) ?_
          refine lv_iload_n hx hb dX5_mixRoad_127 rfl (lv_at hl 1 rfl) ?_
          refine lv_iload_n hx hb dX5_mixRoad_128 rfl (lv_at hl 3 rfl) ?_
          obtain ⟨r32, h_r32, hrun⟩ := p_bnd hrun
          refine jVE_i (rest := [.ref h]) C (c5_formNow h_r32) gX5_mixRoad_X5_formNow hd5_formNow hK hN hD hA I rcM rfl ⟨rfl, rfl⟩ ⟨Nat.le_of_ble_eq_true rfl, Nat.le_of_ble_eq_true rfl⟩ rfl hl.1 rfl (Nat.le_of_ble_eq_true rfl) ⟨Nat.le_of_ble_eq_true rfl, Nat.le_of_ble_eq_true rfl⟩ dX5_mixRoad_129 (fun H locs I => ?_)
          refine lv_i2l (v := Int32.toInt64 r32.1) hx hb dX5_mixRoad_132 rfl ?_
          obtain ⟨r33, h_r33, hrun⟩ := p_bnd hrun
          refine jVE_v (rest := []) C (c5_mix h_r33) gX5_mixRoad_X5_mix hd5_mix hK hN hD hA I rcM rfl ⟨rfl, rfl⟩ ⟨Nat.le_of_ble_eq_true rfl, Nat.le_of_ble_eq_true rfl⟩ rfl hl.1 rfl (Nat.le_of_ble_eq_true rfl) ⟨Nat.le_of_ble_eq_true rfl, Nat.le_of_ble_eq_true rfl⟩ dX5_mixRoad_133 (fun H locs I => ?_)
          refine lv_iinc (v := x3 + 1) (lv' := [(3, .int (x3 + 1)), (0, .ref h), (1, .int x1), (2, .int x2)]) hx hb dX5_mixRoad_136 hl (k := 3) rfl rfl (by decide) rfl (fun ls hl => ?_)
          refine lv_goto (tgt := 116) hx hb dX5_mixRoad_139 rfl ?_
          exact ih r32.2.1 r32.2.2.1 r32.2.2.2.1 r32.2.2.2.2.1 r32.2.2.2.2.2.1 r32.2.2.2.2.2.2.1 r32.2.2.2.2.2.2.2.1 r32.2.2.2.2.2.2.2.2.1 r32.2.2.2.2.2.2.2.2.2.1 r32.2.2.2.2.2.2.2.2.2.2 r33 (x3 + 1) out hrun K _ _ _ I (lv_sub hl [1, 2, 3, 0] rfl)
  unfold P5_mixRoad at hrun
  refine lv_iconst (v := 0) hx hb dX5_mixRoad_0 rfl ?_
  refine lv_istore_n (lv' := [(2, .int 0), (0, .ref h), (1, .int x1)]) hx hb dX5_mixRoad_1 rfl hl (by decide) rfl (fun ls hl => ?_)
  obtain ⟨o4, h_o4, hrun⟩ := p_bnd hrun
  refine loop_2 v_a v_b v_c v_grade FU _ v_at v_otherSize v_other v_tableA v_tableB v_tableC v_tableD v_h 0 o4 h_o4 (fun u_size_5 u_tableA_6 u_tableB_7 u_tableC_8 u_tableD_9 H locs ls I hl => ?_) _ _ _ I (lv_sub hl [1, 2, 0] rfl)
  refine lv_iconst (v := 0) hx hb dX5_mixRoad_25 rfl ?_
  refine lv_istore_n (lv' := [(2, .int 0), (0, .ref h), (1, .int x1)]) hx hb dX5_mixRoad_26 rfl hl (by decide) rfl (fun ls hl => ?_)
  obtain ⟨o15, h_o15, hrun⟩ := p_bnd hrun
  refine loop_27 u_size_5 o4.1 o4.2.1 o4.2.2.1 u_tableA_6 u_tableB_7 u_tableC_8 u_tableD_9 v_a v_b v_c v_grade FU o4.2.2.2 0 o15 h_o15 (fun H locs ls I hl => ?_) _ _ _ I (lv_sub hl [1, 2, 0] rfl)
  refine lv_iconst (v := 0) hx hb dX5_mixRoad_62 rfl ?_
  refine lv_istore_n (lv' := [(2, .int 0), (0, .ref h), (1, .int x1)]) hx hb dX5_mixRoad_63 rfl hl (by decide) rfl (fun ls hl => ?_)
  obtain ⟨o19, h_o19, hrun⟩ := p_bnd hrun
  refine loop_64 o4.2.1 o4.2.2.1 v_a v_b v_c v_grade FU _ _ _ _ _ o4.1 o15 0 o19 h_o19 (fun u_size_20 u_tableA_21 u_tableB_22 u_tableC_23 u_tableD_24 H locs ls I hl => ?_) _ _ _ I (lv_sub hl [1, 2, 0] rfl)
  refine lv_aload_n hx hb dX5_mixRoad_86 rfl (lv_at hl 0 rfl) ?_
  refine lv_aload_n hx hb dX5_mixRoad_87 rfl (lv_at hl 0 rfl) ?_
  refine lv_iload_n hx hb dX5_mixRoad_88 rfl (lv_at hl 1 rfl) ?_
  refine lv_iconst (v := 0) hx hb dX5_mixRoad_89 rfl ?_
  obtain ⟨r25, h_r25, hrun⟩ := p_bnd hrun
  refine jVE_i (rest := [.ref h]) C (c5_endNow h_r25) gX5_mixRoad_X5_endNow hd5_endNow hK hN hD hA I rcM rfl ⟨rfl, rfl⟩ ⟨Nat.le_of_ble_eq_true rfl, Nat.le_of_ble_eq_true rfl⟩ rfl hl.1 rfl (Nat.le_of_ble_eq_true rfl) ⟨Nat.le_of_ble_eq_true rfl, Nat.le_of_ble_eq_true rfl⟩ dX5_mixRoad_90 (fun H locs I => ?_)
  refine lv_i2l (v := Int32.toInt64 r25.1) hx hb dX5_mixRoad_93 rfl ?_
  obtain ⟨r26, h_r26, hrun⟩ := p_bnd hrun
  refine jVE_v (rest := []) C (c5_mix h_r26) gX5_mixRoad_X5_mix hd5_mix hK hN hD hA I rcM rfl ⟨rfl, rfl⟩ ⟨Nat.le_of_ble_eq_true rfl, Nat.le_of_ble_eq_true rfl⟩ rfl hl.1 rfl (Nat.le_of_ble_eq_true rfl) ⟨Nat.le_of_ble_eq_true rfl, Nat.le_of_ble_eq_true rfl⟩ dX5_mixRoad_94 (fun H locs I => ?_)
  refine lv_aload_n hx hb dX5_mixRoad_97 rfl (lv_at hl 0 rfl) ?_
  refine lv_aload_n hx hb dX5_mixRoad_98 rfl (lv_at hl 0 rfl) ?_
  refine lv_iload_n hx hb dX5_mixRoad_99 rfl (lv_at hl 1 rfl) ?_
  refine lv_iconst (v := 1) hx hb dX5_mixRoad_100 rfl ?_
  obtain ⟨r27, h_r27, hrun⟩ := p_bnd hrun
  refine jVE_i (rest := [.ref h]) C (c5_endNow h_r27) gX5_mixRoad_X5_endNow hd5_endNow hK hN hD hA I rcM rfl ⟨rfl, rfl⟩ ⟨Nat.le_of_ble_eq_true rfl, Nat.le_of_ble_eq_true rfl⟩ rfl hl.1 rfl (Nat.le_of_ble_eq_true rfl) ⟨Nat.le_of_ble_eq_true rfl, Nat.le_of_ble_eq_true rfl⟩ dX5_mixRoad_101 (fun H locs I => ?_)
  refine lv_i2l (v := Int32.toInt64 r27.1) hx hb dX5_mixRoad_104 rfl ?_
  obtain ⟨r28, h_r28, hrun⟩ := p_bnd hrun
  refine jVE_v (rest := []) C (c5_mix h_r28) gX5_mixRoad_X5_mix hd5_mix hK hN hD hA I rcM rfl ⟨rfl, rfl⟩ ⟨Nat.le_of_ble_eq_true rfl, Nat.le_of_ble_eq_true rfl⟩ rfl hl.1 rfl (Nat.le_of_ble_eq_true rfl) ⟨Nat.le_of_ble_eq_true rfl, Nat.le_of_ble_eq_true rfl⟩ dX5_mixRoad_105 (fun H locs I => ?_)
  refine lv_aload_n hx hb dX5_mixRoad_108 rfl (lv_at hl 0 rfl) ?_
  refine lv_iload_n hx hb dX5_mixRoad_109 rfl (lv_at hl 1 rfl) ?_
  obtain ⟨r29, h_r29, hrun⟩ := p_bnd hrun
  refine jVE_i (rest := []) C (c5_isClosed h_r29) gX5_mixRoad_X5_isClosed hd5_isClosed hK hN hD hA I rcM rfl ⟨rfl, rfl⟩ ⟨Nat.le_of_ble_eq_true rfl, Nat.le_of_ble_eq_true rfl⟩ rfl hl.1 rfl (Nat.le_of_ble_eq_true rfl) ⟨Nat.le_of_ble_eq_true rfl, Nat.le_of_ble_eq_true rfl⟩ dX5_mixRoad_110 (fun H locs I => ?_)
  refine lv_istore_n (lv' := [(2, .int r29.1), (0, .ref h), (1, .int x1)]) hx hb dX5_mixRoad_113 rfl hl (by decide) rfl (fun ls hl => ?_)
  refine lv_iconst (v := 0) hx hb dX5_mixRoad_114 rfl ?_
  refine lv_istore_n (lv' := [(3, .int 0), (2, .int r29.1), (0, .ref h), (1, .int x1)]) hx hb dX5_mixRoad_115 rfl hl (by decide) rfl (fun ls hl => ?_)
  obtain ⟨o34, h_o34, hrun⟩ := p_bnd hrun
  refine loop_116 o4.2.1 o4.2.2.1 r29.1 FU r29.2.1 r29.2.2 r27.2.2.2.1 r27.2.2.2.2.1 r27.2.2.2.2.2.1 r27.2.2.2.2.2.2 v_a v_b v_c v_grade r28 0 o34 h_o34 (fun H locs ls I hl => ?_) _ _ _ I (lv_sub hl [2, 3, 1, 0] rfl)
  cases hrun
  exact rE_v C hr hlk hQ I dX5_mixRoad_142

end M513
