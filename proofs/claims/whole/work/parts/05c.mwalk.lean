section M52
variable {l : Launch} {D : va_G} {sz : Nat}
variable {h : Nat} {ad : Nat → Nat} {cA : ClassId}
variable {v_pageLength v_roads v_wordsRead v_disc v_forms v_cycles v_newLength v_mayRun v_size v_otherSize v_tableA v_tableB v_tableC v_tableD v_a v_b v_c v_grade v_flowA v_flowB v_flowC : Int32}
variable {v_seedNow v_h : Int64}
variable {v_page v_lengths v_signs v_formA v_formB v_formC v_nextOf v_cycleOf v_firstOf v_newSigns v_at v_other : Nat → Int32}
abbrev rm5_layOther : Room := { frames := 0, cells := 0, slots := 0, locals := 0 }
theorem fl5_layOther_40 : Cond.fieldLink RX5 40 "RiverWordsModel" "at" "[I" ∈ wsX5_layOther := by decide +kernel
theorem fl5_layOther_43 : Cond.fieldLink RX5 43 "RiverWordsModel" "other" "[I" ∈ wsX5_layOther := by decide +kernel
theorem fl5_layOther_85 : Cond.fieldLink RX5 85 "RiverWordsModel" "size" "I" ∈ wsX5_layOther := by decide +kernel
theorem fl5_layOther_103 : Cond.fieldLink RX5 103 "RiverWordsModel" "otherSize" "I" ∈ wsX5_layOther := by decide +kernel
theorem inm5_layOther : ∀ w ∈ wsX50, w ∈ wsX5_layOther := fun w h => by unfold wsX5_layOther; first | exact List.mem_cons_of_mem _ (List.mem_append_right _ h) | exact List.mem_cons_of_mem _ h
theorem hd5_layOther : okD yX5_layOther 2 := by decide +kernel
set_option maxHeartbeats 8000000 in
set_option maxRecDepth 100000 in
theorem c5_layOther {x1 : Int32} {x2 : Int32} {res : Int32 × (Nat → Int32)} (hrun : P5_layOther v_size v_at v_other x1 x2 = some res) : Met l yX5_layOther wsX5_layOther rm5_layOther (va_Pc [.ref h, .int x1, .int x2] (PE D [(cA, .int)] sz (WM0 h ad cA) (WM h ad cA v_pageLength v_page v_roads v_lengths v_signs v_wordsRead v_disc v_forms v_formA v_formB v_formC v_nextOf v_cycleOf v_cycles v_firstOf v_newLength v_newSigns v_mayRun v_size v_at v_otherSize v_other v_tableA v_tableB v_tableC v_tableD v_a v_b v_c v_grade v_flowA v_flowB v_flowC v_seedNow v_h))) (va_Qv (fun _ : Unit => True) (fun _ t => va_P D vwCl (WM h ad cA v_pageLength v_page v_roads v_lengths v_signs v_wordsRead v_disc v_forms v_formA v_formB v_formC v_nextOf v_cycleOf v_cycles v_firstOf v_newLength v_newSigns v_mayRun v_size v_at res.1 res.2 v_tableA v_tableB v_tableC v_tableD v_a v_b v_c v_grade v_flowA v_flowB v_flowC v_seedNow v_h) t.heap) (va_A (WM0 h ad cA) sz)) 0 0 (va_A (WM0 h ad cA) sz) := by
  refine E_in (cc := cX5_layOther) (maxL := 5) (ret := none) (by decide) rfl (Nat.le_of_ble_eq_true rfl) ?_
  intro p e s m args below meth c ls Q hQ C hr hlk hK hN hD hA I hl
  have C : CallFix p m c cX5_layOther 5 s args wsX5_layOther RX5 := C
  have hx := C.1
  have hb := C.2.1
  have hl : lv_has ls 5 [(0, .ref h), (1, .int x1), (2, .int x2)] := hl
  have loop_10 : ∀ (v_otherSize : Int32) (n : Nat) (v_other : Nat → Int32) (x3 : Int32) (out : (Nat → Int32)), P5_layOther_10 v_size v_at x1 x2 n v_other x3 = some out → (∀ (H : Heap) (locs : List Loc) (ls : Array Slot), IM D (va_A (WM0 h ad cA) sz) s.heap H locs (WM h ad cA v_pageLength v_page v_roads v_lengths v_signs v_wordsRead v_disc v_forms v_formA v_formB v_formC v_nextOf v_cycleOf v_cycles v_firstOf v_newLength v_newSigns v_mayRun v_size v_at v_otherSize out v_tableA v_tableB v_tableC v_tableD v_a v_b v_c v_grade v_flowA v_flowB v_flowC v_seedNow v_h) → lv_has ls 5 [] → W p l e rm5_layOther s m args below meth c H locs 0 0 Q (F0 m 66 ls [])) → ∀ (H : Heap) (locs : List Loc) (ls : Array Slot), IM D (va_A (WM0 h ad cA) sz) s.heap H locs (WM h ad cA v_pageLength v_page v_roads v_lengths v_signs v_wordsRead v_disc v_forms v_formA v_formB v_formC v_nextOf v_cycleOf v_cycles v_firstOf v_newLength v_newSigns v_mayRun v_size v_at v_otherSize v_other v_tableA v_tableB v_tableC v_tableD v_a v_b v_c v_grade v_flowA v_flowB v_flowC v_seedNow v_h) → lv_has ls 5 [(0, .ref h), (1, .int x1), (2, .int x2), (3, .int x3)] → W p l e rm5_layOther s m args below meth c H locs 0 0 Q (F0 m 10 ls []) := by
    intro v_otherSize n
    induction n with
    | zero =>
      intro v_other x3 out hrun K H locs ls I hl
      cases hrun
    | succ n ih =>
      intro v_other x3 out hrun K H locs ls I hl
      rw [P5_layOther_10] at hrun
      refine lv_iload_n hx hb dX5_layOther_10 rfl (lv_at hl 3 rfl) ?_
      refine lv_aload_n hx hb dX5_layOther_11 rfl (lv_at hl 0 rfl) ?_
      refine gM_size C inm5_layOther hK I.1 fl5_layOther_85 dX5_layOther_12 ?_
      refine lv_icmp_ge (tgt := 66) hx hb dX5_layOther_15 rfl (fun c1 => ?_) (fun c1 => ?_)
      · have hrun := p_pos hrun c1
        cases hrun
        exact K _ _ _ I (lv_sub hl [] rfl)
      · have hrun := p_neg hrun c1
        refine lv_aload_n hx hb dX5_layOther_18 rfl (lv_at hl 0 rfl) ?_
        refine gM_at C inm5_layOther hK I.1 fl5_layOther_40 dX5_layOther_19 ?_
        refine lv_iload_n hx hb dX5_layOther_22 rfl (lv_at hl 1 rfl) ?_
        refine lv_if_eq (tgt := 37) hx hb dX5_layOther_23 rfl (fun c2 => ?_) (fun c2 => ?_)
        · have hrun := p_pos hrun c2
          refine lv_iload_n hx hb dX5_layOther_37 rfl (lv_at hl 3 rfl) ?_
          obtain ⟨b3, hrun⟩ := p_chk hrun
          refine ldM_at C hK I.1 b3 dX5_layOther_38 ?_
          refine lv_istore (lv' := [(4, .int (v_at (Int32.toNatClampNeg x3))), (0, .ref h), (1, .int x1), (2, .int x2), (3, .int x3)]) hx hb dX5_layOther_39 hl (by decide) rfl (fun ls hl => ?_)
          refine lv_aload_n hx hb dX5_layOther_41 rfl (lv_at hl 1 rfl) ?_
          refine gM_other C inm5_layOther hK I.1 fl5_layOther_43 dX5_layOther_42 ?_
          refine lv_iload_n hx hb dX5_layOther_45 rfl (lv_at hl 4 rfl) ?_
          refine lv_iload_n hx hb dX5_layOther_46 rfl (lv_at hl 3 rfl) ?_
          refine lv_if_eq (tgt := 57) hx hb dX5_layOther_47 rfl (fun c4 => ?_) (fun c4 => ?_)
          · have hrun := p_pos hrun c4
            refine lv_iload hx hb dX5_layOther_57 (lv_at hl 0 rfl) ?_
            obtain ⟨b5, hrun⟩ := p_chk hrun
            refine stM_other C hK hD I b5 dX5_layOther_59 (fun H locs I => ?_)
            refine lv_iinc (v := x3 + 1) (lv' := [(3, .int (x3 + 1)), (4, .int (v_at (Int32.toNatClampNeg x3))), (0, .ref h), (1, .int x1), (2, .int x2)]) hx hb dX5_layOther_60 hl (k := 4) rfl rfl (by decide) rfl (fun ls hl => ?_)
            refine lv_goto (tgt := 10) hx hb dX5_layOther_63 rfl ?_
            exact ih (upd v_other (Int32.toNatClampNeg x3) (v_at (Int32.toNatClampNeg x3))) (x3 + 1) out hrun K _ _ _ I (lv_sub hl [2, 3, 4, 0] rfl)
          · have hrun := p_neg hrun c4
            refine lv_iconst (v := 1) hx hb dX5_layOther_50 rfl ?_
            refine lv_iload hx hb dX5_layOther_51 (lv_at hl 0 rfl) ?_
            refine lv_isub hx hb dX5_layOther_53 ?_
            refine lv_goto (tgt := 59) hx hb dX5_layOther_54 rfl ?_
            obtain ⟨b6, hrun⟩ := p_chk hrun
            refine stM_other C hK hD I b6 dX5_layOther_59 (fun H locs I => ?_)
            refine lv_iinc (v := x3 + 1) (lv' := [(3, .int (x3 + 1)), (4, .int (v_at (Int32.toNatClampNeg x3))), (0, .ref h), (1, .int x1), (2, .int x2)]) hx hb dX5_layOther_60 hl (k := 4) rfl rfl (by decide) rfl (fun ls hl => ?_)
            refine lv_goto (tgt := 10) hx hb dX5_layOther_63 rfl ?_
            exact ih (upd v_other (Int32.toNatClampNeg x3) (1 - (v_at (Int32.toNatClampNeg x3)))) (x3 + 1) out hrun K _ _ _ I (lv_sub hl [2, 3, 4, 0] rfl)
        · have hrun := p_neg hrun c2
          refine lv_aload_n hx hb dX5_layOther_26 rfl (lv_at hl 0 rfl) ?_
          refine gM_size C inm5_layOther hK I.1 fl5_layOther_85 dX5_layOther_27 ?_
          refine lv_iconst (v := 1) hx hb dX5_layOther_30 rfl ?_
          refine lv_isub hx hb dX5_layOther_31 ?_
          refine lv_iload_n hx hb dX5_layOther_32 rfl (lv_at hl 3 rfl) ?_
          refine lv_isub hx hb dX5_layOther_33 ?_
          refine lv_goto (tgt := 38) hx hb dX5_layOther_34 rfl ?_
          obtain ⟨b7, hrun⟩ := p_chk hrun
          refine ldM_at C hK I.1 b7 dX5_layOther_38 ?_
          refine lv_istore (lv' := [(4, .int (v_at (Int32.toNatClampNeg ((v_size - 1) - x3)))), (0, .ref h), (1, .int x1), (2, .int x2), (3, .int x3)]) hx hb dX5_layOther_39 hl (by decide) rfl (fun ls hl => ?_)
          refine lv_aload_n hx hb dX5_layOther_41 rfl (lv_at hl 1 rfl) ?_
          refine gM_other C inm5_layOther hK I.1 fl5_layOther_43 dX5_layOther_42 ?_
          refine lv_iload_n hx hb dX5_layOther_45 rfl (lv_at hl 4 rfl) ?_
          refine lv_iload_n hx hb dX5_layOther_46 rfl (lv_at hl 3 rfl) ?_
          refine lv_if_eq (tgt := 57) hx hb dX5_layOther_47 rfl (fun c8 => ?_) (fun c8 => ?_)
          · have hrun := p_pos hrun c8
            refine lv_iload hx hb dX5_layOther_57 (lv_at hl 0 rfl) ?_
            obtain ⟨b9, hrun⟩ := p_chk hrun
            refine stM_other C hK hD I b9 dX5_layOther_59 (fun H locs I => ?_)
            refine lv_iinc (v := x3 + 1) (lv' := [(3, .int (x3 + 1)), (4, .int (v_at (Int32.toNatClampNeg ((v_size - 1) - x3)))), (0, .ref h), (1, .int x1), (2, .int x2)]) hx hb dX5_layOther_60 hl (k := 4) rfl rfl (by decide) rfl (fun ls hl => ?_)
            refine lv_goto (tgt := 10) hx hb dX5_layOther_63 rfl ?_
            exact ih (upd v_other (Int32.toNatClampNeg x3) (v_at (Int32.toNatClampNeg ((v_size - 1) - x3)))) (x3 + 1) out hrun K _ _ _ I (lv_sub hl [2, 3, 4, 0] rfl)
          · have hrun := p_neg hrun c8
            refine lv_iconst (v := 1) hx hb dX5_layOther_50 rfl ?_
            refine lv_iload hx hb dX5_layOther_51 (lv_at hl 0 rfl) ?_
            refine lv_isub hx hb dX5_layOther_53 ?_
            refine lv_goto (tgt := 59) hx hb dX5_layOther_54 rfl ?_
            obtain ⟨b10, hrun⟩ := p_chk hrun
            refine stM_other C hK hD I b10 dX5_layOther_59 (fun H locs I => ?_)
            refine lv_iinc (v := x3 + 1) (lv' := [(3, .int (x3 + 1)), (4, .int (v_at (Int32.toNatClampNeg ((v_size - 1) - x3)))), (0, .ref h), (1, .int x1), (2, .int x2)]) hx hb dX5_layOther_60 hl (k := 4) rfl rfl (by decide) rfl (fun ls hl => ?_)
            refine lv_goto (tgt := 10) hx hb dX5_layOther_63 rfl ?_
            exact ih (upd v_other (Int32.toNatClampNeg x3) (1 - (v_at (Int32.toNatClampNeg ((v_size - 1) - x3))))) (x3 + 1) out hrun K _ _ _ I (lv_sub hl [2, 3, 4, 0] rfl)
  unfold P5_layOther at hrun
  refine lv_aload_n hx hb dX5_layOther_0 rfl (lv_at hl 0 rfl) ?_
  refine lv_aload_n hx hb dX5_layOther_1 rfl (lv_at hl 0 rfl) ?_
  refine gM_size C inm5_layOther hK I.1 fl5_layOther_85 dX5_layOther_2 ?_
  refine pM_otherSize C inm5_layOther hK hD I fl5_layOther_103 dX5_layOther_5 (fun H locs I => ?_)
  refine lv_iconst (v := 0) hx hb dX5_layOther_8 rfl ?_
  refine lv_istore_n (lv' := [(3, .int 0), (0, .ref h), (1, .int x1), (2, .int x2)]) hx hb dX5_layOther_9 rfl hl (by decide) rfl (fun ls hl => ?_)
  obtain ⟨o11, h_o11, hrun⟩ := p_bnd hrun
  refine loop_10 v_size FU v_other 0 o11 h_o11 (fun H locs ls I hl => ?_) _ _ _ I (lv_sub hl [1, 2, 3, 0] rfl)
  cases hrun
  exact rE_v C hr hlk hQ I dX5_layOther_66

abbrev rm5_isAlike : Room := { frames := 1, cells := 0, slots := 0, locals := 24 }
theorem k5_isAlike_106 : Cond.constant RX5 106 (-2000000001) ∈ wsX5_isAlike := by decide +kernel
theorem hd5_isAlike : okD yX5_isAlike 2 := by decide +kernel
set_option maxHeartbeats 8000000 in
set_option maxRecDepth 100000 in
theorem c5_isAlike {x1 : Int32} {x2 : Int32} {res : Int32 × Int32 × (Nat → Int32)} (hrun : P5_isAlike v_size v_at v_other x1 x2 = some res) : Met l yX5_isAlike wsX5_isAlike rm5_isAlike (va_Pc [.ref h, .int x1, .int x2] (PE D [(cA, .int)] sz (WM0 h ad cA) (WM h ad cA v_pageLength v_page v_roads v_lengths v_signs v_wordsRead v_disc v_forms v_formA v_formB v_formC v_nextOf v_cycleOf v_cycles v_firstOf v_newLength v_newSigns v_mayRun v_size v_at v_otherSize v_other v_tableA v_tableB v_tableC v_tableD v_a v_b v_c v_grade v_flowA v_flowB v_flowC v_seedNow v_h))) (va_Qi (fun (x : Int32) (_ : Unit) => x = res.1) (fun _ t => va_P D vwCl (WM h ad cA v_pageLength v_page v_roads v_lengths v_signs v_wordsRead v_disc v_forms v_formA v_formB v_formC v_nextOf v_cycleOf v_cycles v_firstOf v_newLength v_newSigns v_mayRun v_size v_at res.2.1 res.2.2 v_tableA v_tableB v_tableC v_tableD v_a v_b v_c v_grade v_flowA v_flowB v_flowC v_seedNow v_h) t.heap) (va_A (WM0 h ad cA) sz)) 0 0 (va_A (WM0 h ad cA) sz) := by
  refine E_in (cc := cX5_isAlike) (maxL := 3) (ret := (some .boolean)) (by decide) rfl (Nat.le_of_ble_eq_true rfl) ?_
  intro p e s m args below meth c ls Q hQ C hr hlk hK hN hD hA I hl
  have C : CallFix p m c cX5_isAlike 3 s args wsX5_isAlike RX5 := C
  have hx := C.1
  have hb := C.2.1
  have hl : lv_has ls 3 [(0, .ref h), (1, .int x1), (2, .int x2)] := hl
  unfold P5_isAlike at hrun
  refine lv_aload_n hx hb dX5_isAlike_0 rfl (lv_at hl 0 rfl) ?_
  refine lv_iload_n hx hb dX5_isAlike_1 rfl (lv_at hl 1 rfl) ?_
  refine lv_iload_n hx hb dX5_isAlike_2 rfl (lv_at hl 2 rfl) ?_
  obtain ⟨r1, h_r1, hrun⟩ := p_bnd hrun
  refine jVE_v (rest := []) C (c5_layOther h_r1) gX5_isAlike_X5_layOther hd5_layOther hK hN hD hA I rcM rfl ⟨rfl, rfl⟩ ⟨Nat.le_of_ble_eq_true rfl, Nat.le_of_ble_eq_true rfl⟩ rfl hl.1 rfl (Nat.le_of_ble_eq_true rfl) ⟨Nat.le_of_ble_eq_true rfl, Nat.le_of_ble_eq_true rfl⟩ dX5_isAlike_3 (fun H locs I => ?_)
  refine lv_aload_n hx hb dX5_isAlike_6 rfl (lv_at hl 0 rfl) ?_
  obtain ⟨r2, h_r2, hrun⟩ := p_bnd hrun
  refine jVS_i (rest := []) C (c5_turnTo h_r2) gX5_isAlike_X5_turnTo hd5_turnTo hK hN I.1 rcM rfl ⟨rfl, rfl⟩ ⟨Nat.le_of_ble_eq_true rfl, Nat.le_of_ble_eq_true rfl⟩ rfl hl.1 rfl (Nat.le_of_ble_eq_true rfl) ⟨Nat.le_of_ble_eq_true rfl, Nat.le_of_ble_eq_true rfl⟩ dX5_isAlike_7 ?_
  refine lv_ldc (v := (-2000000001)) hx hb C.2.2.2.1 (C.2.2.2.2 _ k5_isAlike_106) dX5_isAlike_10 ?_
  refine lv_icmp_eq (tgt := 19) hx hb dX5_isAlike_12 rfl (fun c3 => ?_) (fun c3 => ?_)
  · have hrun := p_pos hrun c3
    refine lv_iconst (v := 0) hx hb dX5_isAlike_19 rfl ?_
    cases hrun
    exact rE_i C hr hlk hQ I (nb01 (Or.inl rfl)) rfl dX5_isAlike_20
  · have hrun := p_neg hrun c3
    refine lv_iconst (v := 1) hx hb dX5_isAlike_15 rfl ?_
    refine lv_goto (tgt := 20) hx hb dX5_isAlike_16 rfl ?_
    cases hrun
    exact rE_i C hr hlk hQ I (nb01 (Or.inr rfl)) rfl dX5_isAlike_20

abbrev rm5_layTable : Room := { frames := 0, cells := 0, slots := 0, locals := 0 }
theorem fl5_layTable_40 : Cond.fieldLink RX5 40 "RiverWordsModel" "at" "[I" ∈ wsX5_layTable := by decide +kernel
theorem fl5_layTable_85 : Cond.fieldLink RX5 85 "RiverWordsModel" "size" "I" ∈ wsX5_layTable := by decide +kernel
theorem fl5_layTable_114 : Cond.fieldLink RX5 114 "RiverWordsModel" "tableA" "I" ∈ wsX5_layTable := by decide +kernel
theorem fl5_layTable_117 : Cond.fieldLink RX5 117 "RiverWordsModel" "tableB" "I" ∈ wsX5_layTable := by decide +kernel
theorem fl5_layTable_120 : Cond.fieldLink RX5 120 "RiverWordsModel" "tableC" "I" ∈ wsX5_layTable := by decide +kernel
theorem fl5_layTable_123 : Cond.fieldLink RX5 123 "RiverWordsModel" "tableD" "I" ∈ wsX5_layTable := by decide +kernel
theorem inm5_layTable : ∀ w ∈ wsX50, w ∈ wsX5_layTable := fun w h => by unfold wsX5_layTable; first | exact List.mem_cons_of_mem _ (List.mem_append_right _ h) | exact List.mem_cons_of_mem _ h
theorem hd5_layTable : okD yX5_layTable 0 := by decide +kernel
set_option maxHeartbeats 8000000 in
set_option maxRecDepth 100000 in
theorem c5_layTable {res : Int32 × Int32 × Int32 × Int32} (hrun : P5_layTable v_size v_at = some res) : Met l yX5_layTable wsX5_layTable rm5_layTable (va_Pc [.ref h] (PE D [(cA, .int)] sz (WM0 h ad cA) (WM h ad cA v_pageLength v_page v_roads v_lengths v_signs v_wordsRead v_disc v_forms v_formA v_formB v_formC v_nextOf v_cycleOf v_cycles v_firstOf v_newLength v_newSigns v_mayRun v_size v_at v_otherSize v_other v_tableA v_tableB v_tableC v_tableD v_a v_b v_c v_grade v_flowA v_flowB v_flowC v_seedNow v_h))) (va_Qv (fun _ : Unit => True) (fun _ t => va_P D vwCl (WM h ad cA v_pageLength v_page v_roads v_lengths v_signs v_wordsRead v_disc v_forms v_formA v_formB v_formC v_nextOf v_cycleOf v_cycles v_firstOf v_newLength v_newSigns v_mayRun v_size v_at v_otherSize v_other res.1 res.2.1 res.2.2.1 res.2.2.2 v_a v_b v_c v_grade v_flowA v_flowB v_flowC v_seedNow v_h) t.heap) (va_A (WM0 h ad cA) sz)) 0 0 (va_A (WM0 h ad cA) sz) := by
  refine E_in (cc := cX5_layTable) (maxL := 2) (ret := none) (by decide) rfl (Nat.le_of_ble_eq_true rfl) ?_
  intro p e s m args below meth c ls Q hQ C hr hlk hK hN hD hA I hl
  have C : CallFix p m c cX5_layTable 2 s args wsX5_layTable RX5 := C
  have hx := C.1
  have hb := C.2.1
  have hl : lv_has ls 2 [(0, .ref h)] := hl
  have loop_27 : ∀ (n : Nat) (v_tableA : Int32) (v_tableB : Int32) (v_tableC : Int32) (v_tableD : Int32) (x1 : Int32) (out : Int32 × Int32 × Int32 × Int32), P5_layTable_27 v_at n v_tableA v_tableB v_tableC v_tableD x1 = some out → (∀ (H : Heap) (locs : List Loc) (ls : Array Slot), IM D (va_A (WM0 h ad cA) sz) s.heap H locs (WM h ad cA v_pageLength v_page v_roads v_lengths v_signs v_wordsRead v_disc v_forms v_formA v_formB v_formC v_nextOf v_cycleOf v_cycles v_firstOf v_newLength v_newSigns v_mayRun v_size v_at v_otherSize v_other out.1 out.2.1 out.2.2.1 out.2.2.2 v_a v_b v_c v_grade v_flowA v_flowB v_flowC v_seedNow v_h) → lv_has ls 2 [] → W p l e rm5_layTable s m args below meth c H locs 0 0 Q (F0 m 101 ls [])) → ∀ (H : Heap) (locs : List Loc) (ls : Array Slot), IM D (va_A (WM0 h ad cA) sz) s.heap H locs (WM h ad cA v_pageLength v_page v_roads v_lengths v_signs v_wordsRead v_disc v_forms v_formA v_formB v_formC v_nextOf v_cycleOf v_cycles v_firstOf v_newLength v_newSigns v_mayRun v_size v_at v_otherSize v_other v_tableA v_tableB v_tableC v_tableD v_a v_b v_c v_grade v_flowA v_flowB v_flowC v_seedNow v_h) → lv_has ls 2 [(0, .ref h), (1, .int x1)] → W p l e rm5_layTable s m args below meth c H locs 0 0 Q (F0 m 27 ls []) := by
    intro n
    induction n with
    | zero =>
      intro v_tableA v_tableB v_tableC v_tableD x1 out hrun K H locs ls I hl
      cases hrun
    | succ n ih =>
      intro v_tableA v_tableB v_tableC v_tableD x1 out hrun K H locs ls I hl
      rw [P5_layTable_27] at hrun
      refine lv_iload_n hx hb dX5_layTable_27 rfl (lv_at hl 1 rfl) ?_
      refine lv_if_lt (tgt := 101) hx hb dX5_layTable_28 rfl (fun c1 => ?_) (fun c1 => ?_)
      · have hrun := p_pos hrun c1
        cases hrun
        exact K _ _ _ I (lv_sub hl [] rfl)
      · have hrun := p_neg hrun c1
        refine lv_aload_n hx hb dX5_layTable_31 rfl (lv_at hl 0 rfl) ?_
        refine gM_at C inm5_layTable hK I.1 fl5_layTable_40 dX5_layTable_32 ?_
        refine lv_iload_n hx hb dX5_layTable_35 rfl (lv_at hl 1 rfl) ?_
        obtain ⟨b2, hrun⟩ := p_chk hrun
        refine ldM_at C hK I.1 b2 dX5_layTable_36 ?_
        refine lv_if_ne (tgt := 69) hx hb dX5_layTable_37 rfl (fun c3 => ?_) (fun c3 => ?_)
        · have hrun := p_neg hrun c3
          refine lv_aload_n hx hb dX5_layTable_69 rfl (lv_at hl 0 rfl) ?_
          refine lv_dup hx hb dX5_layTable_70 rfl ?_
          refine gM_tableA C inm5_layTable hK I.1 fl5_layTable_114 dX5_layTable_71 ?_
          refine lv_aload_n hx hb dX5_layTable_74 rfl (lv_at hl 0 rfl) ?_
          refine gM_tableC C inm5_layTable hK I.1 fl5_layTable_120 dX5_layTable_75 ?_
          refine lv_iadd hx hb dX5_layTable_78 ?_
          refine pM_tableA C inm5_layTable hK hD I fl5_layTable_114 dX5_layTable_79 (fun H locs I => ?_)
          refine lv_aload_n hx hb dX5_layTable_82 rfl (lv_at hl 0 rfl) ?_
          refine lv_dup hx hb dX5_layTable_83 rfl ?_
          refine gM_tableB C inm5_layTable hK I.1 fl5_layTable_117 dX5_layTable_84 ?_
          refine lv_aload_n hx hb dX5_layTable_87 rfl (lv_at hl 0 rfl) ?_
          refine gM_tableD C inm5_layTable hK I.1 fl5_layTable_123 dX5_layTable_88 ?_
          refine lv_iadd hx hb dX5_layTable_91 ?_
          refine pM_tableB C inm5_layTable hK hD I fl5_layTable_117 dX5_layTable_92 (fun H locs I => ?_)
          refine lv_iinc (v := x1 + (-1)) (lv' := [(1, .int (x1 + (-1))), (0, .ref h)]) hx hb dX5_layTable_95 hl (k := 1) rfl rfl (by decide) rfl (fun ls hl => ?_)
          refine lv_goto (tgt := 27) hx hb dX5_layTable_98 rfl ?_
          exact ih (v_tableA + v_tableC) (v_tableB + v_tableD) v_tableC v_tableD (x1 + (-1)) out hrun K _ _ _ I (lv_sub hl [1, 0] rfl)
        · have hrun := p_pos hrun c3
          refine lv_aload_n hx hb dX5_layTable_40 rfl (lv_at hl 0 rfl) ?_
          refine lv_dup hx hb dX5_layTable_41 rfl ?_
          refine gM_tableC C inm5_layTable hK I.1 fl5_layTable_120 dX5_layTable_42 ?_
          refine lv_aload_n hx hb dX5_layTable_45 rfl (lv_at hl 0 rfl) ?_
          refine gM_tableA C inm5_layTable hK I.1 fl5_layTable_114 dX5_layTable_46 ?_
          refine lv_iadd hx hb dX5_layTable_49 ?_
          refine pM_tableC C inm5_layTable hK hD I fl5_layTable_120 dX5_layTable_50 (fun H locs I => ?_)
          refine lv_aload_n hx hb dX5_layTable_53 rfl (lv_at hl 0 rfl) ?_
          refine lv_dup hx hb dX5_layTable_54 rfl ?_
          refine gM_tableD C inm5_layTable hK I.1 fl5_layTable_123 dX5_layTable_55 ?_
          refine lv_aload_n hx hb dX5_layTable_58 rfl (lv_at hl 0 rfl) ?_
          refine gM_tableB C inm5_layTable hK I.1 fl5_layTable_117 dX5_layTable_59 ?_
          refine lv_iadd hx hb dX5_layTable_62 ?_
          refine pM_tableD C inm5_layTable hK hD I fl5_layTable_123 dX5_layTable_63 (fun H locs I => ?_)
          refine lv_goto (tgt := 95) hx hb dX5_layTable_66 rfl ?_
          refine lv_iinc (v := x1 + (-1)) (lv' := [(1, .int (x1 + (-1))), (0, .ref h)]) hx hb dX5_layTable_95 hl (k := 1) rfl rfl (by decide) rfl (fun ls hl => ?_)
          refine lv_goto (tgt := 27) hx hb dX5_layTable_98 rfl ?_
          exact ih v_tableA v_tableB (v_tableC + v_tableA) (v_tableD + v_tableB) (x1 + (-1)) out hrun K _ _ _ I (lv_sub hl [1, 0] rfl)
  unfold P5_layTable at hrun
  refine lv_aload_n hx hb dX5_layTable_0 rfl (lv_at hl 0 rfl) ?_
  refine lv_iconst (v := 1) hx hb dX5_layTable_1 rfl ?_
  refine pM_tableA C inm5_layTable hK hD I fl5_layTable_114 dX5_layTable_2 (fun H locs I => ?_)
  refine lv_aload_n hx hb dX5_layTable_5 rfl (lv_at hl 0 rfl) ?_
  refine lv_iconst (v := 0) hx hb dX5_layTable_6 rfl ?_
  refine pM_tableB C inm5_layTable hK hD I fl5_layTable_117 dX5_layTable_7 (fun H locs I => ?_)
  refine lv_aload_n hx hb dX5_layTable_10 rfl (lv_at hl 0 rfl) ?_
  refine lv_iconst (v := 0) hx hb dX5_layTable_11 rfl ?_
  refine pM_tableC C inm5_layTable hK hD I fl5_layTable_120 dX5_layTable_12 (fun H locs I => ?_)
  refine lv_aload_n hx hb dX5_layTable_15 rfl (lv_at hl 0 rfl) ?_
  refine lv_iconst (v := 1) hx hb dX5_layTable_16 rfl ?_
  refine pM_tableD C inm5_layTable hK hD I fl5_layTable_123 dX5_layTable_17 (fun H locs I => ?_)
  refine lv_aload_n hx hb dX5_layTable_20 rfl (lv_at hl 0 rfl) ?_
  refine gM_size C inm5_layTable hK I.1 fl5_layTable_85 dX5_layTable_21 ?_
  refine lv_iconst (v := 1) hx hb dX5_layTable_24 rfl ?_
  refine lv_isub hx hb dX5_layTable_25 ?_
  refine lv_istore_n (lv' := [(1, .int (v_size - 1)), (0, .ref h)]) hx hb dX5_layTable_26 rfl hl (by decide) rfl (fun ls hl => ?_)
  obtain ⟨o4, h_o4, hrun⟩ := p_bnd hrun
  refine loop_27 FU 1 0 0 1 (v_size - 1) o4 h_o4 (fun H locs ls I hl => ?_) _ _ _ I (lv_sub hl [1, 0] rfl)
  cases hrun
  exact rE_v C hr hlk hQ I dX5_layTable_101

abbrev rm5_traceNow : Room := { frames := 1, cells := 0, slots := 0, locals := 21 }
theorem fl5_traceNow_114 : Cond.fieldLink RX5 114 "RiverWordsModel" "tableA" "I" ∈ wsX5_traceNow := by decide +kernel
theorem fl5_traceNow_123 : Cond.fieldLink RX5 123 "RiverWordsModel" "tableD" "I" ∈ wsX5_traceNow := by decide +kernel
theorem inm5_traceNow : ∀ w ∈ wsX50, w ∈ wsX5_traceNow := fun w h => by unfold wsX5_traceNow; first | exact List.mem_cons_of_mem _ (List.mem_append_right _ h) | exact List.mem_cons_of_mem _ h
theorem hd5_traceNow : okD yX5_traceNow 0 := by decide +kernel
set_option maxHeartbeats 8000000 in
set_option maxRecDepth 100000 in
theorem c5_traceNow {res : Int32 × Int32 × Int32 × Int32 × Int32} (hrun : P5_traceNow v_size v_at = some res) : Met l yX5_traceNow wsX5_traceNow rm5_traceNow (va_Pc [.ref h] (PE D [(cA, .int)] sz (WM0 h ad cA) (WM h ad cA v_pageLength v_page v_roads v_lengths v_signs v_wordsRead v_disc v_forms v_formA v_formB v_formC v_nextOf v_cycleOf v_cycles v_firstOf v_newLength v_newSigns v_mayRun v_size v_at v_otherSize v_other v_tableA v_tableB v_tableC v_tableD v_a v_b v_c v_grade v_flowA v_flowB v_flowC v_seedNow v_h))) (va_Qi (fun (x : Int32) (_ : Unit) => x = res.1) (fun _ t => va_P D vwCl (WM h ad cA v_pageLength v_page v_roads v_lengths v_signs v_wordsRead v_disc v_forms v_formA v_formB v_formC v_nextOf v_cycleOf v_cycles v_firstOf v_newLength v_newSigns v_mayRun v_size v_at v_otherSize v_other res.2.1 res.2.2.1 res.2.2.2.1 res.2.2.2.2 v_a v_b v_c v_grade v_flowA v_flowB v_flowC v_seedNow v_h) t.heap) (va_A (WM0 h ad cA) sz)) 0 0 (va_A (WM0 h ad cA) sz) := by
  refine E_in (cc := cX5_traceNow) (maxL := 1) (ret := (some .int)) (by decide) rfl (Nat.le_of_ble_eq_true rfl) ?_
  intro p e s m args below meth c ls Q hQ C hr hlk hK hN hD hA I hl
  have C : CallFix p m c cX5_traceNow 1 s args wsX5_traceNow RX5 := C
  have hx := C.1
  have hb := C.2.1
  have hl : lv_has ls 1 [(0, .ref h)] := hl
  unfold P5_traceNow at hrun
  refine lv_aload_n hx hb dX5_traceNow_0 rfl (lv_at hl 0 rfl) ?_
  obtain ⟨r1, h_r1, hrun⟩ := p_bnd hrun
  refine jVE_v (rest := []) C (c5_layTable h_r1) gX5_traceNow_X5_layTable hd5_layTable hK hN hD hA I rcM rfl ⟨rfl, rfl⟩ ⟨Nat.le_of_ble_eq_true rfl, Nat.le_of_ble_eq_true rfl⟩ rfl hl.1 rfl (Nat.le_of_ble_eq_true rfl) ⟨Nat.le_of_ble_eq_true rfl, Nat.le_of_ble_eq_true rfl⟩ dX5_traceNow_1 (fun H locs I => ?_)
  refine lv_aload_n hx hb dX5_traceNow_4 rfl (lv_at hl 0 rfl) ?_
  refine gM_tableA C inm5_traceNow hK I.1 fl5_traceNow_114 dX5_traceNow_5 ?_
  refine lv_aload_n hx hb dX5_traceNow_8 rfl (lv_at hl 0 rfl) ?_
  refine gM_tableD C inm5_traceNow hK I.1 fl5_traceNow_123 dX5_traceNow_9 ?_
  refine lv_iadd hx hb dX5_traceNow_12 ?_
  cases hrun
  exact rE_i C hr hlk hQ I (nbi _) rfl dX5_traceNow_13

abbrev rm5_isRoad : Room := { frames := 1, cells := 0, slots := 0, locals := 22 }
theorem fl5_isRoad_75 : Cond.fieldLink RX5 75 "RiverWordsModel" "roads" "I" ∈ wsX5_isRoad := by decide +kernel
theorem inm5_isRoad : ∀ w ∈ wsX50, w ∈ wsX5_isRoad := fun w h => by unfold wsX5_isRoad; first | exact List.mem_cons_of_mem _ (List.mem_append_right _ h) | exact List.mem_cons_of_mem _ h
theorem hd5_isRoad : okD yX5_isRoad 1 := by decide +kernel
set_option maxHeartbeats 8000000 in
set_option maxRecDepth 100000 in
theorem c5_isRoad {x1 : Int32} {res : Int32} (hrun : P5_isRoad v_roads x1 = some res) : Met l yX5_isRoad wsX5_isRoad rm5_isRoad (va_Pc [.ref h, .int x1] (PS D [(cA, .int)] (WM h ad cA v_pageLength v_page v_roads v_lengths v_signs v_wordsRead v_disc v_forms v_formA v_formB v_formC v_nextOf v_cycleOf v_cycles v_firstOf v_newLength v_newSigns v_mayRun v_size v_at v_otherSize v_other v_tableA v_tableB v_tableC v_tableD v_a v_b v_c v_grade v_flowA v_flowB v_flowC v_seedNow v_h))) (vp_Si (fun x => x = res)) 0 0 (fun _ => False) := by
  refine S_in (cc := cX5_isRoad) (maxL := 2) (ret := (some .boolean)) (by decide) rfl (Nat.le_of_ble_eq_true rfl) ?_
  intro p e s m args below meth c ls Q hQ C hr hlk hK hN hP hl
  have C : CallFix p m c cX5_isRoad 2 s args wsX5_isRoad RX5 := C
  have hx := C.1
  have hb := C.2.1
  have hl : lv_has ls 2 [(0, .ref h), (1, .int x1)] := hl
  unfold P5_isRoad at hrun
  refine lv_iload_n hx hb dX5_isRoad_0 rfl (lv_at hl 1 rfl) ?_
  refine lv_iconst (v := 0) hx hb dX5_isRoad_1 rfl ?_
  refine lv_aload_n hx hb dX5_isRoad_2 rfl (lv_at hl 0 rfl) ?_
  refine gM_roads C inm5_isRoad hK hP fl5_isRoad_75 dX5_isRoad_3 ?_
  refine lv_iconst (v := 1) hx hb dX5_isRoad_6 rfl ?_
  refine lv_isub hx hb dX5_isRoad_7 ?_
  obtain ⟨r1, h_r1, hrun⟩ := p_bnd hrun
  refine jSS_i (rest := []) C (c5_within h_r1) gX5_isRoad_X5_within hd5_within rfl ⟨rfl, rfl⟩ ⟨Nat.le_of_ble_eq_true rfl, Nat.le_of_ble_eq_true rfl⟩ rfl hl.1 rfl (Nat.le_of_ble_eq_true rfl) ⟨Nat.le_of_ble_eq_true rfl, Nat.le_of_ble_eq_true rfl⟩ dX5_isRoad_8 ?_
  obtain ⟨z2, hrun⟩ := p_chk hrun
  cases hrun
  exact rS_i C hr hlk hQ (nb01 z2) rfl dX5_isRoad_11

abbrev rm5_roadNow : Room := { frames := 2, cells := 0, slots := 0, locals := 46 }
theorem fl5_roadNow_85 : Cond.fieldLink RX5 85 "RiverWordsModel" "size" "I" ∈ wsX5_roadNow := by decide +kernel
theorem inm5_roadNow : ∀ w ∈ wsX50, w ∈ wsX5_roadNow := fun w h => by unfold wsX5_roadNow; first | exact List.mem_cons_of_mem _ (List.mem_append_right _ h) | exact List.mem_cons_of_mem _ h
theorem hd5_roadNow : okD yX5_roadNow 2 := by decide +kernel
set_option maxHeartbeats 8000000 in
set_option maxRecDepth 100000 in
theorem c5_roadNow {x1 : Int32} {x2 : Int32} {res : Int32 × Int32 × (Nat → Int32) × Int32 × (Nat → Int32) × Int32 × Int32 × Int32 × Int32} (hrun : P5_roadNow v_lengths v_signs v_at v_otherSize v_other v_tableA v_tableB v_tableC v_tableD x1 x2 = some res) : Met l yX5_roadNow wsX5_roadNow rm5_roadNow (va_Pc [.ref h, .int x1, .int x2] (PE D [(cA, .int)] sz (WM0 h ad cA) (WM h ad cA v_pageLength v_page v_roads v_lengths v_signs v_wordsRead v_disc v_forms v_formA v_formB v_formC v_nextOf v_cycleOf v_cycles v_firstOf v_newLength v_newSigns v_mayRun v_size v_at v_otherSize v_other v_tableA v_tableB v_tableC v_tableD v_a v_b v_c v_grade v_flowA v_flowB v_flowC v_seedNow v_h))) (va_Qi (fun (x : Int32) (_ : Unit) => x = res.1) (fun _ t => va_P D vwCl (WM h ad cA v_pageLength v_page v_roads v_lengths v_signs v_wordsRead v_disc v_forms v_formA v_formB v_formC v_nextOf v_cycleOf v_cycles v_firstOf v_newLength v_newSigns v_mayRun res.2.1 res.2.2.1 res.2.2.2.1 res.2.2.2.2.1 res.2.2.2.2.2.1 res.2.2.2.2.2.2.1 res.2.2.2.2.2.2.2.1 res.2.2.2.2.2.2.2.2 v_a v_b v_c v_grade v_flowA v_flowB v_flowC v_seedNow v_h) t.heap) (va_A (WM0 h ad cA) sz)) 0 0 (va_A (WM0 h ad cA) sz) := by
  refine E_in (cc := cX5_roadNow) (maxL := 3) (ret := (some .int)) (by decide) rfl (Nat.le_of_ble_eq_true rfl) ?_
  intro p e s m args below meth c ls Q hQ C hr hlk hK hN hD hA I hl
  have C : CallFix p m c cX5_roadNow 3 s args wsX5_roadNow RX5 := C
  have hx := C.1
  have hb := C.2.1
  have hl : lv_has ls 3 [(0, .ref h), (1, .int x1), (2, .int x2)] := hl
  unfold P5_roadNow at hrun
  refine lv_aload_n hx hb dX5_roadNow_0 rfl (lv_at hl 0 rfl) ?_
  refine lv_iload_n hx hb dX5_roadNow_1 rfl (lv_at hl 1 rfl) ?_
  obtain ⟨r1, h_r1, hrun⟩ := p_bnd hrun
  refine jVE_v (rest := []) C (c5_look h_r1) gX5_roadNow_X5_look hd5_look hK hN hD hA I rcM rfl ⟨rfl, rfl⟩ ⟨Nat.le_of_ble_eq_true rfl, Nat.le_of_ble_eq_true rfl⟩ rfl hl.1 rfl (Nat.le_of_ble_eq_true rfl) ⟨Nat.le_of_ble_eq_true rfl, Nat.le_of_ble_eq_true rfl⟩ dX5_roadNow_2 (fun H locs I => ?_)
  refine lv_iload_n hx hb dX5_roadNow_5 rfl (lv_at hl 2 rfl) ?_
  by_cases c2 : x2 = 0
  · have hrun := p_pos hrun c2
    refine j_tswIn  (tgt := 56) hx hb 0 c2 dX5_roadNow_6 (by decide) (by decide) rfl rfl ?_
    refine lv_aload_n hx hb dX5_roadNow_56 rfl (lv_at hl 0 rfl) ?_
    refine gM_size C inm5_roadNow hK I.1 fl5_roadNow_85 dX5_roadNow_57 ?_
    cases hrun
    exact rE_i C hr hlk hQ I (nbi _) rfl dX5_roadNow_60
  · have hrun := p_neg hrun c2
    by_cases c3 : x2 = 1
    · have hrun := p_pos hrun c3
      refine j_tswIn  (tgt := 61) hx hb 1 c3 dX5_roadNow_6 (by decide) (by decide) rfl rfl ?_
      refine lv_aload_n hx hb dX5_roadNow_61 rfl (lv_at hl 0 rfl) ?_
      obtain ⟨r4, h_r4, hrun⟩ := p_bnd hrun
      refine jVS_i (rest := []) C (c5_lefts h_r4) gX5_roadNow_X5_lefts hd5_lefts hK hN I.1 rcM rfl ⟨rfl, rfl⟩ ⟨Nat.le_of_ble_eq_true rfl, Nat.le_of_ble_eq_true rfl⟩ rfl hl.1 rfl (Nat.le_of_ble_eq_true rfl) ⟨Nat.le_of_ble_eq_true rfl, Nat.le_of_ble_eq_true rfl⟩ dX5_roadNow_62 ?_
      cases hrun
      exact rE_i C hr hlk hQ I (nbi _) rfl dX5_roadNow_65
    · have hrun := p_neg hrun c3
      by_cases c5 : x2 = 2
      · have hrun := p_pos hrun c5
        refine j_tswIn  (tgt := 66) hx hb 2 c5 dX5_roadNow_6 (by decide) (by decide) rfl rfl ?_
        refine lv_aload_n hx hb dX5_roadNow_66 rfl (lv_at hl 0 rfl) ?_
        refine gM_size C inm5_roadNow hK I.1 fl5_roadNow_85 dX5_roadNow_67 ?_
        refine lv_aload_n hx hb dX5_roadNow_70 rfl (lv_at hl 0 rfl) ?_
        obtain ⟨r6, h_r6, hrun⟩ := p_bnd hrun
        refine jVS_i (rest := [.int r1.1]) C (c5_lefts h_r6) gX5_roadNow_X5_lefts hd5_lefts hK hN I.1 rcM rfl ⟨rfl, rfl⟩ ⟨Nat.le_of_ble_eq_true rfl, Nat.le_of_ble_eq_true rfl⟩ rfl hl.1 rfl (Nat.le_of_ble_eq_true rfl) ⟨Nat.le_of_ble_eq_true rfl, Nat.le_of_ble_eq_true rfl⟩ dX5_roadNow_71 ?_
        refine lv_isub hx hb dX5_roadNow_74 ?_
        cases hrun
        exact rE_i C hr hlk hQ I (nbi _) rfl dX5_roadNow_75
      · have hrun := p_neg hrun c5
        by_cases c7 : x2 = 3
        · have hrun := p_pos hrun c7
          refine j_tswIn  (tgt := 76) hx hb 3 c7 dX5_roadNow_6 (by decide) (by decide) rfl rfl ?_
          refine lv_aload_n hx hb dX5_roadNow_76 rfl (lv_at hl 0 rfl) ?_
          obtain ⟨r8, h_r8, hrun⟩ := p_bnd hrun
          refine jVS_i (rest := []) C (c5_periodNow h_r8) gX5_roadNow_X5_periodNow hd5_periodNow hK hN I.1 rcM rfl ⟨rfl, rfl⟩ ⟨Nat.le_of_ble_eq_true rfl, Nat.le_of_ble_eq_true rfl⟩ rfl hl.1 rfl (Nat.le_of_ble_eq_true rfl) ⟨Nat.le_of_ble_eq_true rfl, Nat.le_of_ble_eq_true rfl⟩ dX5_roadNow_77 ?_
          cases hrun
          exact rE_i C hr hlk hQ I (nbi _) rfl dX5_roadNow_80
        · have hrun := p_neg hrun c7
          by_cases c9 : x2 = 4
          · have hrun := p_pos hrun c9
            refine j_tswIn  (tgt := 81) hx hb 4 c9 dX5_roadNow_6 (by decide) (by decide) rfl rfl ?_
            refine lv_aload_n hx hb dX5_roadNow_81 rfl (lv_at hl 0 rfl) ?_
            obtain ⟨r10, h_r10, hrun⟩ := p_bnd hrun
            refine jVS_i (rest := []) C (c5_leastTurnNow h_r10) gX5_roadNow_X5_leastTurnNow hd5_leastTurnNow hK hN I.1 rcM rfl ⟨rfl, rfl⟩ ⟨Nat.le_of_ble_eq_true rfl, Nat.le_of_ble_eq_true rfl⟩ rfl hl.1 rfl (Nat.le_of_ble_eq_true rfl) ⟨Nat.le_of_ble_eq_true rfl, Nat.le_of_ble_eq_true rfl⟩ dX5_roadNow_82 ?_
            cases hrun
            exact rE_i C hr hlk hQ I (nbi _) rfl dX5_roadNow_85
          · have hrun := p_neg hrun c9
            by_cases c11 : x2 = 5
            · have hrun := p_pos hrun c11
              refine j_tswIn  (tgt := 86) hx hb 5 c11 dX5_roadNow_6 (by decide) (by decide) rfl rfl ?_
              refine lv_aload_n hx hb dX5_roadNow_86 rfl (lv_at hl 0 rfl) ?_
              obtain ⟨r12, h_r12, hrun⟩ := p_bnd hrun
              refine jVE_i (rest := []) C (c5_traceNow h_r12) gX5_roadNow_X5_traceNow hd5_traceNow hK hN hD hA I rcM rfl ⟨rfl, rfl⟩ ⟨Nat.le_of_ble_eq_true rfl, Nat.le_of_ble_eq_true rfl⟩ rfl hl.1 rfl (Nat.le_of_ble_eq_true rfl) ⟨Nat.le_of_ble_eq_true rfl, Nat.le_of_ble_eq_true rfl⟩ dX5_roadNow_87 (fun H locs I => ?_)
              cases hrun
              exact rE_i C hr hlk hQ I (nbi _) rfl dX5_roadNow_90
            · have hrun := p_neg hrun c11
              by_cases c13 : x2 = 6
              · have hrun := p_pos hrun c13
                refine j_tswIn  (tgt := 91) hx hb 6 c13 dX5_roadNow_6 (by decide) (by decide) rfl rfl ?_
                refine lv_aload_n hx hb dX5_roadNow_91 rfl (lv_at hl 0 rfl) ?_
                obtain ⟨r14, h_r14, hrun⟩ := p_bnd hrun
                refine jVS_i (rest := []) C (c5_isClosedNow h_r14) gX5_roadNow_X5_isClosedNow hd5_isClosedNow hK hN I.1 rcM rfl ⟨rfl, rfl⟩ ⟨Nat.le_of_ble_eq_true rfl, Nat.le_of_ble_eq_true rfl⟩ rfl hl.1 rfl (Nat.le_of_ble_eq_true rfl) ⟨Nat.le_of_ble_eq_true rfl, Nat.le_of_ble_eq_true rfl⟩ dX5_roadNow_92 ?_
                refine lv_if_eq (tgt := 102) hx hb dX5_roadNow_95 rfl (fun c15 => ?_) (fun c15 => ?_)
                · have hrun := p_pos hrun c15
                  refine lv_iconst (v := 0) hx hb dX5_roadNow_102 rfl ?_
                  cases hrun
                  exact rE_i C hr hlk hQ I (nbi _) rfl dX5_roadNow_103
                · have hrun := p_neg hrun c15
                  refine lv_iconst (v := 1) hx hb dX5_roadNow_98 rfl ?_
                  refine lv_goto (tgt := 103) hx hb dX5_roadNow_99 rfl ?_
                  cases hrun
                  exact rE_i C hr hlk hQ I (nbi _) rfl dX5_roadNow_103
              · have hrun := p_neg hrun c13
                by_cases c16 : x2 = 7
                · have hrun := p_pos hrun c16
                  refine j_tswIn  (tgt := 104) hx hb 7 c16 dX5_roadNow_6 (by decide) (by decide) rfl rfl ?_
                  refine lv_aload_n hx hb dX5_roadNow_104 rfl (lv_at hl 0 rfl) ?_
                  refine lv_iconst (v := 1) hx hb dX5_roadNow_105 rfl ?_
                  refine lv_iconst (v := 0) hx hb dX5_roadNow_106 rfl ?_
                  obtain ⟨r17, h_r17, hrun⟩ := p_bnd hrun
                  refine jVE_i (rest := []) C (c5_isAlike h_r17) gX5_roadNow_X5_isAlike hd5_isAlike hK hN hD hA I rcM rfl ⟨rfl, rfl⟩ ⟨Nat.le_of_ble_eq_true rfl, Nat.le_of_ble_eq_true rfl⟩ rfl hl.1 rfl (Nat.le_of_ble_eq_true rfl) ⟨Nat.le_of_ble_eq_true rfl, Nat.le_of_ble_eq_true rfl⟩ dX5_roadNow_107 (fun H locs I => ?_)
                  refine lv_if_eq (tgt := 117) hx hb dX5_roadNow_110 rfl (fun c18 => ?_) (fun c18 => ?_)
                  · have hrun := p_pos hrun c18
                    refine lv_iconst (v := 0) hx hb dX5_roadNow_117 rfl ?_
                    cases hrun
                    exact rE_i C hr hlk hQ I (nbi _) rfl dX5_roadNow_118
                  · have hrun := p_neg hrun c18
                    refine lv_iconst (v := 1) hx hb dX5_roadNow_113 rfl ?_
                    refine lv_goto (tgt := 118) hx hb dX5_roadNow_114 rfl ?_
                    cases hrun
                    exact rE_i C hr hlk hQ I (nbi _) rfl dX5_roadNow_118
                · have hrun := p_neg hrun c16
                  by_cases c19 : x2 = 8
                  · have hrun := p_pos hrun c19
                    refine j_tswIn  (tgt := 119) hx hb 8 c19 dX5_roadNow_6 (by decide) (by decide) rfl rfl ?_
                    refine lv_aload_n hx hb dX5_roadNow_119 rfl (lv_at hl 0 rfl) ?_
                    refine lv_iconst (v := 0) hx hb dX5_roadNow_120 rfl ?_
                    refine lv_iconst (v := 1) hx hb dX5_roadNow_121 rfl ?_
                    obtain ⟨r20, h_r20, hrun⟩ := p_bnd hrun
                    refine jVE_i (rest := []) C (c5_isAlike h_r20) gX5_roadNow_X5_isAlike hd5_isAlike hK hN hD hA I rcM rfl ⟨rfl, rfl⟩ ⟨Nat.le_of_ble_eq_true rfl, Nat.le_of_ble_eq_true rfl⟩ rfl hl.1 rfl (Nat.le_of_ble_eq_true rfl) ⟨Nat.le_of_ble_eq_true rfl, Nat.le_of_ble_eq_true rfl⟩ dX5_roadNow_122 (fun H locs I => ?_)
                    refine lv_if_eq (tgt := 132) hx hb dX5_roadNow_125 rfl (fun c21 => ?_) (fun c21 => ?_)
                    · have hrun := p_pos hrun c21
                      refine lv_iconst (v := 0) hx hb dX5_roadNow_132 rfl ?_
                      cases hrun
                      exact rE_i C hr hlk hQ I (nbi _) rfl dX5_roadNow_133
                    · have hrun := p_neg hrun c21
                      refine lv_iconst (v := 1) hx hb dX5_roadNow_128 rfl ?_
                      refine lv_goto (tgt := 133) hx hb dX5_roadNow_129 rfl ?_
                      cases hrun
                      exact rE_i C hr hlk hQ I (nbi _) rfl dX5_roadNow_133
                  · have hrun := p_neg hrun c19
                    refine lv_tableOut (tgt := 134) hx hb dX5_roadNow_6 (j_tswOut (lo := 0) (hi := 8) [0, 1, 2, 3, 4, 5, 6, 7, 8] (by decide) (fun k hk => by simp only [List.mem_cons, List.not_mem_nil, or_false] at hk; rcases hk with rfl | rfl | rfl | rfl | rfl | rfl | rfl | rfl | rfl <;> assumption)) rfl ?_
                    refine lv_aload_n hx hb dX5_roadNow_134 rfl (lv_at hl 0 rfl) ?_
                    refine lv_iconst (v := 1) hx hb dX5_roadNow_135 rfl ?_
                    refine lv_iconst (v := 1) hx hb dX5_roadNow_136 rfl ?_
                    obtain ⟨r22, h_r22, hrun⟩ := p_bnd hrun
                    refine jVE_i (rest := []) C (c5_isAlike h_r22) gX5_roadNow_X5_isAlike hd5_isAlike hK hN hD hA I rcM rfl ⟨rfl, rfl⟩ ⟨Nat.le_of_ble_eq_true rfl, Nat.le_of_ble_eq_true rfl⟩ rfl hl.1 rfl (Nat.le_of_ble_eq_true rfl) ⟨Nat.le_of_ble_eq_true rfl, Nat.le_of_ble_eq_true rfl⟩ dX5_roadNow_137 (fun H locs I => ?_)
                    refine lv_if_eq (tgt := 147) hx hb dX5_roadNow_140 rfl (fun c23 => ?_) (fun c23 => ?_)
                    · have hrun := p_pos hrun c23
                      refine lv_iconst (v := 0) hx hb dX5_roadNow_147 rfl ?_
                      cases hrun
                      exact rE_i C hr hlk hQ I (nbi _) rfl dX5_roadNow_148
                    · have hrun := p_neg hrun c23
                      refine lv_iconst (v := 1) hx hb dX5_roadNow_143 rfl ?_
                      refine lv_goto (tgt := 148) hx hb dX5_roadNow_144 rfl ?_
                      cases hrun
                      exact rE_i C hr hlk hQ I (nbi _) rfl dX5_roadNow_148

abbrev rm5_road : Room := { frames := 3, cells := 0, slots := 0, locals := 68 }
theorem k5_road_54 : Cond.constant RX5 54 (-2000000102) ∈ wsX5_road := by decide +kernel
theorem k5_road_145 : Cond.constant RX5 145 (-2000000101) ∈ wsX5_road := by decide +kernel
theorem hd5_road : okD yX5_road 2 := by decide +kernel
set_option maxHeartbeats 8000000 in
set_option maxRecDepth 100000 in
theorem c5_road {x1 : Int32} {x2 : Int32} {res : Int32 × Int32 × (Nat → Int32) × Int32 × (Nat → Int32) × Int32 × Int32 × Int32 × Int32} (hrun : P5_road v_roads v_lengths v_signs v_size v_at v_otherSize v_other v_tableA v_tableB v_tableC v_tableD x1 x2 = some res) : Met l yX5_road wsX5_road rm5_road (va_Pc [.ref h, .int x1, .int x2] (PE D [(cA, .int)] sz (WM0 h ad cA) (WM h ad cA v_pageLength v_page v_roads v_lengths v_signs v_wordsRead v_disc v_forms v_formA v_formB v_formC v_nextOf v_cycleOf v_cycles v_firstOf v_newLength v_newSigns v_mayRun v_size v_at v_otherSize v_other v_tableA v_tableB v_tableC v_tableD v_a v_b v_c v_grade v_flowA v_flowB v_flowC v_seedNow v_h))) (va_Qi (fun (x : Int32) (_ : Unit) => x = res.1) (fun _ t => va_P D vwCl (WM h ad cA v_pageLength v_page v_roads v_lengths v_signs v_wordsRead v_disc v_forms v_formA v_formB v_formC v_nextOf v_cycleOf v_cycles v_firstOf v_newLength v_newSigns v_mayRun res.2.1 res.2.2.1 res.2.2.2.1 res.2.2.2.2.1 res.2.2.2.2.2.1 res.2.2.2.2.2.2.1 res.2.2.2.2.2.2.2.1 res.2.2.2.2.2.2.2.2 v_a v_b v_c v_grade v_flowA v_flowB v_flowC v_seedNow v_h) t.heap) (va_A (WM0 h ad cA) sz)) 0 0 (va_A (WM0 h ad cA) sz) := by
  refine E_in (cc := cX5_road) (maxL := 3) (ret := (some .int)) (by decide) rfl (Nat.le_of_ble_eq_true rfl) ?_
  intro p e s m args below meth c ls Q hQ C hr hlk hK hN hD hA I hl
  have C : CallFix p m c cX5_road 3 s args wsX5_road RX5 := C
  have hx := C.1
  have hb := C.2.1
  have hl : lv_has ls 3 [(0, .ref h), (1, .int x1), (2, .int x2)] := hl
  unfold P5_road at hrun
  refine lv_aload_n hx hb dX5_road_0 rfl (lv_at hl 0 rfl) ?_
  refine lv_iload_n hx hb dX5_road_1 rfl (lv_at hl 1 rfl) ?_
  obtain ⟨r1, h_r1, hrun⟩ := p_bnd hrun
  refine jVS_i (rest := []) C (c5_isRoad h_r1) gX5_road_X5_isRoad hd5_isRoad hK hN I.1 rcM rfl ⟨rfl, rfl⟩ ⟨Nat.le_of_ble_eq_true rfl, Nat.le_of_ble_eq_true rfl⟩ rfl hl.1 rfl (Nat.le_of_ble_eq_true rfl) ⟨Nat.le_of_ble_eq_true rfl, Nat.le_of_ble_eq_true rfl⟩ dX5_road_2 ?_
  refine lv_if_ne (tgt := 13) hx hb dX5_road_5 rfl (fun c2 => ?_) (fun c2 => ?_)
  · have hrun := p_neg hrun c2
    refine lv_iload_n hx hb dX5_road_13 rfl (lv_at hl 2 rfl) ?_
    refine lv_iconst (v := 0) hx hb dX5_road_14 rfl ?_
    refine lv_bipush (v := 9) hx hb dX5_road_15 rfl ?_
    obtain ⟨r3, h_r3, hrun⟩ := p_bnd hrun
    refine jSS_i (rest := []) C (c5_within h_r3) gX5_road_X5_within hd5_within rfl ⟨rfl, rfl⟩ ⟨Nat.le_of_ble_eq_true rfl, Nat.le_of_ble_eq_true rfl⟩ rfl hl.1 rfl (Nat.le_of_ble_eq_true rfl) ⟨Nat.le_of_ble_eq_true rfl, Nat.le_of_ble_eq_true rfl⟩ dX5_road_17 ?_
    refine lv_if_eq (tgt := 32) hx hb dX5_road_20 rfl (fun c4 => ?_) (fun c4 => ?_)
    · have hrun := p_pos hrun c4
      refine lv_ldc (v := (-2000000102)) hx hb C.2.2.2.1 (C.2.2.2.2 _ k5_road_54) dX5_road_32 ?_
      cases hrun
      exact rE_i C hr hlk hQ I (nbi _) rfl dX5_road_34
    · have hrun := p_neg hrun c4
      refine lv_aload_n hx hb dX5_road_23 rfl (lv_at hl 0 rfl) ?_
      refine lv_iload_n hx hb dX5_road_24 rfl (lv_at hl 1 rfl) ?_
      refine lv_iload_n hx hb dX5_road_25 rfl (lv_at hl 2 rfl) ?_
      obtain ⟨r5, h_r5, hrun⟩ := p_bnd hrun
      refine jVE_i (rest := []) C (c5_roadNow h_r5) gX5_road_X5_roadNow hd5_roadNow hK hN hD hA I rcM rfl ⟨rfl, rfl⟩ ⟨Nat.le_of_ble_eq_true rfl, Nat.le_of_ble_eq_true rfl⟩ rfl hl.1 rfl (Nat.le_of_ble_eq_true rfl) ⟨Nat.le_of_ble_eq_true rfl, Nat.le_of_ble_eq_true rfl⟩ dX5_road_26 (fun H locs I => ?_)
      refine lv_goto (tgt := 34) hx hb dX5_road_29 rfl ?_
      cases hrun
      exact rE_i C hr hlk hQ I (nbi _) rfl dX5_road_34
  · have hrun := p_pos hrun c2
    refine lv_ldc (v := (-2000000101)) hx hb C.2.2.2.1 (C.2.2.2.2 _ k5_road_145) dX5_road_8 ?_
    refine lv_goto (tgt := 34) hx hb dX5_road_10 rfl ?_
    cases hrun
    exact rE_i C hr hlk hQ I (nbi _) rfl dX5_road_34

abbrev rm5_codeOf : Room := { frames := 0, cells := 0, slots := 0, locals := 0 }
theorem hd5_codeOf : okD yX5_codeOf 1 := by decide +kernel
set_option maxHeartbeats 8000000 in
set_option maxRecDepth 100000 in
theorem c5_codeOf {x0 : Int32} {res : Int32} (hrun : P5_codeOf x0 = some res) : Met l yX5_codeOf wsX5_codeOf rm5_codeOf (va_Pc [.int x0] PN) (vp_Si (fun x => x = res)) 0 0 (fun _ => False) := by
  refine N_in (cc := cX5_codeOf) (maxL := 1) (ret := (some .int)) (by decide) rfl (Nat.le_of_ble_eq_true rfl) ?_
  intro p e s m args below meth c ls Q hQ C hr hlk hl
  have C : CallFix p m c cX5_codeOf 1 s args wsX5_codeOf RX5 := C
  have hx := C.1
  have hb := C.2.1
  have hl : lv_has ls 1 [(0, .int x0)] := hl
  unfold P5_codeOf at hrun
  refine lv_iload_n hx hb dX5_codeOf_0 rfl (lv_at hl 0 rfl) ?_
  refine lv_if_ne (tgt := 9) hx hb dX5_codeOf_1 rfl (fun c1 => ?_) (fun c1 => ?_)
  · have hrun := p_neg hrun c1
    refine lv_bipush (v := 82) hx hb dX5_codeOf_9 rfl ?_
    cases hrun
    exact rS_i C hr hlk hQ (nbi _) rfl dX5_codeOf_11
  · have hrun := p_pos hrun c1
    refine lv_bipush (v := 76) hx hb dX5_codeOf_4 rfl ?_
    refine lv_goto (tgt := 11) hx hb dX5_codeOf_6 rfl ?_
    cases hrun
    exact rS_i C hr hlk hQ (nbi _) rfl dX5_codeOf_11

end M52
