section M512
variable {l : Launch} {D : va_G} {sz : Nat}
variable {h : Nat} {ad : Nat → Nat} {cA : ClassId}
variable {v_pageLength v_roads v_wordsRead v_disc v_forms v_cycles v_newLength v_mayRun v_size v_otherSize v_tableA v_tableB v_tableC v_tableD v_a v_b v_c v_grade v_flowA v_flowB v_flowC : Int32}
variable {v_seedNow v_h : Int64}
variable {v_page v_lengths v_signs v_formA v_formB v_formC v_nextOf v_cycleOf v_firstOf v_newSigns v_at v_other : Nat → Int32}
abbrev rm5_drawnNow : Room := { frames := 2, cells := 0, slots := 0, locals := 49 }
theorem fl5_drawnNow_40 : Cond.fieldLink RX5 40 "RiverWordsModel" "at" "[I" ∈ wsX5_drawnNow := by decide +kernel
theorem fl5_drawnNow_85 : Cond.fieldLink RX5 85 "RiverWordsModel" "size" "I" ∈ wsX5_drawnNow := by decide +kernel
theorem fl5_drawnNow_281 : Cond.fieldLink RX5 281 "RiverWordsModel" "seedNow" "J" ∈ wsX5_drawnNow := by decide +kernel
theorem inm5_drawnNow : ∀ w ∈ wsX50, w ∈ wsX5_drawnNow := fun w h => by unfold wsX5_drawnNow; first | exact List.mem_cons_of_mem _ (List.mem_append_right _ h) | exact List.mem_cons_of_mem _ h
theorem hd5_drawnNow : okD yX5_drawnNow 2 := by decide +kernel
set_option maxHeartbeats 8000000 in
set_option maxRecDepth 100000 in
theorem c5_drawnNow {x1 : Int32} {x2 : Int32} {res : Int32 × Int32 × (Nat → Int32) × Int32 × (Nat → Int32) × Int32 × Int32 × Int32 × Int32 × Int64} (hrun : P5_drawnNow v_size v_at v_otherSize v_other v_tableA v_tableB v_tableC v_tableD v_seedNow x1 x2 = some res) : Met l yX5_drawnNow wsX5_drawnNow rm5_drawnNow (va_Pc [.ref h, .int x1, .int x2] (PE D [(cA, .int)] sz (WM0 h ad cA) (WM h ad cA v_pageLength v_page v_roads v_lengths v_signs v_wordsRead v_disc v_forms v_formA v_formB v_formC v_nextOf v_cycleOf v_cycles v_firstOf v_newLength v_newSigns v_mayRun v_size v_at v_otherSize v_other v_tableA v_tableB v_tableC v_tableD v_a v_b v_c v_grade v_flowA v_flowB v_flowC v_seedNow v_h))) (va_Qi (fun (x : Int32) (_ : Unit) => x = res.1) (fun _ t => va_P D vwCl (WM h ad cA v_pageLength v_page v_roads v_lengths v_signs v_wordsRead v_disc v_forms v_formA v_formB v_formC v_nextOf v_cycleOf v_cycles v_firstOf v_newLength v_newSigns v_mayRun res.2.1 res.2.2.1 res.2.2.2.1 res.2.2.2.2.1 res.2.2.2.2.2.1 res.2.2.2.2.2.2.1 res.2.2.2.2.2.2.2.1 res.2.2.2.2.2.2.2.2.1 v_a v_b v_c v_grade v_flowA v_flowB v_flowC res.2.2.2.2.2.2.2.2.2 v_h) t.heap) (va_A (WM0 h ad cA) sz)) 0 0 (va_A (WM0 h ad cA) sz) := by
  refine E_in (cc := cX5_drawnNow) (maxL := 9) (ret := (some .int)) (by decide) rfl (Nat.le_of_ble_eq_true rfl) ?_
  intro p e s m args below meth c ls Q hQ C hr hlk hK hN hD hA I hl
  have C : CallFix p m c cX5_drawnNow 9 s args wsX5_drawnNow RX5 := C
  have hx := C.1
  have hb := C.2.1
  have hl : lv_has ls 9 [(0, .ref h), (1, .int x1), (2, .int x2)] := hl
  have loop_35 : ∀ (v_size : Int32) (v_otherSize : Int32) (v_other : Nat → Int32) (v_tableA : Int32) (v_tableB : Int32) (v_tableC : Int32) (v_tableD : Int32) (x3 : Int32) (x4 : Int32) (x5 : Int32) (x6 : Int32) (x7 : Int32) (n : Nat) (v_at : Nat → Int32) (v_seedNow : Int64) (x8 : Int32) (out : (Nat → Int32) × Int64), P5_drawnNow_35 n v_at v_seedNow x8 = some out → (∀ (H : Heap) (locs : List Loc) (ls : Array Slot), IM D (va_A (WM0 h ad cA) sz) s.heap H locs (WM h ad cA v_pageLength v_page v_roads v_lengths v_signs v_wordsRead v_disc v_forms v_formA v_formB v_formC v_nextOf v_cycleOf v_cycles v_firstOf v_newLength v_newSigns v_mayRun v_size out.1 v_otherSize v_other v_tableA v_tableB v_tableC v_tableD v_a v_b v_c v_grade v_flowA v_flowB v_flowC out.2 v_h) → lv_has ls 9 [(0, .ref h), (1, .int x1), (2, .int x2), (3, .int x3), (4, .int x4), (5, .int x5), (6, .int x6), (7, .int x7)] → W p l e rm5_drawnNow s m args below meth c H locs 0 0 Q (F0 m 69 ls [])) → ∀ (H : Heap) (locs : List Loc) (ls : Array Slot), IM D (va_A (WM0 h ad cA) sz) s.heap H locs (WM h ad cA v_pageLength v_page v_roads v_lengths v_signs v_wordsRead v_disc v_forms v_formA v_formB v_formC v_nextOf v_cycleOf v_cycles v_firstOf v_newLength v_newSigns v_mayRun v_size v_at v_otherSize v_other v_tableA v_tableB v_tableC v_tableD v_a v_b v_c v_grade v_flowA v_flowB v_flowC v_seedNow v_h) → lv_has ls 9 [(0, .ref h), (1, .int x1), (2, .int x2), (3, .int x3), (4, .int x4), (5, .int x5), (6, .int x6), (7, .int x7), (8, .int x8)] → W p l e rm5_drawnNow s m args below meth c H locs 0 0 Q (F0 m 35 ls []) := by
    intro v_size v_otherSize v_other v_tableA v_tableB v_tableC v_tableD x3 x4 x5 x6 x7 n
    induction n with
    | zero =>
      intro v_at v_seedNow x8 out hrun K H locs ls I hl
      cases hrun
    | succ n ih =>
      intro v_at v_seedNow x8 out hrun K H locs ls I hl
      rw [P5_drawnNow_35] at hrun
      refine lv_iload hx hb dX5_drawnNow_35 (lv_at hl 8 rfl) ?_
      refine lv_bipush (v := 8) hx hb dX5_drawnNow_37 rfl ?_
      refine lv_icmp_ge (tgt := 69) hx hb dX5_drawnNow_39 rfl (fun c3 => ?_) (fun c3 => ?_)
      · have hrun := p_pos hrun c3
        cases hrun
        exact K _ _ _ I (lv_sub hl [0, 1, 2, 3, 4, 5, 6, 7] rfl)
      · have hrun := p_neg hrun c3
        refine lv_aload_n hx hb dX5_drawnNow_42 rfl (lv_at hl 0 rfl) ?_
        refine gM_at C inm5_drawnNow hK I.1 fl5_drawnNow_40 dX5_drawnNow_43 ?_
        refine lv_iload hx hb dX5_drawnNow_46 (lv_at hl 8 rfl) ?_
        refine lv_aload_n hx hb dX5_drawnNow_48 rfl (lv_at hl 0 rfl) ?_
        refine lv_iconst (v := 2) hx hb dX5_drawnNow_49 rfl ?_
        obtain ⟨r4, h_r4, hrun⟩ := p_bnd hrun
        refine jVE_i (rest := [.int x8, .ref (ad 10)]) C (c5_drawOf h_r4) gX5_drawnNow_X5_drawOf hd5_drawOf hK hN hD hA I rcM rfl ⟨rfl, rfl⟩ ⟨Nat.le_of_ble_eq_true rfl, Nat.le_of_ble_eq_true rfl⟩ rfl hl.1 rfl (Nat.le_of_ble_eq_true rfl) ⟨Nat.le_of_ble_eq_true rfl, Nat.le_of_ble_eq_true rfl⟩ dX5_drawnNow_50 (fun H locs I => ?_)
        refine lv_iconst (v := 1) hx hb dX5_drawnNow_53 rfl ?_
        refine lv_icmp_ne (tgt := 61) hx hb dX5_drawnNow_54 rfl (fun c5 => ?_) (fun c5 => ?_)
        · have hrun := p_neg hrun c5
          refine lv_iconst (v := 0) hx hb dX5_drawnNow_61 rfl ?_
          obtain ⟨b6, hrun⟩ := p_chk hrun
          refine stM_at C hK hD I b6 dX5_drawnNow_62 (fun H locs I => ?_)
          refine lv_iinc (v := x8 + 1) (lv' := [(8, .int (x8 + 1)), (0, .ref h), (1, .int x1), (2, .int x2), (3, .int x3), (4, .int x4), (5, .int x5), (6, .int x6), (7, .int x7)]) hx hb dX5_drawnNow_63 hl (k := 8) rfl rfl (by decide) rfl (fun ls hl => ?_)
          refine lv_goto (tgt := 35) hx hb dX5_drawnNow_66 rfl ?_
          exact ih (upd v_at (Int32.toNatClampNeg x8) 0) r4.2 (x8 + 1) out hrun K _ _ _ I (lv_sub hl [1, 2, 3, 4, 5, 6, 7, 8, 0] rfl)
        · have hrun := p_pos hrun c5
          refine lv_iconst (v := 1) hx hb dX5_drawnNow_57 rfl ?_
          refine lv_goto (tgt := 62) hx hb dX5_drawnNow_58 rfl ?_
          obtain ⟨b7, hrun⟩ := p_chk hrun
          refine stM_at C hK hD I b7 dX5_drawnNow_62 (fun H locs I => ?_)
          refine lv_iinc (v := x8 + 1) (lv' := [(8, .int (x8 + 1)), (0, .ref h), (1, .int x1), (2, .int x2), (3, .int x3), (4, .int x4), (5, .int x5), (6, .int x6), (7, .int x7)]) hx hb dX5_drawnNow_63 hl (k := 8) rfl rfl (by decide) rfl (fun ls hl => ?_)
          refine lv_goto (tgt := 35) hx hb dX5_drawnNow_66 rfl ?_
          exact ih (upd v_at (Int32.toNatClampNeg x8) 1) r4.2 (x8 + 1) out hrun K _ _ _ I (lv_sub hl [1, 2, 3, 4, 5, 6, 7, 8, 0] rfl)
  have loop_14 : ∀ (n : Nat) (v_size : Int32) (v_at : Nat → Int32) (v_otherSize : Int32) (v_other : Nat → Int32) (v_tableA : Int32) (v_tableB : Int32) (v_tableC : Int32) (v_tableD : Int32) (v_seedNow : Int64) (x3 : Int32) (x4 : Int32) (x5 : Int32) (x6 : Int32) (x7 : Int32) (out : Int32 × (Nat → Int32) × Int32 × (Nat → Int32) × Int32 × Int32 × Int32 × Int32 × Int64 × Int32 × Int32 × Int32), P5_drawnNow_14 x1 n v_size v_at v_otherSize v_other v_tableA v_tableB v_tableC v_tableD v_seedNow x3 x4 x5 x6 x7 = some out → (∀ (H : Heap) (locs : List Loc) (ls : Array Slot), IM D (va_A (WM0 h ad cA) sz) s.heap H locs (WM h ad cA v_pageLength v_page v_roads v_lengths v_signs v_wordsRead v_disc v_forms v_formA v_formB v_formC v_nextOf v_cycleOf v_cycles v_firstOf v_newLength v_newSigns v_mayRun out.1 out.2.1 out.2.2.1 out.2.2.2.1 out.2.2.2.2.1 out.2.2.2.2.2.1 out.2.2.2.2.2.2.1 out.2.2.2.2.2.2.2.1 v_a v_b v_c v_grade v_flowA v_flowB v_flowC out.2.2.2.2.2.2.2.2.1 v_h) → lv_has ls 9 [(0, .ref h), (2, .int x2), (3, .int out.2.2.2.2.2.2.2.2.2.1), (4, .int out.2.2.2.2.2.2.2.2.2.2.1), (5, .int out.2.2.2.2.2.2.2.2.2.2.2)] → W p l e rm5_drawnNow s m args below meth c H locs 0 0 Q (F0 m 139 ls [])) → ∀ (H : Heap) (locs : List Loc) (ls : Array Slot), IM D (va_A (WM0 h ad cA) sz) s.heap H locs (WM h ad cA v_pageLength v_page v_roads v_lengths v_signs v_wordsRead v_disc v_forms v_formA v_formB v_formC v_nextOf v_cycleOf v_cycles v_firstOf v_newLength v_newSigns v_mayRun v_size v_at v_otherSize v_other v_tableA v_tableB v_tableC v_tableD v_a v_b v_c v_grade v_flowA v_flowB v_flowC v_seedNow v_h) → lv_has ls 9 [(0, .ref h), (1, .int x1), (2, .int x2), (3, .int x3), (4, .int x4), (5, .int x5), (6, .int x6), (7, .int x7)] → W p l e rm5_drawnNow s m args below meth c H locs 0 0 Q (F0 m 14 ls []) := by
    intro n
    induction n with
    | zero =>
      intro v_size v_at v_otherSize v_other v_tableA v_tableB v_tableC v_tableD v_seedNow x3 x4 x5 x6 x7 out hrun K H locs ls I hl
      cases hrun
    | succ n ih =>
      intro v_size v_at v_otherSize v_other v_tableA v_tableB v_tableC v_tableD v_seedNow x3 x4 x5 x6 x7 out hrun K H locs ls I hl
      rw [P5_drawnNow_14] at hrun
      refine lv_iload hx hb dX5_drawnNow_14 (lv_at hl 7 rfl) ?_
      refine lv_iload_n hx hb dX5_drawnNow_16 rfl (lv_at hl 1 rfl) ?_
      refine lv_icmp_ge (tgt := 139) hx hb dX5_drawnNow_17 rfl (fun c1 => ?_) (fun c1 => ?_)
      · have hrun := p_pos hrun c1
        cases hrun
        exact K _ _ _ I (lv_sub hl [0, 2, 3, 4, 5] rfl)
      · have hrun := p_neg hrun c1
        refine lv_aload_n hx hb dX5_drawnNow_20 rfl (lv_at hl 0 rfl) ?_
        refine lv_iconst (v := 0) hx hb dX5_drawnNow_21 rfl ?_
        refine lv_iconst (v := 0) hx hb dX5_drawnNow_22 rfl ?_
        obtain ⟨r2, h_r2, hrun⟩ := p_bnd hrun
        refine jVE_v (rest := []) C (c5_layOther h_r2) gX5_drawnNow_X5_layOther hd5_layOther hK hN hD hA I rcM rfl ⟨rfl, rfl⟩ ⟨Nat.le_of_ble_eq_true rfl, Nat.le_of_ble_eq_true rfl⟩ rfl hl.1 rfl (Nat.le_of_ble_eq_true rfl) ⟨Nat.le_of_ble_eq_true rfl, Nat.le_of_ble_eq_true rfl⟩ dX5_drawnNow_23 (fun H locs I => ?_)
        refine lv_aload_n hx hb dX5_drawnNow_26 rfl (lv_at hl 0 rfl) ?_
        refine lv_bipush (v := 8) hx hb dX5_drawnNow_27 rfl ?_
        refine pM_size C inm5_drawnNow hK hD I fl5_drawnNow_85 dX5_drawnNow_29 (fun H locs I => ?_)
        refine lv_iconst (v := 0) hx hb dX5_drawnNow_32 rfl ?_
        refine lv_istore (lv' := [(8, .int 0), (0, .ref h), (1, .int x1), (2, .int x2), (3, .int x3), (4, .int x4), (5, .int x5), (6, .int x6), (7, .int x7)]) hx hb dX5_drawnNow_33 hl (by decide) rfl (fun ls hl => ?_)
        obtain ⟨o8, h_o8, hrun⟩ := p_bnd hrun
        refine loop_35 8 r2.1 r2.2 v_tableA v_tableB v_tableC v_tableD x3 x4 x5 x6 x7 FU v_at v_seedNow 0 o8 h_o8 (fun H locs ls I hl => ?_) _ _ _ I (lv_sub hl [1, 2, 3, 4, 5, 6, 7, 8, 0] rfl)
        refine lv_aload_n hx hb dX5_drawnNow_69 rfl (lv_at hl 0 rfl) ?_
        obtain ⟨r9, h_r9, hrun⟩ := p_bnd hrun
        refine jVS_i (rest := []) C (c5_isClosedNow h_r9) gX5_drawnNow_X5_isClosedNow hd5_isClosedNow hK hN I.1 rcM rfl ⟨rfl, rfl⟩ ⟨Nat.le_of_ble_eq_true rfl, Nat.le_of_ble_eq_true rfl⟩ rfl hl.1 rfl (Nat.le_of_ble_eq_true rfl) ⟨Nat.le_of_ble_eq_true rfl, Nat.le_of_ble_eq_true rfl⟩ dX5_drawnNow_70 ?_
        refine lv_istore (lv' := [(8, .int r9), (0, .ref h), (1, .int x1), (2, .int x2), (3, .int x3), (4, .int x4), (5, .int x5), (6, .int x6), (7, .int x7)]) hx hb dX5_drawnNow_73 hl (by decide) rfl (fun ls hl => ?_)
        refine lv_iload_n hx hb dX5_drawnNow_75 rfl (lv_at hl 4 rfl) ?_
        refine lv_iload hx hb dX5_drawnNow_76 (lv_at hl 0 rfl) ?_
        refine lv_if_eq (tgt := 85) hx hb dX5_drawnNow_78 rfl (fun c10 => ?_) (fun c10 => ?_)
        · have hrun := p_pos hrun c10
          refine lv_iconst (v := 0) hx hb dX5_drawnNow_85 rfl ?_
          refine lv_iadd hx hb dX5_drawnNow_86 ?_
          refine lv_istore_n (lv' := [(3, .int (x3 + 0)), (8, .int r9), (0, .ref h), (1, .int x1), (2, .int x2), (4, .int x4), (5, .int x5), (6, .int x6), (7, .int x7)]) hx hb dX5_drawnNow_87 rfl hl (by decide) rfl (fun ls hl => ?_)
          refine lv_iload hx hb dX5_drawnNow_88 (lv_at hl 5 rfl) ?_
          refine lv_iload hx hb dX5_drawnNow_90 (lv_at hl 1 rfl) ?_
          refine lv_if_eq (tgt := 102) hx hb dX5_drawnNow_92 rfl (fun c11 => ?_) (fun c11 => ?_)
          · have hrun := p_pos hrun c11
            refine lv_iconst (v := 0) hx hb dX5_drawnNow_102 rfl ?_
            refine lv_iadd hx hb dX5_drawnNow_103 ?_
            refine lv_istore (lv' := [(4, .int (x4 + 0)), (3, .int (x3 + 0)), (8, .int r9), (0, .ref h), (1, .int x1), (2, .int x2), (5, .int x5), (6, .int x6), (7, .int x7)]) hx hb dX5_drawnNow_104 hl (by decide) rfl (fun ls hl => ?_)
            refine lv_iload hx hb dX5_drawnNow_106 (lv_at hl 6 rfl) ?_
            refine lv_iload hx hb dX5_drawnNow_108 (lv_at hl 2 rfl) ?_
            refine lv_if_eq (tgt := 125) hx hb dX5_drawnNow_110 rfl (fun c12 => ?_) (fun c12 => ?_)
            · have hrun := p_pos hrun c12
              refine lv_iconst (v := 0) hx hb dX5_drawnNow_125 rfl ?_
              refine lv_iadd hx hb dX5_drawnNow_126 ?_
              refine lv_istore (lv' := [(5, .int (x5 + 0)), (4, .int (x4 + 0)), (3, .int (x3 + 0)), (8, .int r9), (0, .ref h), (1, .int x1), (2, .int x2), (6, .int x6), (7, .int x7)]) hx hb dX5_drawnNow_127 hl (by decide) rfl (fun ls hl => ?_)
              refine lv_iload hx hb dX5_drawnNow_129 (lv_at hl 3 rfl) ?_
              refine lv_istore (lv' := [(6, .int r9), (5, .int (x5 + 0)), (4, .int (x4 + 0)), (3, .int (x3 + 0)), (8, .int r9), (0, .ref h), (1, .int x1), (2, .int x2), (7, .int x7)]) hx hb dX5_drawnNow_131 hl (by decide) rfl (fun ls hl => ?_)
              refine lv_iinc (v := x7 + 1) (lv' := [(7, .int (x7 + 1)), (6, .int r9), (5, .int (x5 + 0)), (4, .int (x4 + 0)), (3, .int (x3 + 0)), (8, .int r9), (0, .ref h), (1, .int x1), (2, .int x2)]) hx hb dX5_drawnNow_133 hl (k := 8) rfl rfl (by decide) rfl (fun ls hl => ?_)
              refine lv_goto (tgt := 14) hx hb dX5_drawnNow_136 rfl ?_
              exact ih 8 o8.1 r2.1 r2.2 v_tableA v_tableB v_tableC v_tableD o8.2 (x3 + 0) (x4 + 0) (x5 + 0) r9 (x7 + 1) out hrun K _ _ _ I (lv_sub hl [6, 7, 8, 4, 3, 2, 1, 0] rfl)
            · have hrun := p_neg hrun c12
              refine lv_iload hx hb dX5_drawnNow_113 (lv_at hl 7 rfl) ?_
              refine lv_if_eq (tgt := 125) hx hb dX5_drawnNow_115 rfl (fun c13 => ?_) (fun c13 => ?_)
              · have hrun := p_pos hrun c13
                refine lv_iconst (v := 0) hx hb dX5_drawnNow_125 rfl ?_
                refine lv_iadd hx hb dX5_drawnNow_126 ?_
                refine lv_istore (lv' := [(5, .int (x5 + 0)), (4, .int (x4 + 0)), (3, .int (x3 + 0)), (8, .int r9), (0, .ref h), (1, .int x1), (2, .int x2), (6, .int x6), (7, .int x7)]) hx hb dX5_drawnNow_127 hl (by decide) rfl (fun ls hl => ?_)
                refine lv_iload hx hb dX5_drawnNow_129 (lv_at hl 3 rfl) ?_
                refine lv_istore (lv' := [(6, .int r9), (5, .int (x5 + 0)), (4, .int (x4 + 0)), (3, .int (x3 + 0)), (8, .int r9), (0, .ref h), (1, .int x1), (2, .int x2), (7, .int x7)]) hx hb dX5_drawnNow_131 hl (by decide) rfl (fun ls hl => ?_)
                refine lv_iinc (v := x7 + 1) (lv' := [(7, .int (x7 + 1)), (6, .int r9), (5, .int (x5 + 0)), (4, .int (x4 + 0)), (3, .int (x3 + 0)), (8, .int r9), (0, .ref h), (1, .int x1), (2, .int x2)]) hx hb dX5_drawnNow_133 hl (k := 8) rfl rfl (by decide) rfl (fun ls hl => ?_)
                refine lv_goto (tgt := 14) hx hb dX5_drawnNow_136 rfl ?_
                exact ih 8 o8.1 r2.1 r2.2 v_tableA v_tableB v_tableC v_tableD o8.2 (x3 + 0) (x4 + 0) (x5 + 0) r9 (x7 + 1) out hrun K _ _ _ I (lv_sub hl [6, 7, 8, 4, 3, 2, 1, 0] rfl)
              · have hrun := p_neg hrun c13
                refine lv_aload_n hx hb dX5_drawnNow_118 rfl (lv_at hl 3 rfl) ?_
                obtain ⟨r14, h_r14, hrun⟩ := p_bnd hrun
                refine jVS_i (rest := [.int x5]) C (c5_crossNow h_r14) gX5_drawnNow_X5_crossNow hd5_crossNow hK hN I.1 rcM rfl ⟨rfl, rfl⟩ ⟨Nat.le_of_ble_eq_true rfl, Nat.le_of_ble_eq_true rfl⟩ rfl hl.1 rfl (Nat.le_of_ble_eq_true rfl) ⟨Nat.le_of_ble_eq_true rfl, Nat.le_of_ble_eq_true rfl⟩ dX5_drawnNow_119 ?_
                refine lv_goto (tgt := 126) hx hb dX5_drawnNow_122 rfl ?_
                refine lv_iadd hx hb dX5_drawnNow_126 ?_
                refine lv_istore (lv' := [(5, .int (x5 + r14)), (4, .int (x4 + 0)), (3, .int (x3 + 0)), (8, .int r9), (0, .ref h), (1, .int x1), (2, .int x2), (6, .int x6), (7, .int x7)]) hx hb dX5_drawnNow_127 hl (by decide) rfl (fun ls hl => ?_)
                refine lv_iload hx hb dX5_drawnNow_129 (lv_at hl 3 rfl) ?_
                refine lv_istore (lv' := [(6, .int r9), (5, .int (x5 + r14)), (4, .int (x4 + 0)), (3, .int (x3 + 0)), (8, .int r9), (0, .ref h), (1, .int x1), (2, .int x2), (7, .int x7)]) hx hb dX5_drawnNow_131 hl (by decide) rfl (fun ls hl => ?_)
                refine lv_iinc (v := x7 + 1) (lv' := [(7, .int (x7 + 1)), (6, .int r9), (5, .int (x5 + r14)), (4, .int (x4 + 0)), (3, .int (x3 + 0)), (8, .int r9), (0, .ref h), (1, .int x1), (2, .int x2)]) hx hb dX5_drawnNow_133 hl (k := 8) rfl rfl (by decide) rfl (fun ls hl => ?_)
                refine lv_goto (tgt := 14) hx hb dX5_drawnNow_136 rfl ?_
                exact ih 8 o8.1 r2.1 r2.2 v_tableA v_tableB v_tableC v_tableD o8.2 (x3 + 0) (x4 + 0) (x5 + r14) r9 (x7 + 1) out hrun K _ _ _ I (lv_sub hl [6, 7, 8, 4, 3, 2, 1, 0] rfl)
          · have hrun := p_neg hrun c11
            refine lv_aload_n hx hb dX5_drawnNow_95 rfl (lv_at hl 2 rfl) ?_
            obtain ⟨r15, h_r15, hrun⟩ := p_bnd hrun
            refine jVE_i (rest := [.int x4]) C (c5_traceNow h_r15) gX5_drawnNow_X5_traceNow hd5_traceNow hK hN hD hA I rcM rfl ⟨rfl, rfl⟩ ⟨Nat.le_of_ble_eq_true rfl, Nat.le_of_ble_eq_true rfl⟩ rfl hl.1 rfl (Nat.le_of_ble_eq_true rfl) ⟨Nat.le_of_ble_eq_true rfl, Nat.le_of_ble_eq_true rfl⟩ dX5_drawnNow_96 (fun H locs I => ?_)
            refine lv_goto (tgt := 103) hx hb dX5_drawnNow_99 rfl ?_
            refine lv_iadd hx hb dX5_drawnNow_103 ?_
            refine lv_istore (lv' := [(4, .int (x4 + r15.1)), (3, .int (x3 + 0)), (8, .int r9), (0, .ref h), (1, .int x1), (2, .int x2), (5, .int x5), (6, .int x6), (7, .int x7)]) hx hb dX5_drawnNow_104 hl (by decide) rfl (fun ls hl => ?_)
            refine lv_iload hx hb dX5_drawnNow_106 (lv_at hl 6 rfl) ?_
            refine lv_iload hx hb dX5_drawnNow_108 (lv_at hl 2 rfl) ?_
            refine lv_if_eq (tgt := 125) hx hb dX5_drawnNow_110 rfl (fun c16 => ?_) (fun c16 => ?_)
            · have hrun := p_pos hrun c16
              refine lv_iconst (v := 0) hx hb dX5_drawnNow_125 rfl ?_
              refine lv_iadd hx hb dX5_drawnNow_126 ?_
              refine lv_istore (lv' := [(5, .int (x5 + 0)), (4, .int (x4 + r15.1)), (3, .int (x3 + 0)), (8, .int r9), (0, .ref h), (1, .int x1), (2, .int x2), (6, .int x6), (7, .int x7)]) hx hb dX5_drawnNow_127 hl (by decide) rfl (fun ls hl => ?_)
              refine lv_iload hx hb dX5_drawnNow_129 (lv_at hl 3 rfl) ?_
              refine lv_istore (lv' := [(6, .int r9), (5, .int (x5 + 0)), (4, .int (x4 + r15.1)), (3, .int (x3 + 0)), (8, .int r9), (0, .ref h), (1, .int x1), (2, .int x2), (7, .int x7)]) hx hb dX5_drawnNow_131 hl (by decide) rfl (fun ls hl => ?_)
              refine lv_iinc (v := x7 + 1) (lv' := [(7, .int (x7 + 1)), (6, .int r9), (5, .int (x5 + 0)), (4, .int (x4 + r15.1)), (3, .int (x3 + 0)), (8, .int r9), (0, .ref h), (1, .int x1), (2, .int x2)]) hx hb dX5_drawnNow_133 hl (k := 8) rfl rfl (by decide) rfl (fun ls hl => ?_)
              refine lv_goto (tgt := 14) hx hb dX5_drawnNow_136 rfl ?_
              exact ih 8 o8.1 r2.1 r2.2 r15.2.1 r15.2.2.1 r15.2.2.2.1 r15.2.2.2.2 o8.2 (x3 + 0) (x4 + r15.1) (x5 + 0) r9 (x7 + 1) out hrun K _ _ _ I (lv_sub hl [6, 7, 8, 4, 3, 2, 1, 0] rfl)
            · have hrun := p_neg hrun c16
              refine lv_iload hx hb dX5_drawnNow_113 (lv_at hl 7 rfl) ?_
              refine lv_if_eq (tgt := 125) hx hb dX5_drawnNow_115 rfl (fun c17 => ?_) (fun c17 => ?_)
              · have hrun := p_pos hrun c17
                refine lv_iconst (v := 0) hx hb dX5_drawnNow_125 rfl ?_
                refine lv_iadd hx hb dX5_drawnNow_126 ?_
                refine lv_istore (lv' := [(5, .int (x5 + 0)), (4, .int (x4 + r15.1)), (3, .int (x3 + 0)), (8, .int r9), (0, .ref h), (1, .int x1), (2, .int x2), (6, .int x6), (7, .int x7)]) hx hb dX5_drawnNow_127 hl (by decide) rfl (fun ls hl => ?_)
                refine lv_iload hx hb dX5_drawnNow_129 (lv_at hl 3 rfl) ?_
                refine lv_istore (lv' := [(6, .int r9), (5, .int (x5 + 0)), (4, .int (x4 + r15.1)), (3, .int (x3 + 0)), (8, .int r9), (0, .ref h), (1, .int x1), (2, .int x2), (7, .int x7)]) hx hb dX5_drawnNow_131 hl (by decide) rfl (fun ls hl => ?_)
                refine lv_iinc (v := x7 + 1) (lv' := [(7, .int (x7 + 1)), (6, .int r9), (5, .int (x5 + 0)), (4, .int (x4 + r15.1)), (3, .int (x3 + 0)), (8, .int r9), (0, .ref h), (1, .int x1), (2, .int x2)]) hx hb dX5_drawnNow_133 hl (k := 8) rfl rfl (by decide) rfl (fun ls hl => ?_)
                refine lv_goto (tgt := 14) hx hb dX5_drawnNow_136 rfl ?_
                exact ih 8 o8.1 r2.1 r2.2 r15.2.1 r15.2.2.1 r15.2.2.2.1 r15.2.2.2.2 o8.2 (x3 + 0) (x4 + r15.1) (x5 + 0) r9 (x7 + 1) out hrun K _ _ _ I (lv_sub hl [6, 7, 8, 4, 3, 2, 1, 0] rfl)
              · have hrun := p_neg hrun c17
                refine lv_aload_n hx hb dX5_drawnNow_118 rfl (lv_at hl 3 rfl) ?_
                obtain ⟨r18, h_r18, hrun⟩ := p_bnd hrun
                refine jVS_i (rest := [.int x5]) C (c5_crossNow h_r18) gX5_drawnNow_X5_crossNow hd5_crossNow hK hN I.1 rcM rfl ⟨rfl, rfl⟩ ⟨Nat.le_of_ble_eq_true rfl, Nat.le_of_ble_eq_true rfl⟩ rfl hl.1 rfl (Nat.le_of_ble_eq_true rfl) ⟨Nat.le_of_ble_eq_true rfl, Nat.le_of_ble_eq_true rfl⟩ dX5_drawnNow_119 ?_
                refine lv_goto (tgt := 126) hx hb dX5_drawnNow_122 rfl ?_
                refine lv_iadd hx hb dX5_drawnNow_126 ?_
                refine lv_istore (lv' := [(5, .int (x5 + r18)), (4, .int (x4 + r15.1)), (3, .int (x3 + 0)), (8, .int r9), (0, .ref h), (1, .int x1), (2, .int x2), (6, .int x6), (7, .int x7)]) hx hb dX5_drawnNow_127 hl (by decide) rfl (fun ls hl => ?_)
                refine lv_iload hx hb dX5_drawnNow_129 (lv_at hl 3 rfl) ?_
                refine lv_istore (lv' := [(6, .int r9), (5, .int (x5 + r18)), (4, .int (x4 + r15.1)), (3, .int (x3 + 0)), (8, .int r9), (0, .ref h), (1, .int x1), (2, .int x2), (7, .int x7)]) hx hb dX5_drawnNow_131 hl (by decide) rfl (fun ls hl => ?_)
                refine lv_iinc (v := x7 + 1) (lv' := [(7, .int (x7 + 1)), (6, .int r9), (5, .int (x5 + r18)), (4, .int (x4 + r15.1)), (3, .int (x3 + 0)), (8, .int r9), (0, .ref h), (1, .int x1), (2, .int x2)]) hx hb dX5_drawnNow_133 hl (k := 8) rfl rfl (by decide) rfl (fun ls hl => ?_)
                refine lv_goto (tgt := 14) hx hb dX5_drawnNow_136 rfl ?_
                exact ih 8 o8.1 r2.1 r2.2 r15.2.1 r15.2.2.1 r15.2.2.2.1 r15.2.2.2.2 o8.2 (x3 + 0) (x4 + r15.1) (x5 + r18) r9 (x7 + 1) out hrun K _ _ _ I (lv_sub hl [6, 7, 8, 4, 3, 2, 1, 0] rfl)
        · have hrun := p_neg hrun c10
          refine lv_iconst (v := 1) hx hb dX5_drawnNow_81 rfl ?_
          refine lv_goto (tgt := 86) hx hb dX5_drawnNow_82 rfl ?_
          refine lv_iadd hx hb dX5_drawnNow_86 ?_
          refine lv_istore_n (lv' := [(3, .int (x3 + 1)), (8, .int r9), (0, .ref h), (1, .int x1), (2, .int x2), (4, .int x4), (5, .int x5), (6, .int x6), (7, .int x7)]) hx hb dX5_drawnNow_87 rfl hl (by decide) rfl (fun ls hl => ?_)
          refine lv_iload hx hb dX5_drawnNow_88 (lv_at hl 5 rfl) ?_
          refine lv_iload hx hb dX5_drawnNow_90 (lv_at hl 1 rfl) ?_
          refine lv_if_eq (tgt := 102) hx hb dX5_drawnNow_92 rfl (fun c19 => ?_) (fun c19 => ?_)
          · have hrun := p_pos hrun c19
            refine lv_iconst (v := 0) hx hb dX5_drawnNow_102 rfl ?_
            refine lv_iadd hx hb dX5_drawnNow_103 ?_
            refine lv_istore (lv' := [(4, .int (x4 + 0)), (3, .int (x3 + 1)), (8, .int r9), (0, .ref h), (1, .int x1), (2, .int x2), (5, .int x5), (6, .int x6), (7, .int x7)]) hx hb dX5_drawnNow_104 hl (by decide) rfl (fun ls hl => ?_)
            refine lv_iload hx hb dX5_drawnNow_106 (lv_at hl 6 rfl) ?_
            refine lv_iload hx hb dX5_drawnNow_108 (lv_at hl 2 rfl) ?_
            refine lv_if_eq (tgt := 125) hx hb dX5_drawnNow_110 rfl (fun c20 => ?_) (fun c20 => ?_)
            · have hrun := p_pos hrun c20
              refine lv_iconst (v := 0) hx hb dX5_drawnNow_125 rfl ?_
              refine lv_iadd hx hb dX5_drawnNow_126 ?_
              refine lv_istore (lv' := [(5, .int (x5 + 0)), (4, .int (x4 + 0)), (3, .int (x3 + 1)), (8, .int r9), (0, .ref h), (1, .int x1), (2, .int x2), (6, .int x6), (7, .int x7)]) hx hb dX5_drawnNow_127 hl (by decide) rfl (fun ls hl => ?_)
              refine lv_iload hx hb dX5_drawnNow_129 (lv_at hl 3 rfl) ?_
              refine lv_istore (lv' := [(6, .int r9), (5, .int (x5 + 0)), (4, .int (x4 + 0)), (3, .int (x3 + 1)), (8, .int r9), (0, .ref h), (1, .int x1), (2, .int x2), (7, .int x7)]) hx hb dX5_drawnNow_131 hl (by decide) rfl (fun ls hl => ?_)
              refine lv_iinc (v := x7 + 1) (lv' := [(7, .int (x7 + 1)), (6, .int r9), (5, .int (x5 + 0)), (4, .int (x4 + 0)), (3, .int (x3 + 1)), (8, .int r9), (0, .ref h), (1, .int x1), (2, .int x2)]) hx hb dX5_drawnNow_133 hl (k := 8) rfl rfl (by decide) rfl (fun ls hl => ?_)
              refine lv_goto (tgt := 14) hx hb dX5_drawnNow_136 rfl ?_
              exact ih 8 o8.1 r2.1 r2.2 v_tableA v_tableB v_tableC v_tableD o8.2 (x3 + 1) (x4 + 0) (x5 + 0) r9 (x7 + 1) out hrun K _ _ _ I (lv_sub hl [6, 7, 8, 4, 3, 2, 1, 0] rfl)
            · have hrun := p_neg hrun c20
              refine lv_iload hx hb dX5_drawnNow_113 (lv_at hl 7 rfl) ?_
              refine lv_if_eq (tgt := 125) hx hb dX5_drawnNow_115 rfl (fun c21 => ?_) (fun c21 => ?_)
              · have hrun := p_pos hrun c21
                refine lv_iconst (v := 0) hx hb dX5_drawnNow_125 rfl ?_
                refine lv_iadd hx hb dX5_drawnNow_126 ?_
                refine lv_istore (lv' := [(5, .int (x5 + 0)), (4, .int (x4 + 0)), (3, .int (x3 + 1)), (8, .int r9), (0, .ref h), (1, .int x1), (2, .int x2), (6, .int x6), (7, .int x7)]) hx hb dX5_drawnNow_127 hl (by decide) rfl (fun ls hl => ?_)
                refine lv_iload hx hb dX5_drawnNow_129 (lv_at hl 3 rfl) ?_
                refine lv_istore (lv' := [(6, .int r9), (5, .int (x5 + 0)), (4, .int (x4 + 0)), (3, .int (x3 + 1)), (8, .int r9), (0, .ref h), (1, .int x1), (2, .int x2), (7, .int x7)]) hx hb dX5_drawnNow_131 hl (by decide) rfl (fun ls hl => ?_)
                refine lv_iinc (v := x7 + 1) (lv' := [(7, .int (x7 + 1)), (6, .int r9), (5, .int (x5 + 0)), (4, .int (x4 + 0)), (3, .int (x3 + 1)), (8, .int r9), (0, .ref h), (1, .int x1), (2, .int x2)]) hx hb dX5_drawnNow_133 hl (k := 8) rfl rfl (by decide) rfl (fun ls hl => ?_)
                refine lv_goto (tgt := 14) hx hb dX5_drawnNow_136 rfl ?_
                exact ih 8 o8.1 r2.1 r2.2 v_tableA v_tableB v_tableC v_tableD o8.2 (x3 + 1) (x4 + 0) (x5 + 0) r9 (x7 + 1) out hrun K _ _ _ I (lv_sub hl [6, 7, 8, 4, 3, 2, 1, 0] rfl)
              · have hrun := p_neg hrun c21
                refine lv_aload_n hx hb dX5_drawnNow_118 rfl (lv_at hl 3 rfl) ?_
                obtain ⟨r22, h_r22, hrun⟩ := p_bnd hrun
                refine jVS_i (rest := [.int x5]) C (c5_crossNow h_r22) gX5_drawnNow_X5_crossNow hd5_crossNow hK hN I.1 rcM rfl ⟨rfl, rfl⟩ ⟨Nat.le_of_ble_eq_true rfl, Nat.le_of_ble_eq_true rfl⟩ rfl hl.1 rfl (Nat.le_of_ble_eq_true rfl) ⟨Nat.le_of_ble_eq_true rfl, Nat.le_of_ble_eq_true rfl⟩ dX5_drawnNow_119 ?_
                refine lv_goto (tgt := 126) hx hb dX5_drawnNow_122 rfl ?_
                refine lv_iadd hx hb dX5_drawnNow_126 ?_
                refine lv_istore (lv' := [(5, .int (x5 + r22)), (4, .int (x4 + 0)), (3, .int (x3 + 1)), (8, .int r9), (0, .ref h), (1, .int x1), (2, .int x2), (6, .int x6), (7, .int x7)]) hx hb dX5_drawnNow_127 hl (by decide) rfl (fun ls hl => ?_)
                refine lv_iload hx hb dX5_drawnNow_129 (lv_at hl 3 rfl) ?_
                refine lv_istore (lv' := [(6, .int r9), (5, .int (x5 + r22)), (4, .int (x4 + 0)), (3, .int (x3 + 1)), (8, .int r9), (0, .ref h), (1, .int x1), (2, .int x2), (7, .int x7)]) hx hb dX5_drawnNow_131 hl (by decide) rfl (fun ls hl => ?_)
                refine lv_iinc (v := x7 + 1) (lv' := [(7, .int (x7 + 1)), (6, .int r9), (5, .int (x5 + r22)), (4, .int (x4 + 0)), (3, .int (x3 + 1)), (8, .int r9), (0, .ref h), (1, .int x1), (2, .int x2)]) hx hb dX5_drawnNow_133 hl (k := 8) rfl rfl (by decide) rfl (fun ls hl => ?_)
                refine lv_goto (tgt := 14) hx hb dX5_drawnNow_136 rfl ?_
                exact ih 8 o8.1 r2.1 r2.2 v_tableA v_tableB v_tableC v_tableD o8.2 (x3 + 1) (x4 + 0) (x5 + r22) r9 (x7 + 1) out hrun K _ _ _ I (lv_sub hl [6, 7, 8, 4, 3, 2, 1, 0] rfl)
          · have hrun := p_neg hrun c19
            refine lv_aload_n hx hb dX5_drawnNow_95 rfl (lv_at hl 2 rfl) ?_
            obtain ⟨r23, h_r23, hrun⟩ := p_bnd hrun
            refine jVE_i (rest := [.int x4]) C (c5_traceNow h_r23) gX5_drawnNow_X5_traceNow hd5_traceNow hK hN hD hA I rcM rfl ⟨rfl, rfl⟩ ⟨Nat.le_of_ble_eq_true rfl, Nat.le_of_ble_eq_true rfl⟩ rfl hl.1 rfl (Nat.le_of_ble_eq_true rfl) ⟨Nat.le_of_ble_eq_true rfl, Nat.le_of_ble_eq_true rfl⟩ dX5_drawnNow_96 (fun H locs I => ?_)
            refine lv_goto (tgt := 103) hx hb dX5_drawnNow_99 rfl ?_
            refine lv_iadd hx hb dX5_drawnNow_103 ?_
            refine lv_istore (lv' := [(4, .int (x4 + r23.1)), (3, .int (x3 + 1)), (8, .int r9), (0, .ref h), (1, .int x1), (2, .int x2), (5, .int x5), (6, .int x6), (7, .int x7)]) hx hb dX5_drawnNow_104 hl (by decide) rfl (fun ls hl => ?_)
            refine lv_iload hx hb dX5_drawnNow_106 (lv_at hl 6 rfl) ?_
            refine lv_iload hx hb dX5_drawnNow_108 (lv_at hl 2 rfl) ?_
            refine lv_if_eq (tgt := 125) hx hb dX5_drawnNow_110 rfl (fun c24 => ?_) (fun c24 => ?_)
            · have hrun := p_pos hrun c24
              refine lv_iconst (v := 0) hx hb dX5_drawnNow_125 rfl ?_
              refine lv_iadd hx hb dX5_drawnNow_126 ?_
              refine lv_istore (lv' := [(5, .int (x5 + 0)), (4, .int (x4 + r23.1)), (3, .int (x3 + 1)), (8, .int r9), (0, .ref h), (1, .int x1), (2, .int x2), (6, .int x6), (7, .int x7)]) hx hb dX5_drawnNow_127 hl (by decide) rfl (fun ls hl => ?_)
              refine lv_iload hx hb dX5_drawnNow_129 (lv_at hl 3 rfl) ?_
              refine lv_istore (lv' := [(6, .int r9), (5, .int (x5 + 0)), (4, .int (x4 + r23.1)), (3, .int (x3 + 1)), (8, .int r9), (0, .ref h), (1, .int x1), (2, .int x2), (7, .int x7)]) hx hb dX5_drawnNow_131 hl (by decide) rfl (fun ls hl => ?_)
              refine lv_iinc (v := x7 + 1) (lv' := [(7, .int (x7 + 1)), (6, .int r9), (5, .int (x5 + 0)), (4, .int (x4 + r23.1)), (3, .int (x3 + 1)), (8, .int r9), (0, .ref h), (1, .int x1), (2, .int x2)]) hx hb dX5_drawnNow_133 hl (k := 8) rfl rfl (by decide) rfl (fun ls hl => ?_)
              refine lv_goto (tgt := 14) hx hb dX5_drawnNow_136 rfl ?_
              exact ih 8 o8.1 r2.1 r2.2 r23.2.1 r23.2.2.1 r23.2.2.2.1 r23.2.2.2.2 o8.2 (x3 + 1) (x4 + r23.1) (x5 + 0) r9 (x7 + 1) out hrun K _ _ _ I (lv_sub hl [6, 7, 8, 4, 3, 2, 1, 0] rfl)
            · have hrun := p_neg hrun c24
              refine lv_iload hx hb dX5_drawnNow_113 (lv_at hl 7 rfl) ?_
              refine lv_if_eq (tgt := 125) hx hb dX5_drawnNow_115 rfl (fun c25 => ?_) (fun c25 => ?_)
              · have hrun := p_pos hrun c25
                refine lv_iconst (v := 0) hx hb dX5_drawnNow_125 rfl ?_
                refine lv_iadd hx hb dX5_drawnNow_126 ?_
                refine lv_istore (lv' := [(5, .int (x5 + 0)), (4, .int (x4 + r23.1)), (3, .int (x3 + 1)), (8, .int r9), (0, .ref h), (1, .int x1), (2, .int x2), (6, .int x6), (7, .int x7)]) hx hb dX5_drawnNow_127 hl (by decide) rfl (fun ls hl => ?_)
                refine lv_iload hx hb dX5_drawnNow_129 (lv_at hl 3 rfl) ?_
                refine lv_istore (lv' := [(6, .int r9), (5, .int (x5 + 0)), (4, .int (x4 + r23.1)), (3, .int (x3 + 1)), (8, .int r9), (0, .ref h), (1, .int x1), (2, .int x2), (7, .int x7)]) hx hb dX5_drawnNow_131 hl (by decide) rfl (fun ls hl => ?_)
                refine lv_iinc (v := x7 + 1) (lv' := [(7, .int (x7 + 1)), (6, .int r9), (5, .int (x5 + 0)), (4, .int (x4 + r23.1)), (3, .int (x3 + 1)), (8, .int r9), (0, .ref h), (1, .int x1), (2, .int x2)]) hx hb dX5_drawnNow_133 hl (k := 8) rfl rfl (by decide) rfl (fun ls hl => ?_)
                refine lv_goto (tgt := 14) hx hb dX5_drawnNow_136 rfl ?_
                exact ih 8 o8.1 r2.1 r2.2 r23.2.1 r23.2.2.1 r23.2.2.2.1 r23.2.2.2.2 o8.2 (x3 + 1) (x4 + r23.1) (x5 + 0) r9 (x7 + 1) out hrun K _ _ _ I (lv_sub hl [6, 7, 8, 4, 3, 2, 1, 0] rfl)
              · have hrun := p_neg hrun c25
                refine lv_aload_n hx hb dX5_drawnNow_118 rfl (lv_at hl 3 rfl) ?_
                obtain ⟨r26, h_r26, hrun⟩ := p_bnd hrun
                refine jVS_i (rest := [.int x5]) C (c5_crossNow h_r26) gX5_drawnNow_X5_crossNow hd5_crossNow hK hN I.1 rcM rfl ⟨rfl, rfl⟩ ⟨Nat.le_of_ble_eq_true rfl, Nat.le_of_ble_eq_true rfl⟩ rfl hl.1 rfl (Nat.le_of_ble_eq_true rfl) ⟨Nat.le_of_ble_eq_true rfl, Nat.le_of_ble_eq_true rfl⟩ dX5_drawnNow_119 ?_
                refine lv_goto (tgt := 126) hx hb dX5_drawnNow_122 rfl ?_
                refine lv_iadd hx hb dX5_drawnNow_126 ?_
                refine lv_istore (lv' := [(5, .int (x5 + r26)), (4, .int (x4 + r23.1)), (3, .int (x3 + 1)), (8, .int r9), (0, .ref h), (1, .int x1), (2, .int x2), (6, .int x6), (7, .int x7)]) hx hb dX5_drawnNow_127 hl (by decide) rfl (fun ls hl => ?_)
                refine lv_iload hx hb dX5_drawnNow_129 (lv_at hl 3 rfl) ?_
                refine lv_istore (lv' := [(6, .int r9), (5, .int (x5 + r26)), (4, .int (x4 + r23.1)), (3, .int (x3 + 1)), (8, .int r9), (0, .ref h), (1, .int x1), (2, .int x2), (7, .int x7)]) hx hb dX5_drawnNow_131 hl (by decide) rfl (fun ls hl => ?_)
                refine lv_iinc (v := x7 + 1) (lv' := [(7, .int (x7 + 1)), (6, .int r9), (5, .int (x5 + r26)), (4, .int (x4 + r23.1)), (3, .int (x3 + 1)), (8, .int r9), (0, .ref h), (1, .int x1), (2, .int x2)]) hx hb dX5_drawnNow_133 hl (k := 8) rfl rfl (by decide) rfl (fun ls hl => ?_)
                refine lv_goto (tgt := 14) hx hb dX5_drawnNow_136 rfl ?_
                exact ih 8 o8.1 r2.1 r2.2 r23.2.1 r23.2.2.1 r23.2.2.2.1 r23.2.2.2.2 o8.2 (x3 + 1) (x4 + r23.1) (x5 + r26) r9 (x7 + 1) out hrun K _ _ _ I (lv_sub hl [6, 7, 8, 4, 3, 2, 1, 0] rfl)
  unfold P5_drawnNow at hrun
  refine lv_iconst (v := 0) hx hb dX5_drawnNow_0 rfl ?_
  refine lv_istore_n (lv' := [(3, .int 0), (0, .ref h), (1, .int x1), (2, .int x2)]) hx hb dX5_drawnNow_1 rfl hl (by decide) rfl (fun ls hl => ?_)
  refine lv_iconst (v := 0) hx hb dX5_drawnNow_2 rfl ?_
  refine lv_istore (lv' := [(4, .int 0), (3, .int 0), (0, .ref h), (1, .int x1), (2, .int x2)]) hx hb dX5_drawnNow_3 hl (by decide) rfl (fun ls hl => ?_)
  refine lv_iconst (v := 0) hx hb dX5_drawnNow_5 rfl ?_
  refine lv_istore (lv' := [(5, .int 0), (4, .int 0), (3, .int 0), (0, .ref h), (1, .int x1), (2, .int x2)]) hx hb dX5_drawnNow_6 hl (by decide) rfl (fun ls hl => ?_)
  refine lv_iconst (v := 0) hx hb dX5_drawnNow_8 rfl ?_
  refine lv_istore (lv' := [(6, .int 0), (5, .int 0), (4, .int 0), (3, .int 0), (0, .ref h), (1, .int x1), (2, .int x2)]) hx hb dX5_drawnNow_9 hl (by decide) rfl (fun ls hl => ?_)
  refine lv_iconst (v := 0) hx hb dX5_drawnNow_11 rfl ?_
  refine lv_istore (lv' := [(7, .int 0), (6, .int 0), (5, .int 0), (4, .int 0), (3, .int 0), (0, .ref h), (1, .int x1), (2, .int x2)]) hx hb dX5_drawnNow_12 hl (by decide) rfl (fun ls hl => ?_)
  obtain ⟨o27, h_o27, hrun⟩ := p_bnd hrun
  refine loop_14 FU v_size v_at v_otherSize v_other v_tableA v_tableB v_tableC v_tableD v_seedNow 0 0 0 0 0 o27 h_o27 (fun H locs ls I hl => ?_) _ _ _ I (lv_sub hl [5, 6, 7, 4, 3, 2, 1, 0] rfl)
  refine lv_iload_n hx hb dX5_drawnNow_139 rfl (lv_at hl 1 rfl) ?_
  refine lv_if_ne (tgt := 147) hx hb dX5_drawnNow_140 rfl (fun c28 => ?_) (fun c28 => ?_)
  · have hrun := p_neg hrun c28
    refine lv_iload_n hx hb dX5_drawnNow_147 rfl (lv_at hl 1 rfl) ?_
    refine lv_iconst (v := 1) hx hb dX5_drawnNow_148 rfl ?_
    refine lv_icmp_ne (tgt := 157) hx hb dX5_drawnNow_149 rfl (fun c29 => ?_) (fun c29 => ?_)
    · have hrun := p_neg hrun c29
      refine lv_iload_n hx hb dX5_drawnNow_157 rfl (lv_at hl 1 rfl) ?_
      refine lv_iconst (v := 2) hx hb dX5_drawnNow_158 rfl ?_
      refine lv_icmp_ne (tgt := 167) hx hb dX5_drawnNow_159 rfl (fun c30 => ?_) (fun c30 => ?_)
      · have hrun := p_neg hrun c30
        refine lv_aload_n hx hb dX5_drawnNow_167 rfl (lv_at hl 0 rfl) ?_
        refine gM_seedNow C inm5_drawnNow hK I.1 fl5_drawnNow_281 dX5_drawnNow_168 ?_
        refine lv_l2i (v := Int64.toInt32 o27.2.2.2.2.2.2.2.2.1) hx hb dX5_drawnNow_171 rfl ?_
        cases hrun
        exact rE_i C hr hlk hQ I (nbi _) rfl dX5_drawnNow_172
      · have hrun := p_pos hrun c30
        refine lv_iload hx hb dX5_drawnNow_162 (lv_at hl 4 rfl) ?_
        refine lv_goto (tgt := 172) hx hb dX5_drawnNow_164 rfl ?_
        cases hrun
        exact rE_i C hr hlk hQ I (nbi _) rfl dX5_drawnNow_172
    · have hrun := p_pos hrun c29
      refine lv_iload hx hb dX5_drawnNow_152 (lv_at hl 3 rfl) ?_
      refine lv_goto (tgt := 172) hx hb dX5_drawnNow_154 rfl ?_
      cases hrun
      exact rE_i C hr hlk hQ I (nbi _) rfl dX5_drawnNow_172
  · have hrun := p_pos hrun c28
    refine lv_iload_n hx hb dX5_drawnNow_143 rfl (lv_at hl 2 rfl) ?_
    refine lv_goto (tgt := 172) hx hb dX5_drawnNow_144 rfl ?_
    cases hrun
    exact rE_i C hr hlk hQ I (nbi _) rfl dX5_drawnNow_172

abbrev rm5_drawn : Room := { frames := 3, cells := 0, slots := 0, locals := 77 }
theorem fl5_drawn_281 : Cond.fieldLink RX5 281 "RiverWordsModel" "seedNow" "J" ∈ wsX5_drawn := by decide +kernel
theorem k5_drawn_54 : Cond.constant RX5 54 (-2000000102) ∈ wsX5_drawn := by decide +kernel
theorem inm5_drawn : ∀ w ∈ wsX50, w ∈ wsX5_drawn := fun w h => by unfold wsX5_drawn; first | exact List.mem_cons_of_mem _ (List.mem_append_right _ h) | exact List.mem_cons_of_mem _ h
theorem hd5_drawn : okD yX5_drawn 3 := by decide +kernel
set_option maxHeartbeats 8000000 in
set_option maxRecDepth 100000 in
theorem c5_drawn {x1 : Int32} {x2 : Int32} {x3 : Int32} {res : Int32 × Int32 × (Nat → Int32) × Int32 × (Nat → Int32) × Int32 × Int32 × Int32 × Int32 × Int64} (hrun : P5_drawn v_size v_at v_otherSize v_other v_tableA v_tableB v_tableC v_tableD v_seedNow x1 x2 x3 = some res) : Met l yX5_drawn wsX5_drawn rm5_drawn (va_Pc [.ref h, .int x1, .int x2, .int x3] (PE D [(cA, .int)] sz (WM0 h ad cA) (WM h ad cA v_pageLength v_page v_roads v_lengths v_signs v_wordsRead v_disc v_forms v_formA v_formB v_formC v_nextOf v_cycleOf v_cycles v_firstOf v_newLength v_newSigns v_mayRun v_size v_at v_otherSize v_other v_tableA v_tableB v_tableC v_tableD v_a v_b v_c v_grade v_flowA v_flowB v_flowC v_seedNow v_h))) (va_Qi (fun (x : Int32) (_ : Unit) => x = res.1) (fun _ t => va_P D vwCl (WM h ad cA v_pageLength v_page v_roads v_lengths v_signs v_wordsRead v_disc v_forms v_formA v_formB v_formC v_nextOf v_cycleOf v_cycles v_firstOf v_newLength v_newSigns v_mayRun res.2.1 res.2.2.1 res.2.2.2.1 res.2.2.2.2.1 res.2.2.2.2.2.1 res.2.2.2.2.2.2.1 res.2.2.2.2.2.2.2.1 res.2.2.2.2.2.2.2.2.1 v_a v_b v_c v_grade v_flowA v_flowB v_flowC res.2.2.2.2.2.2.2.2.2 v_h) t.heap) (va_A (WM0 h ad cA) sz)) 0 0 (va_A (WM0 h ad cA) sz) := by
  refine E_in (cc := cX5_drawn) (maxL := 4) (ret := (some .int)) (by decide) rfl (Nat.le_of_ble_eq_true rfl) ?_
  intro p e s m args below meth c ls Q hQ C hr hlk hK hN hD hA I hl
  have C : CallFix p m c cX5_drawn 4 s args wsX5_drawn RX5 := C
  have hx := C.1
  have hb := C.2.1
  have hl : lv_has ls 4 [(0, .ref h), (1, .int x1), (2, .int x2), (3, .int x3)] := hl
  unfold P5_drawn at hrun
  refine lv_iload_n hx hb dX5_drawn_0 rfl (lv_at hl 1 rfl) ?_
  refine lv_iconst (v := 1) hx hb dX5_drawn_1 rfl ?_
  refine lv_bipush (v := 40) hx hb dX5_drawn_2 rfl ?_
  obtain ⟨r1, h_r1, hrun⟩ := p_bnd hrun
  refine jSS_i (rest := []) C (c5_within h_r1) gX5_drawn_X5_within hd5_within rfl ⟨rfl, rfl⟩ ⟨Nat.le_of_ble_eq_true rfl, Nat.le_of_ble_eq_true rfl⟩ rfl hl.1 rfl (Nat.le_of_ble_eq_true rfl) ⟨Nat.le_of_ble_eq_true rfl, Nat.le_of_ble_eq_true rfl⟩ dX5_drawn_4 ?_
  refine lv_if_eq (tgt := 23) hx hb dX5_drawn_7 rfl (fun c2 => ?_) (fun c2 => ?_)
  · have hrun := p_pos hrun c2
    refine lv_ldc (v := (-2000000102)) hx hb C.2.2.2.1 (C.2.2.2.2 _ k5_drawn_54) dX5_drawn_23 ?_
    cases hrun
    exact rE_i C hr hlk hQ I (nbi _) rfl dX5_drawn_25
  · have hrun := p_neg hrun c2
    refine lv_iload_n hx hb dX5_drawn_10 rfl (lv_at hl 2 rfl) ?_
    refine lv_if_lt (tgt := 23) hx hb dX5_drawn_11 rfl (fun c3 => ?_) (fun c3 => ?_)
    · have hrun := p_pos hrun c3
      refine lv_ldc (v := (-2000000102)) hx hb C.2.2.2.1 (C.2.2.2.2 _ k5_drawn_54) dX5_drawn_23 ?_
      cases hrun
      exact rE_i C hr hlk hQ I (nbi _) rfl dX5_drawn_25
    · have hrun := p_neg hrun c3
      refine lv_iload_n hx hb dX5_drawn_14 rfl (lv_at hl 3 rfl) ?_
      refine lv_iconst (v := 0) hx hb dX5_drawn_15 rfl ?_
      refine lv_iconst (v := 3) hx hb dX5_drawn_16 rfl ?_
      obtain ⟨r4, h_r4, hrun⟩ := p_bnd hrun
      refine jSS_i (rest := []) C (c5_within h_r4) gX5_drawn_X5_within hd5_within rfl ⟨rfl, rfl⟩ ⟨Nat.le_of_ble_eq_true rfl, Nat.le_of_ble_eq_true rfl⟩ rfl hl.1 rfl (Nat.le_of_ble_eq_true rfl) ⟨Nat.le_of_ble_eq_true rfl, Nat.le_of_ble_eq_true rfl⟩ dX5_drawn_17 ?_
      refine lv_if_ne (tgt := 26) hx hb dX5_drawn_20 rfl (fun c5 => ?_) (fun c5 => ?_)
      · have hrun := p_neg hrun c5
        refine lv_aload_n hx hb dX5_drawn_26 rfl (lv_at hl 0 rfl) ?_
        refine lv_iload_n hx hb dX5_drawn_27 rfl (lv_at hl 2 rfl) ?_
        refine lv_i2l (v := Int32.toInt64 x2) hx hb dX5_drawn_28 rfl ?_
        refine pM_seedNow C inm5_drawn hK hD I fl5_drawn_281 dX5_drawn_29 (fun H locs I => ?_)
        refine lv_aload_n hx hb dX5_drawn_32 rfl (lv_at hl 0 rfl) ?_
        refine lv_iload_n hx hb dX5_drawn_33 rfl (lv_at hl 1 rfl) ?_
        refine lv_iload_n hx hb dX5_drawn_34 rfl (lv_at hl 3 rfl) ?_
        obtain ⟨r6, h_r6, hrun⟩ := p_bnd hrun
        refine jVE_i (rest := []) C (c5_drawnNow h_r6) gX5_drawn_X5_drawnNow hd5_drawnNow hK hN hD hA I rcM rfl ⟨rfl, rfl⟩ ⟨Nat.le_of_ble_eq_true rfl, Nat.le_of_ble_eq_true rfl⟩ rfl hl.1 rfl (Nat.le_of_ble_eq_true rfl) ⟨Nat.le_of_ble_eq_true rfl, Nat.le_of_ble_eq_true rfl⟩ dX5_drawn_35 (fun H locs I => ?_)
        cases hrun
        exact rE_i C hr hlk hQ I (nbi _) rfl dX5_drawn_38
      · have hrun := p_pos hrun c5
        refine lv_ldc (v := (-2000000102)) hx hb C.2.2.2.1 (C.2.2.2.2 _ k5_drawn_54) dX5_drawn_23 ?_
        cases hrun
        exact rE_i C hr hlk hQ I (nbi _) rfl dX5_drawn_25

abbrev rm5_closedMany : Room := { frames := 3, cells := 0, slots := 0, locals := 63 }
theorem fl5_closedMany_75 : Cond.fieldLink RX5 75 "RiverWordsModel" "roads" "I" ∈ wsX5_closedMany := by decide +kernel
theorem inm5_closedMany : ∀ w ∈ wsX50, w ∈ wsX5_closedMany := fun w h => by unfold wsX5_closedMany; first | exact List.mem_cons_of_mem _ (List.mem_append_right _ h) | exact List.mem_cons_of_mem _ h
theorem hd5_closedMany : okD yX5_closedMany 0 := by decide +kernel
set_option maxHeartbeats 8000000 in
set_option maxRecDepth 100000 in
theorem c5_closedMany {res : Int32 × Int32 × (Nat → Int32)} (hrun : P5_closedMany v_roads v_lengths v_signs v_size v_at = some res) : Met l yX5_closedMany wsX5_closedMany rm5_closedMany (va_Pc [.ref h] (PE D [(cA, .int)] sz (WM0 h ad cA) (WM h ad cA v_pageLength v_page v_roads v_lengths v_signs v_wordsRead v_disc v_forms v_formA v_formB v_formC v_nextOf v_cycleOf v_cycles v_firstOf v_newLength v_newSigns v_mayRun v_size v_at v_otherSize v_other v_tableA v_tableB v_tableC v_tableD v_a v_b v_c v_grade v_flowA v_flowB v_flowC v_seedNow v_h))) (va_Qi (fun (x : Int32) (_ : Unit) => x = res.1) (fun _ t => va_P D vwCl (WM h ad cA v_pageLength v_page v_roads v_lengths v_signs v_wordsRead v_disc v_forms v_formA v_formB v_formC v_nextOf v_cycleOf v_cycles v_firstOf v_newLength v_newSigns v_mayRun res.2.1 res.2.2 v_otherSize v_other v_tableA v_tableB v_tableC v_tableD v_a v_b v_c v_grade v_flowA v_flowB v_flowC v_seedNow v_h) t.heap) (va_A (WM0 h ad cA) sz)) 0 0 (va_A (WM0 h ad cA) sz) := by
  refine E_in (cc := cX5_closedMany) (maxL := 3) (ret := (some .int)) (by decide) rfl (Nat.le_of_ble_eq_true rfl) ?_
  intro p e s m args below meth c ls Q hQ C hr hlk hK hN hD hA I hl
  have C : CallFix p m c cX5_closedMany 3 s args wsX5_closedMany RX5 := C
  have hx := C.1
  have hb := C.2.1
  have hl : lv_has ls 3 [(0, .ref h)] := hl
  have loop_4 : ∀ (n : Nat) (v_size : Int32) (v_at : Nat → Int32) (x1 : Int32) (x2 : Int32) (out : Int32 × (Nat → Int32) × Int32), P5_closedMany_4 v_roads v_lengths v_signs n v_size v_at x1 x2 = some out → (∀ (H : Heap) (locs : List Loc) (ls : Array Slot), IM D (va_A (WM0 h ad cA) sz) s.heap H locs (WM h ad cA v_pageLength v_page v_roads v_lengths v_signs v_wordsRead v_disc v_forms v_formA v_formB v_formC v_nextOf v_cycleOf v_cycles v_firstOf v_newLength v_newSigns v_mayRun out.1 out.2.1 v_otherSize v_other v_tableA v_tableB v_tableC v_tableD v_a v_b v_c v_grade v_flowA v_flowB v_flowC v_seedNow v_h) → lv_has ls 3 [(1, .int out.2.2)] → W p l e rm5_closedMany s m args below meth c H locs 0 0 Q (F0 m 34 ls [])) → ∀ (H : Heap) (locs : List Loc) (ls : Array Slot), IM D (va_A (WM0 h ad cA) sz) s.heap H locs (WM h ad cA v_pageLength v_page v_roads v_lengths v_signs v_wordsRead v_disc v_forms v_formA v_formB v_formC v_nextOf v_cycleOf v_cycles v_firstOf v_newLength v_newSigns v_mayRun v_size v_at v_otherSize v_other v_tableA v_tableB v_tableC v_tableD v_a v_b v_c v_grade v_flowA v_flowB v_flowC v_seedNow v_h) → lv_has ls 3 [(0, .ref h), (1, .int x1), (2, .int x2)] → W p l e rm5_closedMany s m args below meth c H locs 0 0 Q (F0 m 4 ls []) := by
    intro n
    induction n with
    | zero =>
      intro v_size v_at x1 x2 out hrun K H locs ls I hl
      cases hrun
    | succ n ih =>
      intro v_size v_at x1 x2 out hrun K H locs ls I hl
      rw [P5_closedMany_4] at hrun
      refine lv_iload_n hx hb dX5_closedMany_4 rfl (lv_at hl 2 rfl) ?_
      refine lv_aload_n hx hb dX5_closedMany_5 rfl (lv_at hl 0 rfl) ?_
      refine gM_roads C inm5_closedMany hK I.1 fl5_closedMany_75 dX5_closedMany_6 ?_
      refine lv_icmp_ge (tgt := 34) hx hb dX5_closedMany_9 rfl (fun c1 => ?_) (fun c1 => ?_)
      · have hrun := p_pos hrun c1
        cases hrun
        exact K _ _ _ I (lv_sub hl [1] rfl)
      · have hrun := p_neg hrun c1
        refine lv_iload_n hx hb dX5_closedMany_12 rfl (lv_at hl 1 rfl) ?_
        refine lv_aload_n hx hb dX5_closedMany_13 rfl (lv_at hl 0 rfl) ?_
        refine lv_iload_n hx hb dX5_closedMany_14 rfl (lv_at hl 2 rfl) ?_
        obtain ⟨r2, h_r2, hrun⟩ := p_bnd hrun
        refine jVE_i (rest := [.int x1]) C (c5_isClosed h_r2) gX5_closedMany_X5_isClosed hd5_isClosed hK hN hD hA I rcM rfl ⟨rfl, rfl⟩ ⟨Nat.le_of_ble_eq_true rfl, Nat.le_of_ble_eq_true rfl⟩ rfl hl.1 rfl (Nat.le_of_ble_eq_true rfl) ⟨Nat.le_of_ble_eq_true rfl, Nat.le_of_ble_eq_true rfl⟩ dX5_closedMany_15 (fun H locs I => ?_)
        refine lv_if_eq (tgt := 25) hx hb dX5_closedMany_18 rfl (fun c3 => ?_) (fun c3 => ?_)
        · have hrun := p_pos hrun c3
          refine lv_iconst (v := 0) hx hb dX5_closedMany_25 rfl ?_
          refine lv_iadd hx hb dX5_closedMany_26 ?_
          refine lv_istore_n (lv' := [(1, .int (x1 + 0)), (0, .ref h), (2, .int x2)]) hx hb dX5_closedMany_27 rfl hl (by decide) rfl (fun ls hl => ?_)
          refine lv_iinc (v := x2 + 1) (lv' := [(2, .int (x2 + 1)), (1, .int (x1 + 0)), (0, .ref h)]) hx hb dX5_closedMany_28 hl (k := 2) rfl rfl (by decide) rfl (fun ls hl => ?_)
          refine lv_goto (tgt := 4) hx hb dX5_closedMany_31 rfl ?_
          exact ih r2.2.1 r2.2.2 (x1 + 0) (x2 + 1) out hrun K _ _ _ I (lv_sub hl [2, 1, 0] rfl)
        · have hrun := p_neg hrun c3
          refine lv_iconst (v := 1) hx hb dX5_closedMany_21 rfl ?_
          refine lv_goto (tgt := 26) hx hb dX5_closedMany_22 rfl ?_
          refine lv_iadd hx hb dX5_closedMany_26 ?_
          refine lv_istore_n (lv' := [(1, .int (x1 + 1)), (0, .ref h), (2, .int x2)]) hx hb dX5_closedMany_27 rfl hl (by decide) rfl (fun ls hl => ?_)
          refine lv_iinc (v := x2 + 1) (lv' := [(2, .int (x2 + 1)), (1, .int (x1 + 1)), (0, .ref h)]) hx hb dX5_closedMany_28 hl (k := 2) rfl rfl (by decide) rfl (fun ls hl => ?_)
          refine lv_goto (tgt := 4) hx hb dX5_closedMany_31 rfl ?_
          exact ih r2.2.1 r2.2.2 (x1 + 1) (x2 + 1) out hrun K _ _ _ I (lv_sub hl [2, 1, 0] rfl)
  unfold P5_closedMany at hrun
  refine lv_iconst (v := 0) hx hb dX5_closedMany_0 rfl ?_
  refine lv_istore_n (lv' := [(1, .int 0), (0, .ref h)]) hx hb dX5_closedMany_1 rfl hl (by decide) rfl (fun ls hl => ?_)
  refine lv_iconst (v := 0) hx hb dX5_closedMany_2 rfl ?_
  refine lv_istore_n (lv' := [(2, .int 0), (1, .int 0), (0, .ref h)]) hx hb dX5_closedMany_3 rfl hl (by decide) rfl (fun ls hl => ?_)
  obtain ⟨o4, h_o4, hrun⟩ := p_bnd hrun
  refine loop_4 FU v_size v_at 0 0 o4 h_o4 (fun H locs ls I hl => ?_) _ _ _ I (lv_sub hl [2, 1, 0] rfl)
  refine lv_iload_n hx hb dX5_closedMany_34 rfl (lv_at hl 0 rfl) ?_
  cases hrun
  exact rE_i C hr hlk hQ I (nbi _) rfl dX5_closedMany_35

end M512
