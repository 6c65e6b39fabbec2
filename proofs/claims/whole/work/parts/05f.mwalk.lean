section M55
variable {l : Launch} {D : va_G} {sz : Nat}
variable {h : Nat} {ad : Nat → Nat} {cA : ClassId}
variable {v_pageLength v_roads v_wordsRead v_disc v_forms v_cycles v_newLength v_mayRun v_size v_otherSize v_tableA v_tableB v_tableC v_tableD v_a v_b v_c v_grade v_flowA v_flowB v_flowC : Int32}
variable {v_seedNow v_h : Int64}
variable {v_page v_lengths v_signs v_formA v_formB v_formC v_nextOf v_cycleOf v_firstOf v_newSigns v_at v_other : Nat → Int32}
abbrev rm5_change : Room := { frames := 2, cells := 0, slots := 0, locals := 46 }
theorem fl5_change_16 : Cond.fieldLink RX5 16 "RiverWordsModel" "signs" "[I" ∈ wsX5_change := by decide +kernel
theorem fl5_change_43 : Cond.fieldLink RX5 43 "RiverWordsModel" "other" "[I" ∈ wsX5_change := by decide +kernel
theorem fl5_change_85 : Cond.fieldLink RX5 85 "RiverWordsModel" "size" "I" ∈ wsX5_change := by decide +kernel
theorem k5_change_54 : Cond.constant RX5 54 (-2000000102) ∈ wsX5_change := by decide +kernel
theorem k5_change_145 : Cond.constant RX5 145 (-2000000101) ∈ wsX5_change := by decide +kernel
theorem inm5_change : ∀ w ∈ wsX50, w ∈ wsX5_change := fun w h => by unfold wsX5_change; first | exact List.mem_cons_of_mem _ (List.mem_append_right _ h) | exact List.mem_cons_of_mem _ h
theorem hd5_change : okD yX5_change 2 := by decide +kernel
set_option maxHeartbeats 8000000 in
set_option maxRecDepth 100000 in
theorem c5_change {x1 : Int32} {x2 : Int32} {res : Int32 × (Nat → Int32) × Int32 × (Nat → Int32) × Int32 × (Nat → Int32) × Int32 × Int32 × Int32 × Int32} (hrun : P5_change v_roads v_lengths v_signs v_size v_at v_otherSize v_other v_tableA v_tableB v_tableC v_tableD x1 x2 = some res) : Met l yX5_change wsX5_change rm5_change (va_Pc [.ref h, .int x1, .int x2] (PE D [(cA, .int)] sz (WM0 h ad cA) (WM h ad cA v_pageLength v_page v_roads v_lengths v_signs v_wordsRead v_disc v_forms v_formA v_formB v_formC v_nextOf v_cycleOf v_cycles v_firstOf v_newLength v_newSigns v_mayRun v_size v_at v_otherSize v_other v_tableA v_tableB v_tableC v_tableD v_a v_b v_c v_grade v_flowA v_flowB v_flowC v_seedNow v_h))) (va_Qi (fun (x : Int32) (_ : Unit) => x = res.1) (fun _ t => va_P D vwCl (WM h ad cA v_pageLength v_page v_roads v_lengths res.2.1 v_wordsRead v_disc v_forms v_formA v_formB v_formC v_nextOf v_cycleOf v_cycles v_firstOf v_newLength v_newSigns v_mayRun res.2.2.1 res.2.2.2.1 res.2.2.2.2.1 res.2.2.2.2.2.1 res.2.2.2.2.2.2.1 res.2.2.2.2.2.2.2.1 res.2.2.2.2.2.2.2.2.1 res.2.2.2.2.2.2.2.2.2 v_a v_b v_c v_grade v_flowA v_flowB v_flowC v_seedNow v_h) t.heap) (va_A (WM0 h ad cA) sz)) 0 0 (va_A (WM0 h ad cA) sz) := by
  refine E_in (cc := cX5_change) (maxL := 4) (ret := (some .int)) (by decide) rfl (Nat.le_of_ble_eq_true rfl) ?_
  intro p e s m args below meth c ls Q hQ C hr hlk hK hN hD hA I hl
  have C : CallFix p m c cX5_change 4 s args wsX5_change RX5 := C
  have hx := C.1
  have hb := C.2.1
  have hl : lv_has ls 4 [(0, .ref h), (1, .int x1), (2, .int x2)] := hl
  have loop_70 : ∀ (v_size : Int32) (v_at : Nat → Int32) (v_otherSize : Int32) (v_other : Nat → Int32) (v_tableA : Int32) (v_tableB : Int32) (v_tableC : Int32) (v_tableD : Int32) (n : Nat) (v_signs : Nat → Int32) (x3 : Int32) (out : (Nat → Int32)), P5_change_70 v_size v_other x1 n v_signs x3 = some out → (∀ (H : Heap) (locs : List Loc) (ls : Array Slot), IM D (va_A (WM0 h ad cA) sz) s.heap H locs (WM h ad cA v_pageLength v_page v_roads v_lengths out v_wordsRead v_disc v_forms v_formA v_formB v_formC v_nextOf v_cycleOf v_cycles v_firstOf v_newLength v_newSigns v_mayRun v_size v_at v_otherSize v_other v_tableA v_tableB v_tableC v_tableD v_a v_b v_c v_grade v_flowA v_flowB v_flowC v_seedNow v_h) → lv_has ls 4 [(0, .ref h), (1, .int x1)] → W p l e rm5_change s m args below meth c H locs 0 0 Q (F0 m 101 ls [])) → ∀ (H : Heap) (locs : List Loc) (ls : Array Slot), IM D (va_A (WM0 h ad cA) sz) s.heap H locs (WM h ad cA v_pageLength v_page v_roads v_lengths v_signs v_wordsRead v_disc v_forms v_formA v_formB v_formC v_nextOf v_cycleOf v_cycles v_firstOf v_newLength v_newSigns v_mayRun v_size v_at v_otherSize v_other v_tableA v_tableB v_tableC v_tableD v_a v_b v_c v_grade v_flowA v_flowB v_flowC v_seedNow v_h) → lv_has ls 4 [(0, .ref h), (1, .int x1), (3, .int x3)] → W p l e rm5_change s m args below meth c H locs 0 0 Q (F0 m 70 ls []) := by
    intro v_size v_at v_otherSize v_other v_tableA v_tableB v_tableC v_tableD n
    induction n with
    | zero =>
      intro v_signs x3 out hrun K H locs ls I hl
      cases hrun
    | succ n ih =>
      intro v_signs x3 out hrun K H locs ls I hl
      rw [P5_change_70] at hrun
      refine lv_iload_n hx hb dX5_change_70 rfl (lv_at hl 2 rfl) ?_
      refine lv_aload_n hx hb dX5_change_71 rfl (lv_at hl 0 rfl) ?_
      refine gM_size C inm5_change hK I.1 fl5_change_85 dX5_change_72 ?_
      refine lv_icmp_ge (tgt := 101) hx hb dX5_change_75 rfl (fun c10 => ?_) (fun c10 => ?_)
      · have hrun := p_pos hrun c10
        cases hrun
        exact K _ _ _ I (lv_sub hl [0, 1] rfl)
      · have hrun := p_neg hrun c10
        refine lv_aload_n hx hb dX5_change_78 rfl (lv_at hl 0 rfl) ?_
        refine gM_signs C inm5_change hK I.1 fl5_change_16 dX5_change_79 ?_
        refine lv_bipush (v := 20) hx hb dX5_change_82 rfl ?_
        refine lv_iload_n hx hb dX5_change_84 rfl (lv_at hl 1 rfl) ?_
        refine lv_imul hx hb dX5_change_85 ?_
        refine lv_iload_n hx hb dX5_change_86 rfl (lv_at hl 2 rfl) ?_
        refine lv_iadd hx hb dX5_change_87 ?_
        refine lv_aload_n hx hb dX5_change_88 rfl (lv_at hl 0 rfl) ?_
        refine gM_other C inm5_change hK I.1 fl5_change_43 dX5_change_89 ?_
        refine lv_iload_n hx hb dX5_change_92 rfl (lv_at hl 2 rfl) ?_
        obtain ⟨b11, hrun⟩ := p_chk hrun
        refine ldM_other C hK I.1 b11 dX5_change_93 ?_
        obtain ⟨b12, hrun⟩ := p_chk hrun
        refine stM_signs C hK hD I b12 dX5_change_94 (fun H locs I => ?_)
        refine lv_iinc (v := x3 + 1) (lv' := [(3, .int (x3 + 1)), (0, .ref h), (1, .int x1)]) hx hb dX5_change_95 hl (k := 2) rfl rfl (by decide) rfl (fun ls hl => ?_)
        refine lv_goto (tgt := 70) hx hb dX5_change_98 rfl ?_
        exact ih (upd v_signs (Int32.toNatClampNeg ((20 * x1) + x3)) (v_other (Int32.toNatClampNeg x3))) (x3 + 1) out hrun K _ _ _ I (lv_sub hl [1, 2, 0] rfl)
  unfold P5_change at hrun
  refine lv_aload_n hx hb dX5_change_0 rfl (lv_at hl 0 rfl) ?_
  refine lv_iload_n hx hb dX5_change_1 rfl (lv_at hl 1 rfl) ?_
  obtain ⟨r1, h_r1, hrun⟩ := p_bnd hrun
  refine jVS_i (rest := []) C (c5_isRoad h_r1) gX5_change_X5_isRoad hd5_isRoad hK hN I.1 rcM rfl ⟨rfl, rfl⟩ ⟨Nat.le_of_ble_eq_true rfl, Nat.le_of_ble_eq_true rfl⟩ rfl hl.1 rfl (Nat.le_of_ble_eq_true rfl) ⟨Nat.le_of_ble_eq_true rfl, Nat.le_of_ble_eq_true rfl⟩ dX5_change_2 ?_
  refine lv_if_ne (tgt := 11) hx hb dX5_change_5 rfl (fun c2 => ?_) (fun c2 => ?_)
  · have hrun := p_neg hrun c2
    refine lv_iload_n hx hb dX5_change_11 rfl (lv_at hl 2 rfl) ?_
    refine lv_iconst (v := 0) hx hb dX5_change_12 rfl ?_
    refine lv_iconst (v := 2) hx hb dX5_change_13 rfl ?_
    obtain ⟨r3, h_r3, hrun⟩ := p_bnd hrun
    refine jSS_i (rest := []) C (c5_within h_r3) gX5_change_X5_within hd5_within rfl ⟨rfl, rfl⟩ ⟨Nat.le_of_ble_eq_true rfl, Nat.le_of_ble_eq_true rfl⟩ rfl hl.1 rfl (Nat.le_of_ble_eq_true rfl) ⟨Nat.le_of_ble_eq_true rfl, Nat.le_of_ble_eq_true rfl⟩ dX5_change_14 ?_
    refine lv_if_ne (tgt := 23) hx hb dX5_change_17 rfl (fun c4 => ?_) (fun c4 => ?_)
    · have hrun := p_neg hrun c4
      refine lv_aload_n hx hb dX5_change_23 rfl (lv_at hl 0 rfl) ?_
      refine lv_iload_n hx hb dX5_change_24 rfl (lv_at hl 1 rfl) ?_
      obtain ⟨r5, h_r5, hrun⟩ := p_bnd hrun
      refine jVE_v (rest := []) C (c5_look h_r5) gX5_change_X5_look hd5_look hK hN hD hA I rcM rfl ⟨rfl, rfl⟩ ⟨Nat.le_of_ble_eq_true rfl, Nat.le_of_ble_eq_true rfl⟩ rfl hl.1 rfl (Nat.le_of_ble_eq_true rfl) ⟨Nat.le_of_ble_eq_true rfl, Nat.le_of_ble_eq_true rfl⟩ dX5_change_25 (fun H locs I => ?_)
      refine lv_iload_n hx hb dX5_change_28 rfl (lv_at hl 2 rfl) ?_
      refine lv_iconst (v := 2) hx hb dX5_change_29 rfl ?_
      refine lv_icmp_ne (tgt := 45) hx hb dX5_change_30 rfl (fun c6 => ?_) (fun c6 => ?_)
      · have hrun := p_neg hrun c6
        refine lv_aload_n hx hb dX5_change_45 rfl (lv_at hl 0 rfl) ?_
        refine lv_iload_n hx hb dX5_change_46 rfl (lv_at hl 2 rfl) ?_
        refine lv_if_ne (tgt := 54) hx hb dX5_change_47 rfl (fun c7 => ?_) (fun c7 => ?_)
        · have hrun := p_neg hrun c7
          refine lv_iconst (v := 0) hx hb dX5_change_54 rfl ?_
          refine lv_iload_n hx hb dX5_change_55 rfl (lv_at hl 2 rfl) ?_
          refine lv_iconst (v := 1) hx hb dX5_change_56 rfl ?_
          refine lv_icmp_ne (tgt := 64) hx hb dX5_change_57 rfl (fun c8 => ?_) (fun c8 => ?_)
          · have hrun := p_neg hrun c8
            refine lv_iconst (v := 0) hx hb dX5_change_64 rfl ?_
            obtain ⟨r9, h_r9, hrun⟩ := p_bnd hrun
            refine jVE_v (rest := []) C (c5_layOther h_r9) gX5_change_X5_layOther hd5_layOther hK hN hD hA I rcM rfl ⟨rfl, rfl⟩ ⟨Nat.le_of_ble_eq_true rfl, Nat.le_of_ble_eq_true rfl⟩ rfl hl.1 rfl (Nat.le_of_ble_eq_true rfl) ⟨Nat.le_of_ble_eq_true rfl, Nat.le_of_ble_eq_true rfl⟩ dX5_change_65 (fun H locs I => ?_)
            refine lv_iconst (v := 0) hx hb dX5_change_68 rfl ?_
            refine lv_istore_n (lv' := [(3, .int 0), (0, .ref h), (1, .int x1), (2, .int x2)]) hx hb dX5_change_69 rfl hl (by decide) rfl (fun ls hl => ?_)
            obtain ⟨o13, h_o13, hrun⟩ := p_bnd hrun
            refine loop_70 r5.1 r5.2 r9.1 r9.2 v_tableA v_tableB v_tableC v_tableD FU v_signs 0 o13 h_o13 (fun H locs ls I hl => ?_) _ _ _ I (lv_sub hl [1, 2, 0] rfl)
            refine lv_aload_n hx hb dX5_change_101 rfl (lv_at hl 0 rfl) ?_
            refine lv_iload_n hx hb dX5_change_102 rfl (lv_at hl 1 rfl) ?_
            obtain ⟨r14, h_r14, hrun⟩ := p_bnd hrun
            refine jVE_v (rest := []) C (c5_look h_r14) gX5_change_X5_look hd5_look hK hN hD hA I rcM rfl ⟨rfl, rfl⟩ ⟨Nat.le_of_ble_eq_true rfl, Nat.le_of_ble_eq_true rfl⟩ rfl hl.1 rfl (Nat.le_of_ble_eq_true rfl) ⟨Nat.le_of_ble_eq_true rfl, Nat.le_of_ble_eq_true rfl⟩ dX5_change_103 (fun H locs I => ?_)
            refine lv_aload_n hx hb dX5_change_106 rfl (lv_at hl 0 rfl) ?_
            obtain ⟨r15, h_r15, hrun⟩ := p_bnd hrun
            refine jVE_i (rest := []) C (c5_traceNow h_r15) gX5_change_X5_traceNow hd5_traceNow hK hN hD hA I rcM rfl ⟨rfl, rfl⟩ ⟨Nat.le_of_ble_eq_true rfl, Nat.le_of_ble_eq_true rfl⟩ rfl hl.1 rfl (Nat.le_of_ble_eq_true rfl) ⟨Nat.le_of_ble_eq_true rfl, Nat.le_of_ble_eq_true rfl⟩ dX5_change_107 (fun H locs I => ?_)
            cases hrun
            exact rE_i C hr hlk hQ I (nbi _) rfl dX5_change_110
          · have hrun := p_pos hrun c8
            refine lv_iconst (v := 1) hx hb dX5_change_60 rfl ?_
            refine lv_goto (tgt := 65) hx hb dX5_change_61 rfl ?_
            obtain ⟨r16, h_r16, hrun⟩ := p_bnd hrun
            refine jVE_v (rest := []) C (c5_layOther h_r16) gX5_change_X5_layOther hd5_layOther hK hN hD hA I rcM rfl ⟨rfl, rfl⟩ ⟨Nat.le_of_ble_eq_true rfl, Nat.le_of_ble_eq_true rfl⟩ rfl hl.1 rfl (Nat.le_of_ble_eq_true rfl) ⟨Nat.le_of_ble_eq_true rfl, Nat.le_of_ble_eq_true rfl⟩ dX5_change_65 (fun H locs I => ?_)
            refine lv_iconst (v := 0) hx hb dX5_change_68 rfl ?_
            refine lv_istore_n (lv' := [(3, .int 0), (0, .ref h), (1, .int x1), (2, .int x2)]) hx hb dX5_change_69 rfl hl (by decide) rfl (fun ls hl => ?_)
            obtain ⟨o17, h_o17, hrun⟩ := p_bnd hrun
            refine loop_70 r5.1 r5.2 r16.1 r16.2 v_tableA v_tableB v_tableC v_tableD FU v_signs 0 o17 h_o17 (fun H locs ls I hl => ?_) _ _ _ I (lv_sub hl [1, 2, 0] rfl)
            refine lv_aload_n hx hb dX5_change_101 rfl (lv_at hl 0 rfl) ?_
            refine lv_iload_n hx hb dX5_change_102 rfl (lv_at hl 1 rfl) ?_
            obtain ⟨r18, h_r18, hrun⟩ := p_bnd hrun
            refine jVE_v (rest := []) C (c5_look h_r18) gX5_change_X5_look hd5_look hK hN hD hA I rcM rfl ⟨rfl, rfl⟩ ⟨Nat.le_of_ble_eq_true rfl, Nat.le_of_ble_eq_true rfl⟩ rfl hl.1 rfl (Nat.le_of_ble_eq_true rfl) ⟨Nat.le_of_ble_eq_true rfl, Nat.le_of_ble_eq_true rfl⟩ dX5_change_103 (fun H locs I => ?_)
            refine lv_aload_n hx hb dX5_change_106 rfl (lv_at hl 0 rfl) ?_
            obtain ⟨r19, h_r19, hrun⟩ := p_bnd hrun
            refine jVE_i (rest := []) C (c5_traceNow h_r19) gX5_change_X5_traceNow hd5_traceNow hK hN hD hA I rcM rfl ⟨rfl, rfl⟩ ⟨Nat.le_of_ble_eq_true rfl, Nat.le_of_ble_eq_true rfl⟩ rfl hl.1 rfl (Nat.le_of_ble_eq_true rfl) ⟨Nat.le_of_ble_eq_true rfl, Nat.le_of_ble_eq_true rfl⟩ dX5_change_107 (fun H locs I => ?_)
            cases hrun
            exact rE_i C hr hlk hQ I (nbi _) rfl dX5_change_110
        · have hrun := p_pos hrun c7
          refine lv_iconst (v := 1) hx hb dX5_change_50 rfl ?_
          refine lv_goto (tgt := 55) hx hb dX5_change_51 rfl ?_
          refine lv_iload_n hx hb dX5_change_55 rfl (lv_at hl 2 rfl) ?_
          refine lv_iconst (v := 1) hx hb dX5_change_56 rfl ?_
          refine lv_icmp_ne (tgt := 64) hx hb dX5_change_57 rfl (fun c20 => ?_) (fun c20 => ?_)
          · have hrun := p_neg hrun c20
            refine lv_iconst (v := 0) hx hb dX5_change_64 rfl ?_
            obtain ⟨r21, h_r21, hrun⟩ := p_bnd hrun
            refine jVE_v (rest := []) C (c5_layOther h_r21) gX5_change_X5_layOther hd5_layOther hK hN hD hA I rcM rfl ⟨rfl, rfl⟩ ⟨Nat.le_of_ble_eq_true rfl, Nat.le_of_ble_eq_true rfl⟩ rfl hl.1 rfl (Nat.le_of_ble_eq_true rfl) ⟨Nat.le_of_ble_eq_true rfl, Nat.le_of_ble_eq_true rfl⟩ dX5_change_65 (fun H locs I => ?_)
            refine lv_iconst (v := 0) hx hb dX5_change_68 rfl ?_
            refine lv_istore_n (lv' := [(3, .int 0), (0, .ref h), (1, .int x1), (2, .int x2)]) hx hb dX5_change_69 rfl hl (by decide) rfl (fun ls hl => ?_)
            obtain ⟨o22, h_o22, hrun⟩ := p_bnd hrun
            refine loop_70 r5.1 r5.2 r21.1 r21.2 v_tableA v_tableB v_tableC v_tableD FU v_signs 0 o22 h_o22 (fun H locs ls I hl => ?_) _ _ _ I (lv_sub hl [1, 2, 0] rfl)
            refine lv_aload_n hx hb dX5_change_101 rfl (lv_at hl 0 rfl) ?_
            refine lv_iload_n hx hb dX5_change_102 rfl (lv_at hl 1 rfl) ?_
            obtain ⟨r23, h_r23, hrun⟩ := p_bnd hrun
            refine jVE_v (rest := []) C (c5_look h_r23) gX5_change_X5_look hd5_look hK hN hD hA I rcM rfl ⟨rfl, rfl⟩ ⟨Nat.le_of_ble_eq_true rfl, Nat.le_of_ble_eq_true rfl⟩ rfl hl.1 rfl (Nat.le_of_ble_eq_true rfl) ⟨Nat.le_of_ble_eq_true rfl, Nat.le_of_ble_eq_true rfl⟩ dX5_change_103 (fun H locs I => ?_)
            refine lv_aload_n hx hb dX5_change_106 rfl (lv_at hl 0 rfl) ?_
            obtain ⟨r24, h_r24, hrun⟩ := p_bnd hrun
            refine jVE_i (rest := []) C (c5_traceNow h_r24) gX5_change_X5_traceNow hd5_traceNow hK hN hD hA I rcM rfl ⟨rfl, rfl⟩ ⟨Nat.le_of_ble_eq_true rfl, Nat.le_of_ble_eq_true rfl⟩ rfl hl.1 rfl (Nat.le_of_ble_eq_true rfl) ⟨Nat.le_of_ble_eq_true rfl, Nat.le_of_ble_eq_true rfl⟩ dX5_change_107 (fun H locs I => ?_)
            cases hrun
            exact rE_i C hr hlk hQ I (nbi _) rfl dX5_change_110
          · have hrun := p_pos hrun c20
            refine lv_iconst (v := 1) hx hb dX5_change_60 rfl ?_
            refine lv_goto (tgt := 65) hx hb dX5_change_61 rfl ?_
            obtain ⟨r25, h_r25, hrun⟩ := p_bnd hrun
            refine jVE_v (rest := []) C (c5_layOther h_r25) gX5_change_X5_layOther hd5_layOther hK hN hD hA I rcM rfl ⟨rfl, rfl⟩ ⟨Nat.le_of_ble_eq_true rfl, Nat.le_of_ble_eq_true rfl⟩ rfl hl.1 rfl (Nat.le_of_ble_eq_true rfl) ⟨Nat.le_of_ble_eq_true rfl, Nat.le_of_ble_eq_true rfl⟩ dX5_change_65 (fun H locs I => ?_)
            refine lv_iconst (v := 0) hx hb dX5_change_68 rfl ?_
            refine lv_istore_n (lv' := [(3, .int 0), (0, .ref h), (1, .int x1), (2, .int x2)]) hx hb dX5_change_69 rfl hl (by decide) rfl (fun ls hl => ?_)
            obtain ⟨o26, h_o26, hrun⟩ := p_bnd hrun
            refine loop_70 r5.1 r5.2 r25.1 r25.2 v_tableA v_tableB v_tableC v_tableD FU v_signs 0 o26 h_o26 (fun H locs ls I hl => ?_) _ _ _ I (lv_sub hl [1, 2, 0] rfl)
            refine lv_aload_n hx hb dX5_change_101 rfl (lv_at hl 0 rfl) ?_
            refine lv_iload_n hx hb dX5_change_102 rfl (lv_at hl 1 rfl) ?_
            obtain ⟨r27, h_r27, hrun⟩ := p_bnd hrun
            refine jVE_v (rest := []) C (c5_look h_r27) gX5_change_X5_look hd5_look hK hN hD hA I rcM rfl ⟨rfl, rfl⟩ ⟨Nat.le_of_ble_eq_true rfl, Nat.le_of_ble_eq_true rfl⟩ rfl hl.1 rfl (Nat.le_of_ble_eq_true rfl) ⟨Nat.le_of_ble_eq_true rfl, Nat.le_of_ble_eq_true rfl⟩ dX5_change_103 (fun H locs I => ?_)
            refine lv_aload_n hx hb dX5_change_106 rfl (lv_at hl 0 rfl) ?_
            obtain ⟨r28, h_r28, hrun⟩ := p_bnd hrun
            refine jVE_i (rest := []) C (c5_traceNow h_r28) gX5_change_X5_traceNow hd5_traceNow hK hN hD hA I rcM rfl ⟨rfl, rfl⟩ ⟨Nat.le_of_ble_eq_true rfl, Nat.le_of_ble_eq_true rfl⟩ rfl hl.1 rfl (Nat.le_of_ble_eq_true rfl) ⟨Nat.le_of_ble_eq_true rfl, Nat.le_of_ble_eq_true rfl⟩ dX5_change_107 (fun H locs I => ?_)
            cases hrun
            exact rE_i C hr hlk hQ I (nbi _) rfl dX5_change_110
      · have hrun := p_pos hrun c6
        refine lv_aload_n hx hb dX5_change_33 rfl (lv_at hl 0 rfl) ?_
        refine lv_iload_n hx hb dX5_change_34 rfl (lv_at hl 1 rfl) ?_
        refine lv_aload_n hx hb dX5_change_35 rfl (lv_at hl 0 rfl) ?_
        obtain ⟨r29, h_r29, hrun⟩ := p_bnd hrun
        refine jVS_i (rest := [.int x1, .ref h]) C (c5_leastTurnNow h_r29) gX5_change_X5_leastTurnNow hd5_leastTurnNow hK hN I.1 rcM rfl ⟨rfl, rfl⟩ ⟨Nat.le_of_ble_eq_true rfl, Nat.le_of_ble_eq_true rfl⟩ rfl hl.1 rfl (Nat.le_of_ble_eq_true rfl) ⟨Nat.le_of_ble_eq_true rfl, Nat.le_of_ble_eq_true rfl⟩ dX5_change_36 ?_
        obtain ⟨r30, h_r30, hrun⟩ := p_bnd hrun
        refine jVE_v (rest := []) C (c5_put h_r30) gX5_change_X5_put hd5_put hK hN hD hA I rcM rfl ⟨rfl, rfl⟩ ⟨Nat.le_of_ble_eq_true rfl, Nat.le_of_ble_eq_true rfl⟩ rfl hl.1 rfl (Nat.le_of_ble_eq_true rfl) ⟨Nat.le_of_ble_eq_true rfl, Nat.le_of_ble_eq_true rfl⟩ dX5_change_39 (fun H locs I => ?_)
        refine lv_goto (tgt := 101) hx hb dX5_change_42 rfl ?_
        refine lv_aload_n hx hb dX5_change_101 rfl (lv_at hl 0 rfl) ?_
        refine lv_iload_n hx hb dX5_change_102 rfl (lv_at hl 1 rfl) ?_
        obtain ⟨r31, h_r31, hrun⟩ := p_bnd hrun
        refine jVE_v (rest := []) C (c5_look h_r31) gX5_change_X5_look hd5_look hK hN hD hA I rcM rfl ⟨rfl, rfl⟩ ⟨Nat.le_of_ble_eq_true rfl, Nat.le_of_ble_eq_true rfl⟩ rfl hl.1 rfl (Nat.le_of_ble_eq_true rfl) ⟨Nat.le_of_ble_eq_true rfl, Nat.le_of_ble_eq_true rfl⟩ dX5_change_103 (fun H locs I => ?_)
        refine lv_aload_n hx hb dX5_change_106 rfl (lv_at hl 0 rfl) ?_
        obtain ⟨r32, h_r32, hrun⟩ := p_bnd hrun
        refine jVE_i (rest := []) C (c5_traceNow h_r32) gX5_change_X5_traceNow hd5_traceNow hK hN hD hA I rcM rfl ⟨rfl, rfl⟩ ⟨Nat.le_of_ble_eq_true rfl, Nat.le_of_ble_eq_true rfl⟩ rfl hl.1 rfl (Nat.le_of_ble_eq_true rfl) ⟨Nat.le_of_ble_eq_true rfl, Nat.le_of_ble_eq_true rfl⟩ dX5_change_107 (fun H locs I => ?_)
        cases hrun
        exact rE_i C hr hlk hQ I (nbi _) rfl dX5_change_110
    · have hrun := p_pos hrun c4
      refine lv_ldc (v := (-2000000102)) hx hb C.2.2.2.1 (C.2.2.2.2 _ k5_change_54) dX5_change_20 ?_
      cases hrun
      exact rE_i C hr hlk hQ I (nbi _) rfl dX5_change_22
  · have hrun := p_pos hrun c2
    refine lv_ldc (v := (-2000000101)) hx hb C.2.2.2.1 (C.2.2.2.2 _ k5_change_145) dX5_change_8 ?_
    cases hrun
    exact rE_i C hr hlk hQ I (nbi _) rfl dX5_change_10

abbrev rm5_addRoad : Room := { frames := 0, cells := 0, slots := 0, locals := 0 }
theorem fl5_addRoad_13 : Cond.fieldLink RX5 13 "RiverWordsModel" "lengths" "[I" ∈ wsX5_addRoad := by decide +kernel
theorem fl5_addRoad_16 : Cond.fieldLink RX5 16 "RiverWordsModel" "signs" "[I" ∈ wsX5_addRoad := by decide +kernel
theorem fl5_addRoad_37 : Cond.fieldLink RX5 37 "RiverWordsModel" "newSigns" "[I" ∈ wsX5_addRoad := by decide +kernel
theorem fl5_addRoad_60 : Cond.fieldLink RX5 60 "RiverWordsModel" "newLength" "I" ∈ wsX5_addRoad := by decide +kernel
theorem inm5_addRoad : ∀ w ∈ wsX50, w ∈ wsX5_addRoad := fun w h => by unfold wsX5_addRoad; first | exact List.mem_cons_of_mem _ (List.mem_append_right _ h) | exact List.mem_cons_of_mem _ h
theorem hd5_addRoad : okD yX5_addRoad 1 := by decide +kernel
set_option maxHeartbeats 8000000 in
set_option maxRecDepth 100000 in
theorem c5_addRoad {x1 : Int32} {res : Int32 × (Nat → Int32)} (hrun : P5_addRoad v_lengths v_signs v_newLength v_newSigns x1 = some res) : Met l yX5_addRoad wsX5_addRoad rm5_addRoad (va_Pc [.ref h, .int x1] (PE D [(cA, .int)] sz (WM0 h ad cA) (WM h ad cA v_pageLength v_page v_roads v_lengths v_signs v_wordsRead v_disc v_forms v_formA v_formB v_formC v_nextOf v_cycleOf v_cycles v_firstOf v_newLength v_newSigns v_mayRun v_size v_at v_otherSize v_other v_tableA v_tableB v_tableC v_tableD v_a v_b v_c v_grade v_flowA v_flowB v_flowC v_seedNow v_h))) (va_Qv (fun _ : Unit => True) (fun _ t => va_P D vwCl (WM h ad cA v_pageLength v_page v_roads v_lengths v_signs v_wordsRead v_disc v_forms v_formA v_formB v_formC v_nextOf v_cycleOf v_cycles v_firstOf res.1 res.2 v_mayRun v_size v_at v_otherSize v_other v_tableA v_tableB v_tableC v_tableD v_a v_b v_c v_grade v_flowA v_flowB v_flowC v_seedNow v_h) t.heap) (va_A (WM0 h ad cA) sz)) 0 0 (va_A (WM0 h ad cA) sz) := by
  refine E_in (cc := cX5_addRoad) (maxL := 3) (ret := none) (by decide) rfl (Nat.le_of_ble_eq_true rfl) ?_
  intro p e s m args below meth c ls Q hQ C hr hlk hK hN hD hA I hl
  have C : CallFix p m c cX5_addRoad 3 s args wsX5_addRoad RX5 := C
  have hx := C.1
  have hb := C.2.1
  have hl : lv_has ls 3 [(0, .ref h), (1, .int x1)] := hl
  have loop_2 : ∀ (n : Nat) (v_newLength : Int32) (v_newSigns : Nat → Int32) (x2 : Int32) (out : Int32 × (Nat → Int32)), P5_addRoad_2 v_lengths v_signs x1 n v_newLength v_newSigns x2 = some out → (∀ (H : Heap) (locs : List Loc) (ls : Array Slot), IM D (va_A (WM0 h ad cA) sz) s.heap H locs (WM h ad cA v_pageLength v_page v_roads v_lengths v_signs v_wordsRead v_disc v_forms v_formA v_formB v_formC v_nextOf v_cycleOf v_cycles v_firstOf out.1 out.2 v_mayRun v_size v_at v_otherSize v_other v_tableA v_tableB v_tableC v_tableD v_a v_b v_c v_grade v_flowA v_flowB v_flowC v_seedNow v_h) → lv_has ls 3 [] → W p l e rm5_addRoad s m args below meth c H locs 0 0 Q (F0 m 48 ls [])) → ∀ (H : Heap) (locs : List Loc) (ls : Array Slot), IM D (va_A (WM0 h ad cA) sz) s.heap H locs (WM h ad cA v_pageLength v_page v_roads v_lengths v_signs v_wordsRead v_disc v_forms v_formA v_formB v_formC v_nextOf v_cycleOf v_cycles v_firstOf v_newLength v_newSigns v_mayRun v_size v_at v_otherSize v_other v_tableA v_tableB v_tableC v_tableD v_a v_b v_c v_grade v_flowA v_flowB v_flowC v_seedNow v_h) → lv_has ls 3 [(0, .ref h), (1, .int x1), (2, .int x2)] → W p l e rm5_addRoad s m args below meth c H locs 0 0 Q (F0 m 2 ls []) := by
    intro n
    induction n with
    | zero =>
      intro v_newLength v_newSigns x2 out hrun K H locs ls I hl
      cases hrun
    | succ n ih =>
      intro v_newLength v_newSigns x2 out hrun K H locs ls I hl
      rw [P5_addRoad_2] at hrun
      refine lv_iload_n hx hb dX5_addRoad_2 rfl (lv_at hl 2 rfl) ?_
      refine lv_aload_n hx hb dX5_addRoad_3 rfl (lv_at hl 0 rfl) ?_
      refine gM_lengths C inm5_addRoad hK I.1 fl5_addRoad_13 dX5_addRoad_4 ?_
      refine lv_iload_n hx hb dX5_addRoad_7 rfl (lv_at hl 1 rfl) ?_
      obtain ⟨b1, hrun⟩ := p_chk hrun
      refine ldM_lengths C hK I.1 b1 dX5_addRoad_8 ?_
      refine lv_icmp_ge (tgt := 48) hx hb dX5_addRoad_9 rfl (fun c2 => ?_) (fun c2 => ?_)
      · have hrun := p_pos hrun c2
        cases hrun
        exact K _ _ _ I (lv_sub hl [] rfl)
      · have hrun := p_neg hrun c2
        refine lv_aload_n hx hb dX5_addRoad_12 rfl (lv_at hl 0 rfl) ?_
        refine gM_newSigns C inm5_addRoad hK I.1 fl5_addRoad_37 dX5_addRoad_13 ?_
        refine lv_aload_n hx hb dX5_addRoad_16 rfl (lv_at hl 0 rfl) ?_
        refine gM_newLength C inm5_addRoad hK I.1 fl5_addRoad_60 dX5_addRoad_17 ?_
        refine lv_aload_n hx hb dX5_addRoad_20 rfl (lv_at hl 0 rfl) ?_
        refine gM_signs C inm5_addRoad hK I.1 fl5_addRoad_16 dX5_addRoad_21 ?_
        refine lv_bipush (v := 20) hx hb dX5_addRoad_24 rfl ?_
        refine lv_iload_n hx hb dX5_addRoad_26 rfl (lv_at hl 1 rfl) ?_
        refine lv_imul hx hb dX5_addRoad_27 ?_
        refine lv_iload_n hx hb dX5_addRoad_28 rfl (lv_at hl 2 rfl) ?_
        refine lv_iadd hx hb dX5_addRoad_29 ?_
        obtain ⟨b3, hrun⟩ := p_chk hrun
        refine ldM_signs C hK I.1 b3 dX5_addRoad_30 ?_
        obtain ⟨b4, hrun⟩ := p_chk hrun
        refine stM_newSigns C hK hD I b4 dX5_addRoad_31 (fun H locs I => ?_)
        refine lv_aload_n hx hb dX5_addRoad_32 rfl (lv_at hl 0 rfl) ?_
        refine lv_dup hx hb dX5_addRoad_33 rfl ?_
        refine gM_newLength C inm5_addRoad hK I.1 fl5_addRoad_60 dX5_addRoad_34 ?_
        refine lv_iconst (v := 1) hx hb dX5_addRoad_37 rfl ?_
        refine lv_iadd hx hb dX5_addRoad_38 ?_
        refine pM_newLength C inm5_addRoad hK hD I fl5_addRoad_60 dX5_addRoad_39 (fun H locs I => ?_)
        refine lv_iinc (v := x2 + 1) (lv' := [(2, .int (x2 + 1)), (0, .ref h), (1, .int x1)]) hx hb dX5_addRoad_42 hl (k := 2) rfl rfl (by decide) rfl (fun ls hl => ?_)
        refine lv_goto (tgt := 2) hx hb dX5_addRoad_45 rfl ?_
        exact ih (v_newLength + 1) (upd v_newSigns (Int32.toNatClampNeg v_newLength) (v_signs (Int32.toNatClampNeg ((20 * x1) + x2)))) (x2 + 1) out hrun K _ _ _ I (lv_sub hl [1, 2, 0] rfl)
  unfold P5_addRoad at hrun
  refine lv_iconst (v := 0) hx hb dX5_addRoad_0 rfl ?_
  refine lv_istore_n (lv' := [(2, .int 0), (0, .ref h), (1, .int x1)]) hx hb dX5_addRoad_1 rfl hl (by decide) rfl (fun ls hl => ?_)
  obtain ⟨o5, h_o5, hrun⟩ := p_bnd hrun
  refine loop_2 FU v_newLength v_newSigns 0 o5 h_o5 (fun H locs ls I hl => ?_) _ _ _ I (lv_sub hl [1, 2, 0] rfl)
  cases hrun
  exact rE_v C hr hlk hQ I dX5_addRoad_48

abbrev rm5_join : Room := { frames := 2, cells := 0, slots := 0, locals := 43 }
theorem fl5_join_13 : Cond.fieldLink RX5 13 "RiverWordsModel" "lengths" "[I" ∈ wsX5_join := by decide +kernel
theorem fl5_join_60 : Cond.fieldLink RX5 60 "RiverWordsModel" "newLength" "I" ∈ wsX5_join := by decide +kernel
theorem fl5_join_75 : Cond.fieldLink RX5 75 "RiverWordsModel" "roads" "I" ∈ wsX5_join := by decide +kernel
theorem k5_join_59 : Cond.constant RX5 59 (-2000000104) ∈ wsX5_join := by decide +kernel
theorem k5_join_78 : Cond.constant RX5 78 (-2000000103) ∈ wsX5_join := by decide +kernel
theorem k5_join_145 : Cond.constant RX5 145 (-2000000101) ∈ wsX5_join := by decide +kernel
theorem inm5_join : ∀ w ∈ wsX50, w ∈ wsX5_join := fun w h => by unfold wsX5_join; first | exact List.mem_cons_of_mem _ (List.mem_append_right _ h) | exact List.mem_cons_of_mem _ h
theorem hd5_join : okD yX5_join 2 := by decide +kernel
set_option maxHeartbeats 8000000 in
set_option maxRecDepth 100000 in
theorem c5_join {x1 : Int32} {x2 : Int32} {res : Int32 × Int32 × (Nat → Int32) × (Nat → Int32) × Int32 × (Nat → Int32)} (hrun : P5_join v_roads v_lengths v_signs v_newLength v_newSigns x1 x2 = some res) : Met l yX5_join wsX5_join rm5_join (va_Pc [.ref h, .int x1, .int x2] (PE D [(cA, .int)] sz (WM0 h ad cA) (WM h ad cA v_pageLength v_page v_roads v_lengths v_signs v_wordsRead v_disc v_forms v_formA v_formB v_formC v_nextOf v_cycleOf v_cycles v_firstOf v_newLength v_newSigns v_mayRun v_size v_at v_otherSize v_other v_tableA v_tableB v_tableC v_tableD v_a v_b v_c v_grade v_flowA v_flowB v_flowC v_seedNow v_h))) (va_Qi (fun (x : Int32) (_ : Unit) => x = res.1) (fun _ t => va_P D vwCl (WM h ad cA v_pageLength v_page res.2.1 res.2.2.1 res.2.2.2.1 v_wordsRead v_disc v_forms v_formA v_formB v_formC v_nextOf v_cycleOf v_cycles v_firstOf res.2.2.2.2.1 res.2.2.2.2.2 v_mayRun v_size v_at v_otherSize v_other v_tableA v_tableB v_tableC v_tableD v_a v_b v_c v_grade v_flowA v_flowB v_flowC v_seedNow v_h) t.heap) (va_A (WM0 h ad cA) sz)) 0 0 (va_A (WM0 h ad cA) sz) := by
  refine E_in (cc := cX5_join) (maxL := 3) (ret := (some .int)) (by decide) rfl (Nat.le_of_ble_eq_true rfl) ?_
  intro p e s m args below meth c ls Q hQ C hr hlk hK hN hD hA I hl
  have C : CallFix p m c cX5_join 3 s args wsX5_join RX5 := C
  have hx := C.1
  have hb := C.2.1
  have hl : lv_has ls 3 [(0, .ref h), (1, .int x1), (2, .int x2)] := hl
  unfold P5_join at hrun
  refine lv_aload_n hx hb dX5_join_0 rfl (lv_at hl 0 rfl) ?_
  refine lv_iload_n hx hb dX5_join_1 rfl (lv_at hl 1 rfl) ?_
  obtain ⟨r1, h_r1, hrun⟩ := p_bnd hrun
  refine jVS_i (rest := []) C (c5_isRoad h_r1) gX5_join_X5_isRoad hd5_isRoad hK hN I.1 rcM rfl ⟨rfl, rfl⟩ ⟨Nat.le_of_ble_eq_true rfl, Nat.le_of_ble_eq_true rfl⟩ rfl hl.1 rfl (Nat.le_of_ble_eq_true rfl) ⟨Nat.le_of_ble_eq_true rfl, Nat.le_of_ble_eq_true rfl⟩ dX5_join_2 ?_
  refine lv_if_eq (tgt := 16) hx hb dX5_join_5 rfl (fun c2 => ?_) (fun c2 => ?_)
  · have hrun := p_pos hrun c2
    refine lv_ldc (v := (-2000000101)) hx hb C.2.2.2.1 (C.2.2.2.2 _ k5_join_145) dX5_join_16 ?_
    cases hrun
    exact rE_i C hr hlk hQ I (nbi _) rfl dX5_join_18
  · have hrun := p_neg hrun c2
    refine lv_aload_n hx hb dX5_join_8 rfl (lv_at hl 0 rfl) ?_
    refine lv_iload_n hx hb dX5_join_9 rfl (lv_at hl 2 rfl) ?_
    obtain ⟨r3, h_r3, hrun⟩ := p_bnd hrun
    refine jVS_i (rest := []) C (c5_isRoad h_r3) gX5_join_X5_isRoad hd5_isRoad hK hN I.1 rcM rfl ⟨rfl, rfl⟩ ⟨Nat.le_of_ble_eq_true rfl, Nat.le_of_ble_eq_true rfl⟩ rfl hl.1 rfl (Nat.le_of_ble_eq_true rfl) ⟨Nat.le_of_ble_eq_true rfl, Nat.le_of_ble_eq_true rfl⟩ dX5_join_10 ?_
    refine lv_if_ne (tgt := 19) hx hb dX5_join_13 rfl (fun c4 => ?_) (fun c4 => ?_)
    · have hrun := p_neg hrun c4
      refine lv_aload_n hx hb dX5_join_19 rfl (lv_at hl 0 rfl) ?_
      refine gM_lengths C inm5_join hK I.1 fl5_join_13 dX5_join_20 ?_
      refine lv_iload_n hx hb dX5_join_23 rfl (lv_at hl 1 rfl) ?_
      obtain ⟨b5, hrun⟩ := p_chk hrun
      refine ldM_lengths C hK I.1 b5 dX5_join_24 ?_
      refine lv_aload_n hx hb dX5_join_25 rfl (lv_at hl 0 rfl) ?_
      refine gM_lengths C inm5_join hK I.1 fl5_join_13 dX5_join_26 ?_
      refine lv_iload_n hx hb dX5_join_29 rfl (lv_at hl 2 rfl) ?_
      obtain ⟨b6, hrun⟩ := p_chk hrun
      refine ldM_lengths C hK I.1 b6 dX5_join_30 ?_
      refine lv_iadd hx hb dX5_join_31 ?_
      refine lv_bipush (v := 20) hx hb dX5_join_32 rfl ?_
      refine lv_icmp_le (tgt := 40) hx hb dX5_join_34 rfl (fun c7 => ?_) (fun c7 => ?_)
      · have hrun := p_pos hrun c7
        refine lv_aload_n hx hb dX5_join_40 rfl (lv_at hl 0 rfl) ?_
        refine gM_roads C inm5_join hK I.1 fl5_join_75 dX5_join_41 ?_
        refine lv_bipush (v := 6) hx hb dX5_join_44 rfl ?_
        refine lv_icmp_ne (tgt := 52) hx hb dX5_join_46 rfl (fun c8 => ?_) (fun c8 => ?_)
        · have hrun := p_neg hrun c8
          refine lv_aload_n hx hb dX5_join_52 rfl (lv_at hl 0 rfl) ?_
          refine lv_iconst (v := 0) hx hb dX5_join_53 rfl ?_
          refine pM_newLength C inm5_join hK hD I fl5_join_60 dX5_join_54 (fun H locs I => ?_)
          refine lv_aload_n hx hb dX5_join_57 rfl (lv_at hl 0 rfl) ?_
          refine lv_iload_n hx hb dX5_join_58 rfl (lv_at hl 1 rfl) ?_
          obtain ⟨r9, h_r9, hrun⟩ := p_bnd hrun
          refine jVE_v (rest := []) C (c5_addRoad h_r9) gX5_join_X5_addRoad hd5_addRoad hK hN hD hA I rcM rfl ⟨rfl, rfl⟩ ⟨Nat.le_of_ble_eq_true rfl, Nat.le_of_ble_eq_true rfl⟩ rfl hl.1 rfl (Nat.le_of_ble_eq_true rfl) ⟨Nat.le_of_ble_eq_true rfl, Nat.le_of_ble_eq_true rfl⟩ dX5_join_59 (fun H locs I => ?_)
          refine lv_aload_n hx hb dX5_join_62 rfl (lv_at hl 0 rfl) ?_
          refine lv_iload_n hx hb dX5_join_63 rfl (lv_at hl 2 rfl) ?_
          obtain ⟨r10, h_r10, hrun⟩ := p_bnd hrun
          refine jVE_v (rest := []) C (c5_addRoad h_r10) gX5_join_X5_addRoad hd5_addRoad hK hN hD hA I rcM rfl ⟨rfl, rfl⟩ ⟨Nat.le_of_ble_eq_true rfl, Nat.le_of_ble_eq_true rfl⟩ rfl hl.1 rfl (Nat.le_of_ble_eq_true rfl) ⟨Nat.le_of_ble_eq_true rfl, Nat.le_of_ble_eq_true rfl⟩ dX5_join_64 (fun H locs I => ?_)
          refine lv_aload_n hx hb dX5_join_67 rfl (lv_at hl 0 rfl) ?_
          obtain ⟨r11, h_r11, hrun⟩ := p_bnd hrun
          refine jVE_i (rest := []) C (c5_keepNew h_r11) gX5_join_X5_keepNew hd5_keepNew hK hN hD hA I rcM rfl ⟨rfl, rfl⟩ ⟨Nat.le_of_ble_eq_true rfl, Nat.le_of_ble_eq_true rfl⟩ rfl hl.1 rfl (Nat.le_of_ble_eq_true rfl) ⟨Nat.le_of_ble_eq_true rfl, Nat.le_of_ble_eq_true rfl⟩ dX5_join_68 (fun H locs I => ?_)
          cases hrun
          exact rE_i C hr hlk hQ I (nbi _) rfl dX5_join_71
        · have hrun := p_pos hrun c8
          refine lv_ldc (v := (-2000000104)) hx hb C.2.2.2.1 (C.2.2.2.2 _ k5_join_59) dX5_join_49 ?_
          cases hrun
          exact rE_i C hr hlk hQ I (nbi _) rfl dX5_join_51
      · have hrun := p_neg hrun c7
        refine lv_ldc (v := (-2000000103)) hx hb C.2.2.2.1 (C.2.2.2.2 _ k5_join_78) dX5_join_37 ?_
        cases hrun
        exact rE_i C hr hlk hQ I (nbi _) rfl dX5_join_39
    · have hrun := p_pos hrun c4
      refine lv_ldc (v := (-2000000101)) hx hb C.2.2.2.1 (C.2.2.2.2 _ k5_join_145) dX5_join_16 ?_
      cases hrun
      exact rE_i C hr hlk hQ I (nbi _) rfl dX5_join_18

abbrev rm5_times : Room := { frames := 2, cells := 0, slots := 0, locals := 43 }
theorem fl5_times_13 : Cond.fieldLink RX5 13 "RiverWordsModel" "lengths" "[I" ∈ wsX5_times := by decide +kernel
theorem fl5_times_60 : Cond.fieldLink RX5 60 "RiverWordsModel" "newLength" "I" ∈ wsX5_times := by decide +kernel
theorem fl5_times_75 : Cond.fieldLink RX5 75 "RiverWordsModel" "roads" "I" ∈ wsX5_times := by decide +kernel
theorem k5_times_54 : Cond.constant RX5 54 (-2000000102) ∈ wsX5_times := by decide +kernel
theorem k5_times_59 : Cond.constant RX5 59 (-2000000104) ∈ wsX5_times := by decide +kernel
theorem k5_times_78 : Cond.constant RX5 78 (-2000000103) ∈ wsX5_times := by decide +kernel
theorem k5_times_145 : Cond.constant RX5 145 (-2000000101) ∈ wsX5_times := by decide +kernel
theorem inm5_times : ∀ w ∈ wsX50, w ∈ wsX5_times := fun w h => by unfold wsX5_times; first | exact List.mem_cons_of_mem _ (List.mem_append_right _ h) | exact List.mem_cons_of_mem _ h
theorem hd5_times : okD yX5_times 2 := by decide +kernel
set_option maxHeartbeats 8000000 in
set_option maxRecDepth 100000 in
theorem c5_times {x1 : Int32} {x2 : Int32} {res : Int32 × Int32 × (Nat → Int32) × (Nat → Int32) × Int32 × (Nat → Int32)} (hrun : P5_times v_roads v_lengths v_signs v_newLength v_newSigns x1 x2 = some res) : Met l yX5_times wsX5_times rm5_times (va_Pc [.ref h, .int x1, .int x2] (PE D [(cA, .int)] sz (WM0 h ad cA) (WM h ad cA v_pageLength v_page v_roads v_lengths v_signs v_wordsRead v_disc v_forms v_formA v_formB v_formC v_nextOf v_cycleOf v_cycles v_firstOf v_newLength v_newSigns v_mayRun v_size v_at v_otherSize v_other v_tableA v_tableB v_tableC v_tableD v_a v_b v_c v_grade v_flowA v_flowB v_flowC v_seedNow v_h))) (va_Qi (fun (x : Int32) (_ : Unit) => x = res.1) (fun _ t => va_P D vwCl (WM h ad cA v_pageLength v_page res.2.1 res.2.2.1 res.2.2.2.1 v_wordsRead v_disc v_forms v_formA v_formB v_formC v_nextOf v_cycleOf v_cycles v_firstOf res.2.2.2.2.1 res.2.2.2.2.2 v_mayRun v_size v_at v_otherSize v_other v_tableA v_tableB v_tableC v_tableD v_a v_b v_c v_grade v_flowA v_flowB v_flowC v_seedNow v_h) t.heap) (va_A (WM0 h ad cA) sz)) 0 0 (va_A (WM0 h ad cA) sz) := by
  refine E_in (cc := cX5_times) (maxL := 4) (ret := (some .int)) (by decide) rfl (Nat.le_of_ble_eq_true rfl) ?_
  intro p e s m args below meth c ls Q hQ C hr hlk hK hN hD hA I hl
  have C : CallFix p m c cX5_times 4 s args wsX5_times RX5 := C
  have hx := C.1
  have hb := C.2.1
  have hl : lv_has ls 4 [(0, .ref h), (1, .int x1), (2, .int x2)] := hl
  have loop_58 : ∀ (v_roads : Int32) (v_lengths : Nat → Int32) (v_signs : Nat → Int32) (n : Nat) (v_newLength : Int32) (v_newSigns : Nat → Int32) (x3 : Int32) (out : Int32 × (Nat → Int32)), P5_times_58 v_lengths v_signs x1 x2 n v_newLength v_newSigns x3 = some out → (∀ (H : Heap) (locs : List Loc) (ls : Array Slot), IM D (va_A (WM0 h ad cA) sz) s.heap H locs (WM h ad cA v_pageLength v_page v_roads v_lengths v_signs v_wordsRead v_disc v_forms v_formA v_formB v_formC v_nextOf v_cycleOf v_cycles v_firstOf out.1 out.2 v_mayRun v_size v_at v_otherSize v_other v_tableA v_tableB v_tableC v_tableD v_a v_b v_c v_grade v_flowA v_flowB v_flowC v_seedNow v_h) → lv_has ls 4 [(0, .ref h)] → W p l e rm5_times s m args below meth c H locs 0 0 Q (F0 m 74 ls [])) → ∀ (H : Heap) (locs : List Loc) (ls : Array Slot), IM D (va_A (WM0 h ad cA) sz) s.heap H locs (WM h ad cA v_pageLength v_page v_roads v_lengths v_signs v_wordsRead v_disc v_forms v_formA v_formB v_formC v_nextOf v_cycleOf v_cycles v_firstOf v_newLength v_newSigns v_mayRun v_size v_at v_otherSize v_other v_tableA v_tableB v_tableC v_tableD v_a v_b v_c v_grade v_flowA v_flowB v_flowC v_seedNow v_h) → lv_has ls 4 [(0, .ref h), (1, .int x1), (2, .int x2), (3, .int x3)] → W p l e rm5_times s m args below meth c H locs 0 0 Q (F0 m 58 ls []) := by
    intro v_roads v_lengths v_signs n
    induction n with
    | zero =>
      intro v_newLength v_newSigns x3 out hrun K H locs ls I hl
      cases hrun
    | succ n ih =>
      intro v_newLength v_newSigns x3 out hrun K H locs ls I hl
      rw [P5_times_58] at hrun
      refine lv_iload_n hx hb dX5_times_58 rfl (lv_at hl 3 rfl) ?_
      refine lv_iload_n hx hb dX5_times_59 rfl (lv_at hl 2 rfl) ?_
      refine lv_icmp_ge (tgt := 74) hx hb dX5_times_60 rfl (fun c8 => ?_) (fun c8 => ?_)
      · have hrun := p_pos hrun c8
        cases hrun
        exact K _ _ _ I (lv_sub hl [0] rfl)
      · have hrun := p_neg hrun c8
        refine lv_aload_n hx hb dX5_times_63 rfl (lv_at hl 0 rfl) ?_
        refine lv_iload_n hx hb dX5_times_64 rfl (lv_at hl 1 rfl) ?_
        obtain ⟨r9, h_r9, hrun⟩ := p_bnd hrun
        refine jVE_v (rest := []) C (c5_addRoad h_r9) gX5_times_X5_addRoad hd5_addRoad hK hN hD hA I rcM rfl ⟨rfl, rfl⟩ ⟨Nat.le_of_ble_eq_true rfl, Nat.le_of_ble_eq_true rfl⟩ rfl hl.1 rfl (Nat.le_of_ble_eq_true rfl) ⟨Nat.le_of_ble_eq_true rfl, Nat.le_of_ble_eq_true rfl⟩ dX5_times_65 (fun H locs I => ?_)
        refine lv_iinc (v := x3 + 1) (lv' := [(3, .int (x3 + 1)), (0, .ref h), (1, .int x1), (2, .int x2)]) hx hb dX5_times_68 hl (k := 3) rfl rfl (by decide) rfl (fun ls hl => ?_)
        refine lv_goto (tgt := 58) hx hb dX5_times_71 rfl ?_
        exact ih r9.1 r9.2 (x3 + 1) out hrun K _ _ _ I (lv_sub hl [1, 2, 3, 0] rfl)
  unfold P5_times at hrun
  refine lv_aload_n hx hb dX5_times_0 rfl (lv_at hl 0 rfl) ?_
  refine lv_iload_n hx hb dX5_times_1 rfl (lv_at hl 1 rfl) ?_
  obtain ⟨r1, h_r1, hrun⟩ := p_bnd hrun
  refine jVS_i (rest := []) C (c5_isRoad h_r1) gX5_times_X5_isRoad hd5_isRoad hK hN I.1 rcM rfl ⟨rfl, rfl⟩ ⟨Nat.le_of_ble_eq_true rfl, Nat.le_of_ble_eq_true rfl⟩ rfl hl.1 rfl (Nat.le_of_ble_eq_true rfl) ⟨Nat.le_of_ble_eq_true rfl, Nat.le_of_ble_eq_true rfl⟩ dX5_times_2 ?_
  refine lv_if_ne (tgt := 11) hx hb dX5_times_5 rfl (fun c2 => ?_) (fun c2 => ?_)
  · have hrun := p_neg hrun c2
    refine lv_iload_n hx hb dX5_times_11 rfl (lv_at hl 2 rfl) ?_
    refine lv_iconst (v := 2) hx hb dX5_times_12 rfl ?_
    refine lv_iconst (v := 5) hx hb dX5_times_13 rfl ?_
    obtain ⟨r3, h_r3, hrun⟩ := p_bnd hrun
    refine jSS_i (rest := []) C (c5_within h_r3) gX5_times_X5_within hd5_within rfl ⟨rfl, rfl⟩ ⟨Nat.le_of_ble_eq_true rfl, Nat.le_of_ble_eq_true rfl⟩ rfl hl.1 rfl (Nat.le_of_ble_eq_true rfl) ⟨Nat.le_of_ble_eq_true rfl, Nat.le_of_ble_eq_true rfl⟩ dX5_times_14 ?_
    refine lv_if_ne (tgt := 23) hx hb dX5_times_17 rfl (fun c4 => ?_) (fun c4 => ?_)
    · have hrun := p_neg hrun c4
      refine lv_iload_n hx hb dX5_times_23 rfl (lv_at hl 2 rfl) ?_
      refine lv_aload_n hx hb dX5_times_24 rfl (lv_at hl 0 rfl) ?_
      refine gM_lengths C inm5_times hK I.1 fl5_times_13 dX5_times_25 ?_
      refine lv_iload_n hx hb dX5_times_28 rfl (lv_at hl 1 rfl) ?_
      obtain ⟨b5, hrun⟩ := p_chk hrun
      refine ldM_lengths C hK I.1 b5 dX5_times_29 ?_
      refine lv_imul hx hb dX5_times_30 ?_
      refine lv_bipush (v := 20) hx hb dX5_times_31 rfl ?_
      refine lv_icmp_le (tgt := 39) hx hb dX5_times_33 rfl (fun c6 => ?_) (fun c6 => ?_)
      · have hrun := p_pos hrun c6
        refine lv_aload_n hx hb dX5_times_39 rfl (lv_at hl 0 rfl) ?_
        refine gM_roads C inm5_times hK I.1 fl5_times_75 dX5_times_40 ?_
        refine lv_bipush (v := 6) hx hb dX5_times_43 rfl ?_
        refine lv_icmp_ne (tgt := 51) hx hb dX5_times_45 rfl (fun c7 => ?_) (fun c7 => ?_)
        · have hrun := p_neg hrun c7
          refine lv_aload_n hx hb dX5_times_51 rfl (lv_at hl 0 rfl) ?_
          refine lv_iconst (v := 0) hx hb dX5_times_52 rfl ?_
          refine pM_newLength C inm5_times hK hD I fl5_times_60 dX5_times_53 (fun H locs I => ?_)
          refine lv_iconst (v := 0) hx hb dX5_times_56 rfl ?_
          refine lv_istore_n (lv' := [(3, .int 0), (0, .ref h), (1, .int x1), (2, .int x2)]) hx hb dX5_times_57 rfl hl (by decide) rfl (fun ls hl => ?_)
          obtain ⟨o10, h_o10, hrun⟩ := p_bnd hrun
          refine loop_58 v_roads v_lengths v_signs FU 0 v_newSigns 0 o10 h_o10 (fun H locs ls I hl => ?_) _ _ _ I (lv_sub hl [1, 2, 3, 0] rfl)
          refine lv_aload_n hx hb dX5_times_74 rfl (lv_at hl 0 rfl) ?_
          obtain ⟨r11, h_r11, hrun⟩ := p_bnd hrun
          refine jVE_i (rest := []) C (c5_keepNew h_r11) gX5_times_X5_keepNew hd5_keepNew hK hN hD hA I rcM rfl ⟨rfl, rfl⟩ ⟨Nat.le_of_ble_eq_true rfl, Nat.le_of_ble_eq_true rfl⟩ rfl hl.1 rfl (Nat.le_of_ble_eq_true rfl) ⟨Nat.le_of_ble_eq_true rfl, Nat.le_of_ble_eq_true rfl⟩ dX5_times_75 (fun H locs I => ?_)
          cases hrun
          exact rE_i C hr hlk hQ I (nbi _) rfl dX5_times_78
        · have hrun := p_pos hrun c7
          refine lv_ldc (v := (-2000000104)) hx hb C.2.2.2.1 (C.2.2.2.2 _ k5_times_59) dX5_times_48 ?_
          cases hrun
          exact rE_i C hr hlk hQ I (nbi _) rfl dX5_times_50
      · have hrun := p_neg hrun c6
        refine lv_ldc (v := (-2000000103)) hx hb C.2.2.2.1 (C.2.2.2.2 _ k5_times_78) dX5_times_36 ?_
        cases hrun
        exact rE_i C hr hlk hQ I (nbi _) rfl dX5_times_38
    · have hrun := p_pos hrun c4
      refine lv_ldc (v := (-2000000102)) hx hb C.2.2.2.1 (C.2.2.2.2 _ k5_times_54) dX5_times_20 ?_
      cases hrun
      exact rE_i C hr hlk hQ I (nbi _) rfl dX5_times_22
  · have hrun := p_pos hrun c2
    refine lv_ldc (v := (-2000000101)) hx hb C.2.2.2.1 (C.2.2.2.2 _ k5_times_145) dX5_times_8 ?_
    cases hrun
    exact rE_i C hr hlk hQ I (nbi _) rfl dX5_times_10

end M55
