section W3
variable {l : Launch} {D : va_G} {sz : Nat}
variable {w : va_W} {i i2 h0 h1 : Nat} {tys : List (ClassId × FieldType)}
variable {v_bits v_size v_allBits v_a v_b v_c v_d v_o_bits v_o_size v_o_allBits v_o_a v_o_b v_o_c v_o_d : Int32}
abbrev rm3_bitAt : Room := { frames := 0, cells := 0, slots := 0, locals := 0 }
theorem fl3_bitAt_15 : Cond.fieldLink RX3 15 "RiverWords$Word" "bits" "I" ∈ wsX3_bitAt := by decide +kernel
theorem fl3_bitAt_19 : Cond.fieldLink RX3 19 "RiverWords$Word" "size" "I" ∈ wsX3_bitAt := by decide +kernel
theorem inm3_bitAt_X3 : ∀ w ∈ wsX30, w ∈ wsX3_bitAt := by decide +kernel
theorem hd3_bitAt : okD yX3_bitAt 1 := by decide +kernel
set_option maxHeartbeats 8000000 in
set_option maxRecDepth 100000 in
theorem c3_bitAt {x1 : Int32} {res : Int32} (hi : w[i]? = some (h0, .inr (3, wl v_bits v_size v_allBits v_a v_b v_c v_d))) (hrun : P3_bitAt v_bits v_size x1 = some res) : Met l yX3_bitAt wsX3_bitAt rm3_bitAt (va_Pc [.ref h0, .int x1] (PS D tys w)) (vp_Si (fun x => x = res)) 0 0 (fun _ => False) := by
  refine S_in (cc := cX3_bitAt) (maxL := 2) (ret := (some .int)) (by decide) rfl (Nat.le_of_ble_eq_true rfl) ?_
  intro p e s m args below meth c ls Q hQ C hr hlk hK hN hP hl
  have C : CallFix p m c cX3_bitAt 2 s args wsX3_bitAt RX3 := C
  have hx := C.1
  have hb := C.2.1
  have hl : lv_has ls 2 [(0, .ref h0), (1, .int x1)] := hl
  unfold P3_bitAt at hrun
  refine lv_aload_n hx hb dX3_bitAt_0 rfl (lv_at hl 0 rfl) ?_
  refine gW_bits hi C inm3_bitAt_X3 hK hP fl3_bitAt_15 dX3_bitAt_1 ?_
  refine lv_aload_n hx hb dX3_bitAt_4 rfl (lv_at hl 0 rfl) ?_
  refine gW_size hi C inm3_bitAt_X3 hK hP fl3_bitAt_19 dX3_bitAt_5 ?_
  refine lv_iconst (v := 1) hx hb dX3_bitAt_8 rfl ?_
  refine lv_isub hx hb dX3_bitAt_9 ?_
  refine lv_iload_n hx hb dX3_bitAt_10 rfl (lv_at hl 1 rfl) ?_
  refine lv_isub hx hb dX3_bitAt_11 ?_
  refine j_ishr hx hb dX3_bitAt_12 ?_
  refine lv_iconst (v := 1) hx hb dX3_bitAt_13 rfl ?_
  refine lv_iand hx hb dX3_bitAt_14 ?_
  cases hrun
  exact rS_i C hr hlk hQ (nbi _) rfl dX3_bitAt_15

abbrev rm3_become : Room := { frames := 1, cells := 0, slots := 0, locals := 21 }
theorem fl3_become_15 : Cond.fieldLink RX3 15 "RiverWords$Word" "bits" "I" ∈ wsX3_become := by decide +kernel
theorem fl3_become_19 : Cond.fieldLink RX3 19 "RiverWords$Word" "size" "I" ∈ wsX3_become := by decide +kernel
theorem fl3_become_22 : Cond.fieldLink RX3 22 "RiverWords$Word" "allBits" "I" ∈ wsX3_become := by decide +kernel
theorem fl3_become_25 : Cond.fieldLink RX3 25 "RiverWords$Word" "a" "I" ∈ wsX3_become := by decide +kernel
theorem fl3_become_28 : Cond.fieldLink RX3 28 "RiverWords$Word" "b" "I" ∈ wsX3_become := by decide +kernel
theorem fl3_become_31 : Cond.fieldLink RX3 31 "RiverWords$Word" "c" "I" ∈ wsX3_become := by decide +kernel
theorem fl3_become_34 : Cond.fieldLink RX3 34 "RiverWords$Word" "d" "I" ∈ wsX3_become := by decide +kernel
theorem inm3_become_X3 : ∀ w ∈ wsX30, w ∈ wsX3_become := by decide +kernel
theorem hd3_become : okD yX3_become 2 := by decide +kernel
set_option maxHeartbeats 8000000 in
set_option maxRecDepth 100000 in
theorem c3_become {x1 : Int32} {x2 : Int32} {res : Int32 × Int32 × Int32 × Int32 × Int32 × Int32 × Int32} (hi : i < w.length) (hrun : P3_become x1 x2 = some res) : Met l yX3_become wsX3_become rm3_become (va_Pc [.ref h0, .int x1, .int x2] (PE D tys sz (wW w i h0 0 0 0 0 0 0 0) (wW w i h0 v_bits v_size v_allBits v_a v_b v_c v_d))) (va_Qv (fun _ : Unit => True) (fun _ t => va_P D vwCl (wW w i h0 res.1 res.2.1 res.2.2.1 res.2.2.2.1 res.2.2.2.2.1 res.2.2.2.2.2.1 res.2.2.2.2.2.2) t.heap) (va_A (wW w i h0 0 0 0 0 0 0 0) sz)) 0 0 (va_A (wW w i h0 0 0 0 0 0 0 0) sz) := by
  refine E_in (cc := cX3_become) (maxL := 4) (ret := none) (by decide) rfl (Nat.le_of_ble_eq_true rfl) ?_
  intro p e s m args below meth c ls Q hQ C hr hlk hK hN hD hA I hl
  have C : CallFix p m c cX3_become 4 s args wsX3_become RX3 := C
  have hx := C.1
  have hb := C.2.1
  have hl : lv_has ls 4 [(0, .ref h0), (1, .int x1), (2, .int x2)] := hl
  have loop_41 : ∀ (v_bits : Int32) (v_size : Int32) (v_allBits : Int32) (n : Nat) (v_a : Int32) (v_b : Int32) (v_c : Int32) (v_d : Int32) (x3 : Int32) (out : Int32 × Int32 × Int32 × Int32), P3_become_41 v_bits v_size n v_a v_b v_c v_d x3 = some out → (∀ (H : Heap) (locs : List Loc) (ls : Array Slot), IM D (va_A (wW w i h0 0 0 0 0 0 0 0) sz) s.heap H locs (wW w i h0 v_bits v_size v_allBits out.1 out.2.1 out.2.2.1 out.2.2.2) → lv_has ls 4 [] → W p l e rm3_become s m args below meth c H locs 0 0 Q (F0 m 119 ls [])) → ∀ (H : Heap) (locs : List Loc) (ls : Array Slot), IM D (va_A (wW w i h0 0 0 0 0 0 0 0) sz) s.heap H locs (wW w i h0 v_bits v_size v_allBits v_a v_b v_c v_d) → lv_has ls 4 [(0, .ref h0), (3, .int x3)] → W p l e rm3_become s m args below meth c H locs 0 0 Q (F0 m 41 ls []) := by
    intro v_bits v_size v_allBits n
    induction n with
    | zero =>
      intro v_a v_b v_c v_d x3 out hrun K H locs ls I hl
      cases hrun
    | succ n ih =>
      intro v_a v_b v_c v_d x3 out hrun K H locs ls I hl
      rw [P3_become_41] at hrun
      refine lv_iload_n hx hb dX3_become_41 rfl (lv_at hl 1 rfl) ?_
      refine lv_aload_n hx hb dX3_become_42 rfl (lv_at hl 0 rfl) ?_
      refine gWE_size hi C inm3_become_X3 hK I.1 fl3_become_19 dX3_become_43 ?_
      refine lv_icmp_ge (tgt := 119) hx hb dX3_become_46 rfl (fun c1 => ?_) (fun c1 => ?_)
      · have hrun := p_pos hrun c1
        cases hrun
        exact K _ _ _ I (lv_sub hl [] rfl)
      · have hrun := p_neg hrun c1
        refine lv_aload_n hx hb dX3_become_49 rfl (lv_at hl 0 rfl) ?_
        refine lv_iload_n hx hb dX3_become_50 rfl (lv_at hl 1 rfl) ?_
        obtain ⟨r2, h_r2, hrun⟩ := p_bnd hrun
        refine jVS_i (rest := []) C (c3_bitAt (wW_get hi) h_r2) gX3_become_X3_bitAt hd3_bitAt hK hN I.1 ⟨_, 3, _, _, (wW_get hi), rfl, rfl⟩ rfl ⟨rfl, rfl⟩ ⟨Nat.le_of_ble_eq_true rfl, Nat.le_of_ble_eq_true rfl⟩ rfl hl.1 rfl (Nat.le_of_ble_eq_true rfl) ⟨Nat.le_of_ble_eq_true rfl, Nat.le_of_ble_eq_true rfl⟩ dX3_become_51 ?_
        refine lv_iconst (v := 1) hx hb dX3_become_54 rfl ?_
        refine lv_icmp_ne (tgt := 87) hx hb dX3_become_55 rfl (fun c3 => ?_) (fun c3 => ?_)
        · have hrun := p_neg hrun c3
          refine lv_aload_n hx hb dX3_become_87 rfl (lv_at hl 0 rfl) ?_
          refine lv_dup hx hb dX3_become_88 rfl ?_
          refine gWE_a hi C inm3_become_X3 hK I.1 fl3_become_25 dX3_become_89 ?_
          refine lv_aload_n hx hb dX3_become_92 rfl (lv_at hl 0 rfl) ?_
          refine gWE_b hi C inm3_become_X3 hK I.1 fl3_become_28 dX3_become_93 ?_
          refine lv_iadd hx hb dX3_become_96 ?_
          refine pWE_a hi C inm3_become_X3 hK hD I fl3_become_25 dX3_become_97 (fun H locs I => ?_)
          refine lv_aload_n hx hb dX3_become_100 rfl (lv_at hl 0 rfl) ?_
          refine lv_dup hx hb dX3_become_101 rfl ?_
          refine gWE_c hi C inm3_become_X3 hK I.1 fl3_become_31 dX3_become_102 ?_
          refine lv_aload_n hx hb dX3_become_105 rfl (lv_at hl 0 rfl) ?_
          refine gWE_d hi C inm3_become_X3 hK I.1 fl3_become_34 dX3_become_106 ?_
          refine lv_iadd hx hb dX3_become_109 ?_
          refine pWE_c hi C inm3_become_X3 hK hD I fl3_become_31 dX3_become_110 (fun H locs I => ?_)
          refine lv_iinc (v := x3 + 1) (lv' := [(3, .int (x3 + 1)), (0, .ref h0)]) hx hb dX3_become_113 hl (k := 1) rfl rfl (by decide) rfl (fun ls hl => ?_)
          refine lv_goto (tgt := 41) hx hb dX3_become_116 rfl ?_
          exact ih (v_a + v_b) v_b (v_c + v_d) v_d (x3 + 1) out hrun K _ _ _ I (lv_sub hl [1, 0] rfl)
        · have hrun := p_pos hrun c3
          refine lv_aload_n hx hb dX3_become_58 rfl (lv_at hl 0 rfl) ?_
          refine lv_dup hx hb dX3_become_59 rfl ?_
          refine gWE_b hi C inm3_become_X3 hK I.1 fl3_become_28 dX3_become_60 ?_
          refine lv_aload_n hx hb dX3_become_63 rfl (lv_at hl 0 rfl) ?_
          refine gWE_a hi C inm3_become_X3 hK I.1 fl3_become_25 dX3_become_64 ?_
          refine lv_iadd hx hb dX3_become_67 ?_
          refine pWE_b hi C inm3_become_X3 hK hD I fl3_become_28 dX3_become_68 (fun H locs I => ?_)
          refine lv_aload_n hx hb dX3_become_71 rfl (lv_at hl 0 rfl) ?_
          refine lv_dup hx hb dX3_become_72 rfl ?_
          refine gWE_d hi C inm3_become_X3 hK I.1 fl3_become_34 dX3_become_73 ?_
          refine lv_aload_n hx hb dX3_become_76 rfl (lv_at hl 0 rfl) ?_
          refine gWE_c hi C inm3_become_X3 hK I.1 fl3_become_31 dX3_become_77 ?_
          refine lv_iadd hx hb dX3_become_80 ?_
          refine pWE_d hi C inm3_become_X3 hK hD I fl3_become_34 dX3_become_81 (fun H locs I => ?_)
          refine lv_goto (tgt := 113) hx hb dX3_become_84 rfl ?_
          refine lv_iinc (v := x3 + 1) (lv' := [(3, .int (x3 + 1)), (0, .ref h0)]) hx hb dX3_become_113 hl (k := 1) rfl rfl (by decide) rfl (fun ls hl => ?_)
          refine lv_goto (tgt := 41) hx hb dX3_become_116 rfl ?_
          exact ih v_a (v_b + v_a) v_c (v_d + v_c) (x3 + 1) out hrun K _ _ _ I (lv_sub hl [1, 0] rfl)
  unfold P3_become at hrun
  refine lv_aload_n hx hb dX3_become_0 rfl (lv_at hl 0 rfl) ?_
  refine lv_iload_n hx hb dX3_become_1 rfl (lv_at hl 1 rfl) ?_
  refine pWE_bits hi C inm3_become_X3 hK hD I fl3_become_15 dX3_become_2 (fun H locs I => ?_)
  refine lv_aload_n hx hb dX3_become_5 rfl (lv_at hl 0 rfl) ?_
  refine lv_iload_n hx hb dX3_become_6 rfl (lv_at hl 2 rfl) ?_
  refine pWE_size hi C inm3_become_X3 hK hD I fl3_become_19 dX3_become_7 (fun H locs I => ?_)
  refine lv_aload_n hx hb dX3_become_10 rfl (lv_at hl 0 rfl) ?_
  refine lv_iconst (v := 1) hx hb dX3_become_11 rfl ?_
  refine lv_iload_n hx hb dX3_become_12 rfl (lv_at hl 2 rfl) ?_
  refine j_ishl hx hb dX3_become_13 ?_
  refine lv_iconst (v := 1) hx hb dX3_become_14 rfl ?_
  refine lv_isub hx hb dX3_become_15 ?_
  refine pWE_allBits hi C inm3_become_X3 hK hD I fl3_become_22 dX3_become_16 (fun H locs I => ?_)
  refine lv_aload_n hx hb dX3_become_19 rfl (lv_at hl 0 rfl) ?_
  refine lv_iconst (v := 1) hx hb dX3_become_20 rfl ?_
  refine pWE_a hi C inm3_become_X3 hK hD I fl3_become_25 dX3_become_21 (fun H locs I => ?_)
  refine lv_aload_n hx hb dX3_become_24 rfl (lv_at hl 0 rfl) ?_
  refine lv_iconst (v := 0) hx hb dX3_become_25 rfl ?_
  refine pWE_b hi C inm3_become_X3 hK hD I fl3_become_28 dX3_become_26 (fun H locs I => ?_)
  refine lv_aload_n hx hb dX3_become_29 rfl (lv_at hl 0 rfl) ?_
  refine lv_iconst (v := 0) hx hb dX3_become_30 rfl ?_
  refine pWE_c hi C inm3_become_X3 hK hD I fl3_become_31 dX3_become_31 (fun H locs I => ?_)
  refine lv_aload_n hx hb dX3_become_34 rfl (lv_at hl 0 rfl) ?_
  refine lv_iconst (v := 1) hx hb dX3_become_35 rfl ?_
  refine pWE_d hi C inm3_become_X3 hK hD I fl3_become_34 dX3_become_36 (fun H locs I => ?_)
  refine lv_iconst (v := 0) hx hb dX3_become_39 rfl ?_
  refine lv_istore_n (lv' := [(3, .int 0), (0, .ref h0), (1, .int x1), (2, .int x2)]) hx hb dX3_become_40 rfl hl (by decide) rfl (fun ls hl => ?_)
  obtain ⟨o4, h_o4, hrun⟩ := p_bnd hrun
  refine loop_41 x1 x2 ((jshl 1 x2) - 1) FU 1 0 0 1 0 o4 h_o4 (fun H locs ls I hl => ?_) _ _ _ I (lv_sub hl [1, 0] rfl)
  cases hrun
  exact rE_v C hr hlk hQ I dX3_become_119

abbrev rm3_isClosed : Room := { frames := 0, cells := 0, slots := 0, locals := 0 }
theorem fl3_isClosed_15 : Cond.fieldLink RX3 15 "RiverWords$Word" "bits" "I" ∈ wsX3_isClosed := by decide +kernel
theorem fl3_isClosed_22 : Cond.fieldLink RX3 22 "RiverWords$Word" "allBits" "I" ∈ wsX3_isClosed := by decide +kernel
theorem inm3_isClosed_X3 : ∀ w ∈ wsX30, w ∈ wsX3_isClosed := by decide +kernel
theorem hd3_isClosed : okD yX3_isClosed 0 := by decide +kernel
set_option maxHeartbeats 8000000 in
set_option maxRecDepth 100000 in
theorem c3_isClosed {res : Int32} (hi : w[i]? = some (h0, .inr (3, wl v_bits v_size v_allBits v_a v_b v_c v_d))) (hrun : P3_isClosed v_bits v_allBits = some res) : Met l yX3_isClosed wsX3_isClosed rm3_isClosed (va_Pc [.ref h0] (PS D tys w)) (vp_Si (fun x => x = res)) 0 0 (fun _ => False) := by
  refine S_in (cc := cX3_isClosed) (maxL := 1) (ret := (some .boolean)) (by decide) rfl (Nat.le_of_ble_eq_true rfl) ?_
  intro p e s m args below meth c ls Q hQ C hr hlk hK hN hP hl
  have C : CallFix p m c cX3_isClosed 1 s args wsX3_isClosed RX3 := C
  have hx := C.1
  have hb := C.2.1
  have hl : lv_has ls 1 [(0, .ref h0)] := hl
  unfold P3_isClosed at hrun
  refine lv_aload_n hx hb dX3_isClosed_0 rfl (lv_at hl 0 rfl) ?_
  refine gW_bits hi C inm3_isClosed_X3 hK hP fl3_isClosed_15 dX3_isClosed_1 ?_
  refine lv_if_eq (tgt := 22) hx hb dX3_isClosed_4 rfl (fun c1 => ?_) (fun c1 => ?_)
  · have hrun := p_pos hrun c1
    refine lv_iconst (v := 0) hx hb dX3_isClosed_22 rfl ?_
    cases hrun
    exact rS_i C hr hlk hQ (nb01 (Or.inl rfl)) rfl dX3_isClosed_23
  · have hrun := p_neg hrun c1
    refine lv_aload_n hx hb dX3_isClosed_7 rfl (lv_at hl 0 rfl) ?_
    refine gW_bits hi C inm3_isClosed_X3 hK hP fl3_isClosed_15 dX3_isClosed_8 ?_
    refine lv_aload_n hx hb dX3_isClosed_11 rfl (lv_at hl 0 rfl) ?_
    refine gW_allBits hi C inm3_isClosed_X3 hK hP fl3_isClosed_22 dX3_isClosed_12 ?_
    refine lv_icmp_eq (tgt := 22) hx hb dX3_isClosed_15 rfl (fun c2 => ?_) (fun c2 => ?_)
    · have hrun := p_pos hrun c2
      refine lv_iconst (v := 0) hx hb dX3_isClosed_22 rfl ?_
      cases hrun
      exact rS_i C hr hlk hQ (nb01 (Or.inl rfl)) rfl dX3_isClosed_23
    · have hrun := p_neg hrun c2
      refine lv_iconst (v := 1) hx hb dX3_isClosed_18 rfl ?_
      refine lv_goto (tgt := 23) hx hb dX3_isClosed_19 rfl ?_
      cases hrun
      exact rS_i C hr hlk hQ (nb01 (Or.inr rfl)) rfl dX3_isClosed_23

abbrev rm3_traceSum : Room := { frames := 0, cells := 0, slots := 0, locals := 0 }
theorem fl3_traceSum_25 : Cond.fieldLink RX3 25 "RiverWords$Word" "a" "I" ∈ wsX3_traceSum := by decide +kernel
theorem fl3_traceSum_34 : Cond.fieldLink RX3 34 "RiverWords$Word" "d" "I" ∈ wsX3_traceSum := by decide +kernel
theorem inm3_traceSum_X3 : ∀ w ∈ wsX30, w ∈ wsX3_traceSum := by decide +kernel
theorem hd3_traceSum : okD yX3_traceSum 0 := by decide +kernel
set_option maxHeartbeats 8000000 in
set_option maxRecDepth 100000 in
theorem c3_traceSum {res : Int32} (hi : w[i]? = some (h0, .inr (3, wl v_bits v_size v_allBits v_a v_b v_c v_d))) (hrun : P3_traceSum v_a v_d = some res) : Met l yX3_traceSum wsX3_traceSum rm3_traceSum (va_Pc [.ref h0] (PS D tys w)) (vp_Si (fun x => x = res)) 0 0 (fun _ => False) := by
  refine S_in (cc := cX3_traceSum) (maxL := 1) (ret := (some .int)) (by decide) rfl (Nat.le_of_ble_eq_true rfl) ?_
  intro p e s m args below meth c ls Q hQ C hr hlk hK hN hP hl
  have C : CallFix p m c cX3_traceSum 1 s args wsX3_traceSum RX3 := C
  have hx := C.1
  have hb := C.2.1
  have hl : lv_has ls 1 [(0, .ref h0)] := hl
  unfold P3_traceSum at hrun
  refine lv_aload_n hx hb dX3_traceSum_0 rfl (lv_at hl 0 rfl) ?_
  refine gW_a hi C inm3_traceSum_X3 hK hP fl3_traceSum_25 dX3_traceSum_1 ?_
  refine lv_aload_n hx hb dX3_traceSum_4 rfl (lv_at hl 0 rfl) ?_
  refine gW_d hi C inm3_traceSum_X3 hK hP fl3_traceSum_34 dX3_traceSum_5 ?_
  refine lv_iadd hx hb dX3_traceSum_8 ?_
  cases hrun
  exact rS_i C hr hlk hQ (nbi _) rfl dX3_traceSum_9

abbrev rm3_crosses : Room := { frames := 1, cells := 0, slots := 0, locals := 21 }
theorem fl3_crosses_19 : Cond.fieldLink RX3 19 "RiverWords$Word" "size" "I" ∈ wsX3_crosses := by decide +kernel
theorem inm3_crosses_X3 : ∀ w ∈ wsX30, w ∈ wsX3_crosses := by decide +kernel
theorem hd3_crosses : okD yX3_crosses 3 := by decide +kernel
set_option maxHeartbeats 8000000 in
set_option maxRecDepth 100000 in
theorem c3_crosses {x1 : Int32} {x3 : Int32} {res : Int32} (hi : w[i]? = some (h0, .inr (3, wl v_bits v_size v_allBits v_a v_b v_c v_d))) (hi2 : w[i2]? = some (h1, .inr (3, wl v_o_bits v_o_size v_o_allBits v_o_a v_o_b v_o_c v_o_d))) (hrun : P3_crosses v_bits v_size v_o_bits v_o_size x1 x3 = some res) : Met l yX3_crosses wsX3_crosses rm3_crosses (va_Pc [.ref h0, .int x1, .ref h1, .int x3] (PS D tys w)) (vp_Si (fun x => x = res)) 0 0 (fun _ => False) := by
  refine S_in (cc := cX3_crosses) (maxL := 7) (ret := (some .boolean)) (by decide) rfl (Nat.le_of_ble_eq_true rfl) ?_
  intro p e s m args below meth c ls Q hQ C hr hlk hK hN hP hl
  have C : CallFix p m c cX3_crosses 7 s args wsX3_crosses RX3 := C
  have hx := C.1
  have hb := C.2.1
  have hl : lv_has ls 7 [(0, .ref h0), (1, .int x1), (2, .ref h1), (3, .int x3)] := hl
  have loop_17 : ∀ (n : Nat) (x4 : Int32) (x5 : Int32) (x6 : Int32), P3_crosses_17 v_bits v_size v_o_bits v_o_size x1 n x4 x5 x6 = some res → ∀ (ls : Array Slot), lv_has ls 7 [(0, .ref h0), (1, .int x1), (2, .ref h1), (4, .int x4), (5, .int x5), (6, .int x6)] → W p l e rm3_crosses s m args below meth c s.heap [] 0 0 Q (F0 m 17 ls []) := by
    intro n
    induction n with
    | zero =>
      intro x4 x5 x6 hrun ls hl
      cases hrun
    | succ n ih =>
      intro x4 x5 x6 hrun ls hl
      rw [P3_crosses_17] at hrun
      refine lv_iload hx hb dX3_crosses_17 (lv_at hl 5 rfl) ?_
      refine lv_if_le (tgt := 103) hx hb dX3_crosses_19 rfl (fun c1 => ?_) (fun c1 => ?_)
      · have hrun := p_pos hrun c1
        refine lv_iconst (v := 0) hx hb dX3_crosses_103 rfl ?_
        cases hrun
        exact rS_i C hr hlk hQ (nb01 (Or.inl rfl)) rfl dX3_crosses_104
      · have hrun := p_neg hrun c1
        refine lv_iload hx hb dX3_crosses_22 (lv_at hl 3 rfl) ?_
        refine lv_if_le (tgt := 34) hx hb dX3_crosses_24 rfl (fun c2 => ?_) (fun c2 => ?_)
        · have hrun := p_pos hrun c2
          refine lv_aload_n hx hb dX3_crosses_34 rfl (lv_at hl 0 rfl) ?_
          refine gW_size hi C inm3_crosses_X3 hK hP fl3_crosses_19 dX3_crosses_35 ?_
          refine lv_iconst (v := 1) hx hb dX3_crosses_38 rfl ?_
          refine lv_isub hx hb dX3_crosses_39 ?_
          refine lv_istore (lv' := [(4, .int (v_size - 1)), (0, .ref h0), (1, .int x1), (2, .ref h1), (5, .int x5), (6, .int x6)]) hx hb dX3_crosses_40 hl (by decide) rfl (fun ls hl => ?_)
          refine lv_iload hx hb dX3_crosses_42 (lv_at hl 4 rfl) ?_
          refine lv_if_le (tgt := 54) hx hb dX3_crosses_44 rfl (fun c3 => ?_) (fun c3 => ?_)
          · have hrun := p_pos hrun c3
            refine lv_aload_n hx hb dX3_crosses_54 rfl (lv_at hl 3 rfl) ?_
            refine gW_size hi2 C inm3_crosses_X3 hK hP fl3_crosses_19 dX3_crosses_55 ?_
            refine lv_iconst (v := 1) hx hb dX3_crosses_58 rfl ?_
            refine lv_isub hx hb dX3_crosses_59 ?_
            refine lv_istore (lv' := [(5, .int (v_o_size - 1)), (4, .int (v_size - 1)), (0, .ref h0), (1, .int x1), (2, .ref h1), (6, .int x6)]) hx hb dX3_crosses_60 hl (by decide) rfl (fun ls hl => ?_)
            refine lv_aload_n hx hb dX3_crosses_62 rfl (lv_at hl 2 rfl) ?_
            refine lv_iload hx hb dX3_crosses_63 (lv_at hl 1 rfl) ?_
            obtain ⟨r4, h_r4, hrun⟩ := p_bnd hrun
            refine jVS_i (rest := []) C (c3_bitAt hi h_r4) gX3_crosses_X3_bitAt hd3_bitAt hK hN hP ⟨_, 3, _, _, hi, rfl, rfl⟩ rfl ⟨rfl, rfl⟩ ⟨Nat.le_of_ble_eq_true rfl, Nat.le_of_ble_eq_true rfl⟩ rfl hl.1 rfl (Nat.le_of_ble_eq_true rfl) ⟨Nat.le_of_ble_eq_true rfl, Nat.le_of_ble_eq_true rfl⟩ dX3_crosses_65 ?_
            refine lv_aload_n hx hb dX3_crosses_68 rfl (lv_at hl 4 rfl) ?_
            refine lv_iload hx hb dX3_crosses_69 (lv_at hl 0 rfl) ?_
            obtain ⟨r5, h_r5, hrun⟩ := p_bnd hrun
            refine jVS_i (rest := [.int r4]) C (c3_bitAt hi2 h_r5) gX3_crosses_X3_bitAt hd3_bitAt hK hN hP ⟨_, 3, _, _, hi2, rfl, rfl⟩ rfl ⟨rfl, rfl⟩ ⟨Nat.le_of_ble_eq_true rfl, Nat.le_of_ble_eq_true rfl⟩ rfl hl.1 rfl (Nat.le_of_ble_eq_true rfl) ⟨Nat.le_of_ble_eq_true rfl, Nat.le_of_ble_eq_true rfl⟩ dX3_crosses_71 ?_
            refine lv_icmp_eq (tgt := 97) hx hb dX3_crosses_74 rfl (fun c6 => ?_) (fun c6 => ?_)
            · have hrun := p_pos hrun c6
              refine lv_iinc (v := x6 + (-1)) (lv' := [(6, .int (x6 + (-1))), (5, .int (v_o_size - 1)), (4, .int (v_size - 1)), (0, .ref h0), (1, .int x1), (2, .ref h1)]) hx hb dX3_crosses_97 hl (k := 5) rfl rfl (by decide) rfl (fun ls hl => ?_)
              refine lv_goto (tgt := 17) hx hb dX3_crosses_100 rfl ?_
              exact ih (v_size - 1) (v_o_size - 1) (x6 + (-1)) hrun _ (lv_sub hl [3, 4, 5, 2, 1, 0] rfl)
            · have hrun := p_neg hrun c6
              refine lv_aload_n hx hb dX3_crosses_77 rfl (lv_at hl 2 rfl) ?_
              refine lv_iload hx hb dX3_crosses_78 (lv_at hl 1 rfl) ?_
              obtain ⟨r7, h_r7, hrun⟩ := p_bnd hrun
              refine jVS_i (rest := []) C (c3_bitAt hi h_r7) gX3_crosses_X3_bitAt hd3_bitAt hK hN hP ⟨_, 3, _, _, hi, rfl, rfl⟩ rfl ⟨rfl, rfl⟩ ⟨Nat.le_of_ble_eq_true rfl, Nat.le_of_ble_eq_true rfl⟩ rfl hl.1 rfl (Nat.le_of_ble_eq_true rfl) ⟨Nat.le_of_ble_eq_true rfl, Nat.le_of_ble_eq_true rfl⟩ dX3_crosses_80 ?_
              refine lv_aload_n hx hb dX3_crosses_83 rfl (lv_at hl 2 rfl) ?_
              refine lv_iload_n hx hb dX3_crosses_84 rfl (lv_at hl 3 rfl) ?_
              obtain ⟨r8, h_r8, hrun⟩ := p_bnd hrun
              refine jVS_i (rest := [.int r7]) C (c3_bitAt hi h_r8) gX3_crosses_X3_bitAt hd3_bitAt hK hN hP ⟨_, 3, _, _, hi, rfl, rfl⟩ rfl ⟨rfl, rfl⟩ ⟨Nat.le_of_ble_eq_true rfl, Nat.le_of_ble_eq_true rfl⟩ rfl hl.1 rfl (Nat.le_of_ble_eq_true rfl) ⟨Nat.le_of_ble_eq_true rfl, Nat.le_of_ble_eq_true rfl⟩ dX3_crosses_85 ?_
              refine lv_icmp_eq (tgt := 95) hx hb dX3_crosses_88 rfl (fun c9 => ?_) (fun c9 => ?_)
              · have hrun := p_pos hrun c9
                refine lv_iconst (v := 0) hx hb dX3_crosses_95 rfl ?_
                cases hrun
                exact rS_i C hr hlk hQ (nb01 (Or.inl rfl)) rfl dX3_crosses_96
              · have hrun := p_neg hrun c9
                refine lv_iconst (v := 1) hx hb dX3_crosses_91 rfl ?_
                refine lv_goto (tgt := 96) hx hb dX3_crosses_92 rfl ?_
                cases hrun
                exact rS_i C hr hlk hQ (nb01 (Or.inr rfl)) rfl dX3_crosses_96
          · have hrun := p_neg hrun c3
            refine lv_iload hx hb dX3_crosses_47 (lv_at hl 4 rfl) ?_
            refine lv_iconst (v := 1) hx hb dX3_crosses_49 rfl ?_
            refine lv_isub hx hb dX3_crosses_50 ?_
            refine lv_goto (tgt := 60) hx hb dX3_crosses_51 rfl ?_
            refine lv_istore (lv' := [(5, .int (x5 - 1)), (4, .int (v_size - 1)), (0, .ref h0), (1, .int x1), (2, .ref h1), (6, .int x6)]) hx hb dX3_crosses_60 hl (by decide) rfl (fun ls hl => ?_)
            refine lv_aload_n hx hb dX3_crosses_62 rfl (lv_at hl 2 rfl) ?_
            refine lv_iload hx hb dX3_crosses_63 (lv_at hl 1 rfl) ?_
            obtain ⟨r10, h_r10, hrun⟩ := p_bnd hrun
            refine jVS_i (rest := []) C (c3_bitAt hi h_r10) gX3_crosses_X3_bitAt hd3_bitAt hK hN hP ⟨_, 3, _, _, hi, rfl, rfl⟩ rfl ⟨rfl, rfl⟩ ⟨Nat.le_of_ble_eq_true rfl, Nat.le_of_ble_eq_true rfl⟩ rfl hl.1 rfl (Nat.le_of_ble_eq_true rfl) ⟨Nat.le_of_ble_eq_true rfl, Nat.le_of_ble_eq_true rfl⟩ dX3_crosses_65 ?_
            refine lv_aload_n hx hb dX3_crosses_68 rfl (lv_at hl 4 rfl) ?_
            refine lv_iload hx hb dX3_crosses_69 (lv_at hl 0 rfl) ?_
            obtain ⟨r11, h_r11, hrun⟩ := p_bnd hrun
            refine jVS_i (rest := [.int r10]) C (c3_bitAt hi2 h_r11) gX3_crosses_X3_bitAt hd3_bitAt hK hN hP ⟨_, 3, _, _, hi2, rfl, rfl⟩ rfl ⟨rfl, rfl⟩ ⟨Nat.le_of_ble_eq_true rfl, Nat.le_of_ble_eq_true rfl⟩ rfl hl.1 rfl (Nat.le_of_ble_eq_true rfl) ⟨Nat.le_of_ble_eq_true rfl, Nat.le_of_ble_eq_true rfl⟩ dX3_crosses_71 ?_
            refine lv_icmp_eq (tgt := 97) hx hb dX3_crosses_74 rfl (fun c12 => ?_) (fun c12 => ?_)
            · have hrun := p_pos hrun c12
              refine lv_iinc (v := x6 + (-1)) (lv' := [(6, .int (x6 + (-1))), (5, .int (x5 - 1)), (4, .int (v_size - 1)), (0, .ref h0), (1, .int x1), (2, .ref h1)]) hx hb dX3_crosses_97 hl (k := 5) rfl rfl (by decide) rfl (fun ls hl => ?_)
              refine lv_goto (tgt := 17) hx hb dX3_crosses_100 rfl ?_
              exact ih (v_size - 1) (x5 - 1) (x6 + (-1)) hrun _ (lv_sub hl [3, 4, 5, 2, 1, 0] rfl)
            · have hrun := p_neg hrun c12
              refine lv_aload_n hx hb dX3_crosses_77 rfl (lv_at hl 2 rfl) ?_
              refine lv_iload hx hb dX3_crosses_78 (lv_at hl 1 rfl) ?_
              obtain ⟨r13, h_r13, hrun⟩ := p_bnd hrun
              refine jVS_i (rest := []) C (c3_bitAt hi h_r13) gX3_crosses_X3_bitAt hd3_bitAt hK hN hP ⟨_, 3, _, _, hi, rfl, rfl⟩ rfl ⟨rfl, rfl⟩ ⟨Nat.le_of_ble_eq_true rfl, Nat.le_of_ble_eq_true rfl⟩ rfl hl.1 rfl (Nat.le_of_ble_eq_true rfl) ⟨Nat.le_of_ble_eq_true rfl, Nat.le_of_ble_eq_true rfl⟩ dX3_crosses_80 ?_
              refine lv_aload_n hx hb dX3_crosses_83 rfl (lv_at hl 2 rfl) ?_
              refine lv_iload_n hx hb dX3_crosses_84 rfl (lv_at hl 3 rfl) ?_
              obtain ⟨r14, h_r14, hrun⟩ := p_bnd hrun
              refine jVS_i (rest := [.int r13]) C (c3_bitAt hi h_r14) gX3_crosses_X3_bitAt hd3_bitAt hK hN hP ⟨_, 3, _, _, hi, rfl, rfl⟩ rfl ⟨rfl, rfl⟩ ⟨Nat.le_of_ble_eq_true rfl, Nat.le_of_ble_eq_true rfl⟩ rfl hl.1 rfl (Nat.le_of_ble_eq_true rfl) ⟨Nat.le_of_ble_eq_true rfl, Nat.le_of_ble_eq_true rfl⟩ dX3_crosses_85 ?_
              refine lv_icmp_eq (tgt := 95) hx hb dX3_crosses_88 rfl (fun c15 => ?_) (fun c15 => ?_)
              · have hrun := p_pos hrun c15
                refine lv_iconst (v := 0) hx hb dX3_crosses_95 rfl ?_
                cases hrun
                exact rS_i C hr hlk hQ (nb01 (Or.inl rfl)) rfl dX3_crosses_96
              · have hrun := p_neg hrun c15
                refine lv_iconst (v := 1) hx hb dX3_crosses_91 rfl ?_
                refine lv_goto (tgt := 96) hx hb dX3_crosses_92 rfl ?_
                cases hrun
                exact rS_i C hr hlk hQ (nb01 (Or.inr rfl)) rfl dX3_crosses_96
        · have hrun := p_neg hrun c2
          refine lv_iload hx hb dX3_crosses_27 (lv_at hl 3 rfl) ?_
          refine lv_iconst (v := 1) hx hb dX3_crosses_29 rfl ?_
          refine lv_isub hx hb dX3_crosses_30 ?_
          refine lv_goto (tgt := 40) hx hb dX3_crosses_31 rfl ?_
          refine lv_istore (lv' := [(4, .int (x4 - 1)), (0, .ref h0), (1, .int x1), (2, .ref h1), (5, .int x5), (6, .int x6)]) hx hb dX3_crosses_40 hl (by decide) rfl (fun ls hl => ?_)
          refine lv_iload hx hb dX3_crosses_42 (lv_at hl 4 rfl) ?_
          refine lv_if_le (tgt := 54) hx hb dX3_crosses_44 rfl (fun c16 => ?_) (fun c16 => ?_)
          · have hrun := p_pos hrun c16
            refine lv_aload_n hx hb dX3_crosses_54 rfl (lv_at hl 3 rfl) ?_
            refine gW_size hi2 C inm3_crosses_X3 hK hP fl3_crosses_19 dX3_crosses_55 ?_
            refine lv_iconst (v := 1) hx hb dX3_crosses_58 rfl ?_
            refine lv_isub hx hb dX3_crosses_59 ?_
            refine lv_istore (lv' := [(5, .int (v_o_size - 1)), (4, .int (x4 - 1)), (0, .ref h0), (1, .int x1), (2, .ref h1), (6, .int x6)]) hx hb dX3_crosses_60 hl (by decide) rfl (fun ls hl => ?_)
            refine lv_aload_n hx hb dX3_crosses_62 rfl (lv_at hl 2 rfl) ?_
            refine lv_iload hx hb dX3_crosses_63 (lv_at hl 1 rfl) ?_
            obtain ⟨r17, h_r17, hrun⟩ := p_bnd hrun
            refine jVS_i (rest := []) C (c3_bitAt hi h_r17) gX3_crosses_X3_bitAt hd3_bitAt hK hN hP ⟨_, 3, _, _, hi, rfl, rfl⟩ rfl ⟨rfl, rfl⟩ ⟨Nat.le_of_ble_eq_true rfl, Nat.le_of_ble_eq_true rfl⟩ rfl hl.1 rfl (Nat.le_of_ble_eq_true rfl) ⟨Nat.le_of_ble_eq_true rfl, Nat.le_of_ble_eq_true rfl⟩ dX3_crosses_65 ?_
            refine lv_aload_n hx hb dX3_crosses_68 rfl (lv_at hl 4 rfl) ?_
            refine lv_iload hx hb dX3_crosses_69 (lv_at hl 0 rfl) ?_
            obtain ⟨r18, h_r18, hrun⟩ := p_bnd hrun
            refine jVS_i (rest := [.int r17]) C (c3_bitAt hi2 h_r18) gX3_crosses_X3_bitAt hd3_bitAt hK hN hP ⟨_, 3, _, _, hi2, rfl, rfl⟩ rfl ⟨rfl, rfl⟩ ⟨Nat.le_of_ble_eq_true rfl, Nat.le_of_ble_eq_true rfl⟩ rfl hl.1 rfl (Nat.le_of_ble_eq_true rfl) ⟨Nat.le_of_ble_eq_true rfl, Nat.le_of_ble_eq_true rfl⟩ dX3_crosses_71 ?_
            refine lv_icmp_eq (tgt := 97) hx hb dX3_crosses_74 rfl (fun c19 => ?_) (fun c19 => ?_)
            · have hrun := p_pos hrun c19
              refine lv_iinc (v := x6 + (-1)) (lv' := [(6, .int (x6 + (-1))), (5, .int (v_o_size - 1)), (4, .int (x4 - 1)), (0, .ref h0), (1, .int x1), (2, .ref h1)]) hx hb dX3_crosses_97 hl (k := 5) rfl rfl (by decide) rfl (fun ls hl => ?_)
              refine lv_goto (tgt := 17) hx hb dX3_crosses_100 rfl ?_
              exact ih (x4 - 1) (v_o_size - 1) (x6 + (-1)) hrun _ (lv_sub hl [3, 4, 5, 2, 1, 0] rfl)
            · have hrun := p_neg hrun c19
              refine lv_aload_n hx hb dX3_crosses_77 rfl (lv_at hl 2 rfl) ?_
              refine lv_iload hx hb dX3_crosses_78 (lv_at hl 1 rfl) ?_
              obtain ⟨r20, h_r20, hrun⟩ := p_bnd hrun
              refine jVS_i (rest := []) C (c3_bitAt hi h_r20) gX3_crosses_X3_bitAt hd3_bitAt hK hN hP ⟨_, 3, _, _, hi, rfl, rfl⟩ rfl ⟨rfl, rfl⟩ ⟨Nat.le_of_ble_eq_true rfl, Nat.le_of_ble_eq_true rfl⟩ rfl hl.1 rfl (Nat.le_of_ble_eq_true rfl) ⟨Nat.le_of_ble_eq_true rfl, Nat.le_of_ble_eq_true rfl⟩ dX3_crosses_80 ?_
              refine lv_aload_n hx hb dX3_crosses_83 rfl (lv_at hl 2 rfl) ?_
              refine lv_iload_n hx hb dX3_crosses_84 rfl (lv_at hl 3 rfl) ?_
              obtain ⟨r21, h_r21, hrun⟩ := p_bnd hrun
              refine jVS_i (rest := [.int r20]) C (c3_bitAt hi h_r21) gX3_crosses_X3_bitAt hd3_bitAt hK hN hP ⟨_, 3, _, _, hi, rfl, rfl⟩ rfl ⟨rfl, rfl⟩ ⟨Nat.le_of_ble_eq_true rfl, Nat.le_of_ble_eq_true rfl⟩ rfl hl.1 rfl (Nat.le_of_ble_eq_true rfl) ⟨Nat.le_of_ble_eq_true rfl, Nat.le_of_ble_eq_true rfl⟩ dX3_crosses_85 ?_
              refine lv_icmp_eq (tgt := 95) hx hb dX3_crosses_88 rfl (fun c22 => ?_) (fun c22 => ?_)
              · have hrun := p_pos hrun c22
                refine lv_iconst (v := 0) hx hb dX3_crosses_95 rfl ?_
                cases hrun
                exact rS_i C hr hlk hQ (nb01 (Or.inl rfl)) rfl dX3_crosses_96
              · have hrun := p_neg hrun c22
                refine lv_iconst (v := 1) hx hb dX3_crosses_91 rfl ?_
                refine lv_goto (tgt := 96) hx hb dX3_crosses_92 rfl ?_
                cases hrun
                exact rS_i C hr hlk hQ (nb01 (Or.inr rfl)) rfl dX3_crosses_96
          · have hrun := p_neg hrun c16
            refine lv_iload hx hb dX3_crosses_47 (lv_at hl 4 rfl) ?_
            refine lv_iconst (v := 1) hx hb dX3_crosses_49 rfl ?_
            refine lv_isub hx hb dX3_crosses_50 ?_
            refine lv_goto (tgt := 60) hx hb dX3_crosses_51 rfl ?_
            refine lv_istore (lv' := [(5, .int (x5 - 1)), (4, .int (x4 - 1)), (0, .ref h0), (1, .int x1), (2, .ref h1), (6, .int x6)]) hx hb dX3_crosses_60 hl (by decide) rfl (fun ls hl => ?_)
            refine lv_aload_n hx hb dX3_crosses_62 rfl (lv_at hl 2 rfl) ?_
            refine lv_iload hx hb dX3_crosses_63 (lv_at hl 1 rfl) ?_
            obtain ⟨r23, h_r23, hrun⟩ := p_bnd hrun
            refine jVS_i (rest := []) C (c3_bitAt hi h_r23) gX3_crosses_X3_bitAt hd3_bitAt hK hN hP ⟨_, 3, _, _, hi, rfl, rfl⟩ rfl ⟨rfl, rfl⟩ ⟨Nat.le_of_ble_eq_true rfl, Nat.le_of_ble_eq_true rfl⟩ rfl hl.1 rfl (Nat.le_of_ble_eq_true rfl) ⟨Nat.le_of_ble_eq_true rfl, Nat.le_of_ble_eq_true rfl⟩ dX3_crosses_65 ?_
            refine lv_aload_n hx hb dX3_crosses_68 rfl (lv_at hl 4 rfl) ?_
            refine lv_iload hx hb dX3_crosses_69 (lv_at hl 0 rfl) ?_
            obtain ⟨r24, h_r24, hrun⟩ := p_bnd hrun
            refine jVS_i (rest := [.int r23]) C (c3_bitAt hi2 h_r24) gX3_crosses_X3_bitAt hd3_bitAt hK hN hP ⟨_, 3, _, _, hi2, rfl, rfl⟩ rfl ⟨rfl, rfl⟩ ⟨Nat.le_of_ble_eq_true rfl, Nat.le_of_ble_eq_true rfl⟩ rfl hl.1 rfl (Nat.le_of_ble_eq_true rfl) ⟨Nat.le_of_ble_eq_true rfl, Nat.le_of_ble_eq_true rfl⟩ dX3_crosses_71 ?_
            refine lv_icmp_eq (tgt := 97) hx hb dX3_crosses_74 rfl (fun c25 => ?_) (fun c25 => ?_)
            · have hrun := p_pos hrun c25
              refine lv_iinc (v := x6 + (-1)) (lv' := [(6, .int (x6 + (-1))), (5, .int (x5 - 1)), (4, .int (x4 - 1)), (0, .ref h0), (1, .int x1), (2, .ref h1)]) hx hb dX3_crosses_97 hl (k := 5) rfl rfl (by decide) rfl (fun ls hl => ?_)
              refine lv_goto (tgt := 17) hx hb dX3_crosses_100 rfl ?_
              exact ih (x4 - 1) (x5 - 1) (x6 + (-1)) hrun _ (lv_sub hl [3, 4, 5, 2, 1, 0] rfl)
            · have hrun := p_neg hrun c25
              refine lv_aload_n hx hb dX3_crosses_77 rfl (lv_at hl 2 rfl) ?_
              refine lv_iload hx hb dX3_crosses_78 (lv_at hl 1 rfl) ?_
              obtain ⟨r26, h_r26, hrun⟩ := p_bnd hrun
              refine jVS_i (rest := []) C (c3_bitAt hi h_r26) gX3_crosses_X3_bitAt hd3_bitAt hK hN hP ⟨_, 3, _, _, hi, rfl, rfl⟩ rfl ⟨rfl, rfl⟩ ⟨Nat.le_of_ble_eq_true rfl, Nat.le_of_ble_eq_true rfl⟩ rfl hl.1 rfl (Nat.le_of_ble_eq_true rfl) ⟨Nat.le_of_ble_eq_true rfl, Nat.le_of_ble_eq_true rfl⟩ dX3_crosses_80 ?_
              refine lv_aload_n hx hb dX3_crosses_83 rfl (lv_at hl 2 rfl) ?_
              refine lv_iload_n hx hb dX3_crosses_84 rfl (lv_at hl 3 rfl) ?_
              obtain ⟨r27, h_r27, hrun⟩ := p_bnd hrun
              refine jVS_i (rest := [.int r26]) C (c3_bitAt hi h_r27) gX3_crosses_X3_bitAt hd3_bitAt hK hN hP ⟨_, 3, _, _, hi, rfl, rfl⟩ rfl ⟨rfl, rfl⟩ ⟨Nat.le_of_ble_eq_true rfl, Nat.le_of_ble_eq_true rfl⟩ rfl hl.1 rfl (Nat.le_of_ble_eq_true rfl) ⟨Nat.le_of_ble_eq_true rfl, Nat.le_of_ble_eq_true rfl⟩ dX3_crosses_85 ?_
              refine lv_icmp_eq (tgt := 95) hx hb dX3_crosses_88 rfl (fun c28 => ?_) (fun c28 => ?_)
              · have hrun := p_pos hrun c28
                refine lv_iconst (v := 0) hx hb dX3_crosses_95 rfl ?_
                cases hrun
                exact rS_i C hr hlk hQ (nb01 (Or.inl rfl)) rfl dX3_crosses_96
              · have hrun := p_neg hrun c28
                refine lv_iconst (v := 1) hx hb dX3_crosses_91 rfl ?_
                refine lv_goto (tgt := 96) hx hb dX3_crosses_92 rfl ?_
                cases hrun
                exact rS_i C hr hlk hQ (nb01 (Or.inr rfl)) rfl dX3_crosses_96
  unfold P3_crosses at hrun
  refine lv_iload_n hx hb dX3_crosses_0 rfl (lv_at hl 1 rfl) ?_
  refine lv_istore (lv' := [(4, .int x1), (0, .ref h0), (1, .int x1), (2, .ref h1), (3, .int x3)]) hx hb dX3_crosses_1 hl (by decide) rfl (fun ls hl => ?_)
  refine lv_iload_n hx hb dX3_crosses_3 rfl (lv_at hl 4 rfl) ?_
  refine lv_istore (lv' := [(5, .int x3), (4, .int x1), (0, .ref h0), (1, .int x1), (2, .ref h1), (3, .int x3)]) hx hb dX3_crosses_4 hl (by decide) rfl (fun ls hl => ?_)
  refine lv_aload_n hx hb dX3_crosses_6 rfl (lv_at hl 2 rfl) ?_
  refine gW_size hi C inm3_crosses_X3 hK hP fl3_crosses_19 dX3_crosses_7 ?_
  refine lv_aload_n hx hb dX3_crosses_10 rfl (lv_at hl 4 rfl) ?_
  refine gW_size hi2 C inm3_crosses_X3 hK hP fl3_crosses_19 dX3_crosses_11 ?_
  refine lv_imul hx hb dX3_crosses_14 ?_
  refine lv_istore (lv' := [(6, .int (v_size * v_o_size)), (5, .int x3), (4, .int x1), (0, .ref h0), (1, .int x1), (2, .ref h1), (3, .int x3)]) hx hb dX3_crosses_15 hl (by decide) rfl (fun ls hl => ?_)
  exact loop_17 FU x1 x3 (v_size * v_o_size) hrun _ (lv_sub hl [3, 4, 5, 2, 1, 0] rfl)

abbrev rm3_crossings : Room := { frames := 2, cells := 0, slots := 0, locals := 47 }
theorem fl3_crossings_19 : Cond.fieldLink RX3 19 "RiverWords$Word" "size" "I" ∈ wsX3_crossings := by decide +kernel
theorem inm3_crossings_X3 : ∀ w ∈ wsX30, w ∈ wsX3_crossings := by decide +kernel
theorem hd3_crossings : okD yX3_crossings 1 := by decide +kernel
set_option maxHeartbeats 8000000 in
set_option maxRecDepth 100000 in
theorem c3_crossings {res : Int32} (hi : w[i]? = some (h0, .inr (3, wl v_bits v_size v_allBits v_a v_b v_c v_d))) (hi2 : w[i2]? = some (h1, .inr (3, wl v_o_bits v_o_size v_o_allBits v_o_a v_o_b v_o_c v_o_d))) (hrun : P3_crossings v_bits v_size v_o_bits v_o_size = some res) : Met l yX3_crossings wsX3_crossings rm3_crossings (va_Pc [.ref h0, .ref h1] (PS D tys w)) (vp_Si (fun x => x = res)) 0 0 (fun _ => False) := by
  refine S_in (cc := cX3_crossings) (maxL := 5) (ret := (some .int)) (by decide) rfl (Nat.le_of_ble_eq_true rfl) ?_
  intro p e s m args below meth c ls Q hQ C hr hlk hK hN hP hl
  have C : CallFix p m c cX3_crossings 5 s args wsX3_crossings RX3 := C
  have hx := C.1
  have hb := C.2.1
  have hl : lv_has ls 5 [(0, .ref h0), (1, .ref h1)] := hl
  have loop_15 : ∀ (x3 : Int32) (n : Nat) (x2 : Int32) (x4 : Int32) (out : Int32), P3_crossings_15 v_bits v_size v_o_bits v_o_size x3 n x2 x4 = some out → (∀ (ls : Array Slot), lv_has ls 5 [(0, .ref h0), (1, .ref h1), (2, .int out), (3, .int x3)] → W p l e rm3_crossings s m args below meth c s.heap [] 0 0 Q (F0 m 58 ls [])) → ∀ (ls : Array Slot), lv_has ls 5 [(0, .ref h0), (1, .ref h1), (2, .int x2), (3, .int x3), (4, .int x4)] → W p l e rm3_crossings s m args below meth c s.heap [] 0 0 Q (F0 m 15 ls []) := by
    intro x3 n
    induction n with
    | zero =>
      intro x2 x4 out hrun K ls hl
      cases hrun
    | succ n ih =>
      intro x2 x4 out hrun K ls hl
      rw [P3_crossings_15] at hrun
      refine lv_iload hx hb dX3_crossings_15 (lv_at hl 4 rfl) ?_
      refine lv_aload_n hx hb dX3_crossings_17 rfl (lv_at hl 1 rfl) ?_
      refine gW_size hi2 C inm3_crossings_X3 hK hP fl3_crossings_19 dX3_crossings_18 ?_
      refine lv_icmp_ge (tgt := 58) hx hb dX3_crossings_21 rfl (fun c2 => ?_) (fun c2 => ?_)
      · have hrun := p_pos hrun c2
        cases hrun
        exact K _ (lv_sub hl [0, 1, 2, 3] rfl)
      · have hrun := p_neg hrun c2
        refine lv_aload_n hx hb dX3_crossings_24 rfl (lv_at hl 0 rfl) ?_
        refine lv_iload_n hx hb dX3_crossings_25 rfl (lv_at hl 3 rfl) ?_
        obtain ⟨r3, h_r3, hrun⟩ := p_bnd hrun
        refine jVS_i (rest := []) C (c3_bitAt hi h_r3) gX3_crossings_X3_bitAt hd3_bitAt hK hN hP ⟨_, 3, _, _, hi, rfl, rfl⟩ rfl ⟨rfl, rfl⟩ ⟨Nat.le_of_ble_eq_true rfl, Nat.le_of_ble_eq_true rfl⟩ rfl hl.1 rfl (Nat.le_of_ble_eq_true rfl) ⟨Nat.le_of_ble_eq_true rfl, Nat.le_of_ble_eq_true rfl⟩ dX3_crossings_26 ?_
        refine lv_aload_n hx hb dX3_crossings_29 rfl (lv_at hl 1 rfl) ?_
        refine lv_iload hx hb dX3_crossings_30 (lv_at hl 4 rfl) ?_
        obtain ⟨r4, h_r4, hrun⟩ := p_bnd hrun
        refine jVS_i (rest := [.int r3]) C (c3_bitAt hi2 h_r4) gX3_crossings_X3_bitAt hd3_bitAt hK hN hP ⟨_, 3, _, _, hi2, rfl, rfl⟩ rfl ⟨rfl, rfl⟩ ⟨Nat.le_of_ble_eq_true rfl, Nat.le_of_ble_eq_true rfl⟩ rfl hl.1 rfl (Nat.le_of_ble_eq_true rfl) ⟨Nat.le_of_ble_eq_true rfl, Nat.le_of_ble_eq_true rfl⟩ dX3_crossings_32 ?_
        refine lv_icmp_eq (tgt := 52) hx hb dX3_crossings_35 rfl (fun c5 => ?_) (fun c5 => ?_)
        · have hrun := p_pos hrun c5
          refine lv_iinc (v := x4 + 1) (lv' := [(4, .int (x4 + 1)), (0, .ref h0), (1, .ref h1), (2, .int x2), (3, .int x3)]) hx hb dX3_crossings_52 hl (k := 4) rfl rfl (by decide) rfl (fun ls hl => ?_)
          refine lv_goto (tgt := 15) hx hb dX3_crossings_55 rfl ?_
          exact ih x2 (x4 + 1) out hrun K _ (lv_sub hl [1, 2, 3, 4, 0] rfl)
        · have hrun := p_neg hrun c5
          refine lv_aload_n hx hb dX3_crossings_38 rfl (lv_at hl 0 rfl) ?_
          refine lv_iload_n hx hb dX3_crossings_39 rfl (lv_at hl 3 rfl) ?_
          refine lv_aload_n hx hb dX3_crossings_40 rfl (lv_at hl 1 rfl) ?_
          refine lv_iload hx hb dX3_crossings_41 (lv_at hl 4 rfl) ?_
          obtain ⟨r6, h_r6, hrun⟩ := p_bnd hrun
          refine jVS_i (rest := []) C (c3_crosses hi hi2 h_r6) gX3_crossings_X3_crosses hd3_crosses hK hN hP ⟨_, 3, _, _, hi, rfl, rfl⟩ rfl ⟨rfl, rfl⟩ ⟨Nat.le_of_ble_eq_true rfl, Nat.le_of_ble_eq_true rfl⟩ rfl hl.1 rfl (Nat.le_of_ble_eq_true rfl) ⟨Nat.le_of_ble_eq_true rfl, Nat.le_of_ble_eq_true rfl⟩ dX3_crossings_43 ?_
          refine lv_if_eq (tgt := 52) hx hb dX3_crossings_46 rfl (fun c7 => ?_) (fun c7 => ?_)
          · have hrun := p_pos hrun c7
            refine lv_iinc (v := x4 + 1) (lv' := [(4, .int (x4 + 1)), (0, .ref h0), (1, .ref h1), (2, .int x2), (3, .int x3)]) hx hb dX3_crossings_52 hl (k := 4) rfl rfl (by decide) rfl (fun ls hl => ?_)
            refine lv_goto (tgt := 15) hx hb dX3_crossings_55 rfl ?_
            exact ih x2 (x4 + 1) out hrun K _ (lv_sub hl [1, 2, 3, 4, 0] rfl)
          · have hrun := p_neg hrun c7
            refine lv_iinc (v := x2 + 1) (lv' := [(2, .int (x2 + 1)), (0, .ref h0), (1, .ref h1), (3, .int x3), (4, .int x4)]) hx hb dX3_crossings_49 hl (k := 2) rfl rfl (by decide) rfl (fun ls hl => ?_)
            refine lv_iinc (v := x4 + 1) (lv' := [(4, .int (x4 + 1)), (2, .int (x2 + 1)), (0, .ref h0), (1, .ref h1), (3, .int x3)]) hx hb dX3_crossings_52 hl (k := 4) rfl rfl (by decide) rfl (fun ls hl => ?_)
            refine lv_goto (tgt := 15) hx hb dX3_crossings_55 rfl ?_
            exact ih (x2 + 1) (x4 + 1) out hrun K _ (lv_sub hl [2, 3, 1, 4, 0] rfl)
  have loop_4 : ∀ (n : Nat) (x2 : Int32) (x3 : Int32) (out : Int32), P3_crossings_4 v_bits v_size v_o_bits v_o_size n x2 x3 = some out → (∀ (ls : Array Slot), lv_has ls 5 [(2, .int out)] → W p l e rm3_crossings s m args below meth c s.heap [] 0 0 Q (F0 m 64 ls [])) → ∀ (ls : Array Slot), lv_has ls 5 [(0, .ref h0), (1, .ref h1), (2, .int x2), (3, .int x3)] → W p l e rm3_crossings s m args below meth c s.heap [] 0 0 Q (F0 m 4 ls []) := by
    intro n
    induction n with
    | zero =>
      intro x2 x3 out hrun K ls hl
      cases hrun
    | succ n ih =>
      intro x2 x3 out hrun K ls hl
      rw [P3_crossings_4] at hrun
      refine lv_iload_n hx hb dX3_crossings_4 rfl (lv_at hl 3 rfl) ?_
      refine lv_aload_n hx hb dX3_crossings_5 rfl (lv_at hl 0 rfl) ?_
      refine gW_size hi C inm3_crossings_X3 hK hP fl3_crossings_19 dX3_crossings_6 ?_
      refine lv_icmp_ge (tgt := 64) hx hb dX3_crossings_9 rfl (fun c1 => ?_) (fun c1 => ?_)
      · have hrun := p_pos hrun c1
        cases hrun
        exact K _ (lv_sub hl [2] rfl)
      · have hrun := p_neg hrun c1
        refine lv_iconst (v := 0) hx hb dX3_crossings_12 rfl ?_
        refine lv_istore (lv' := [(4, .int 0), (0, .ref h0), (1, .ref h1), (2, .int x2), (3, .int x3)]) hx hb dX3_crossings_13 hl (by decide) rfl (fun ls hl => ?_)
        obtain ⟨o8, h_o8, hrun⟩ := p_bnd hrun
        refine loop_15 x3 FU x2 0 o8 h_o8 (fun ls hl => ?_) _ (lv_sub hl [1, 2, 3, 4, 0] rfl)
        refine lv_iinc (v := x3 + 1) (lv' := [(3, .int (x3 + 1)), (0, .ref h0), (1, .ref h1), (2, .int o8)]) hx hb dX3_crossings_58 hl (k := 3) rfl rfl (by decide) rfl (fun ls hl => ?_)
        refine lv_goto (tgt := 4) hx hb dX3_crossings_61 rfl ?_
        exact ih o8 (x3 + 1) out hrun K _ (lv_sub hl [1, 2, 3, 0] rfl)
  unfold P3_crossings at hrun
  refine lv_iconst (v := 0) hx hb dX3_crossings_0 rfl ?_
  refine lv_istore_n (lv' := [(2, .int 0), (0, .ref h0), (1, .ref h1)]) hx hb dX3_crossings_1 rfl hl (by decide) rfl (fun ls hl => ?_)
  refine lv_iconst (v := 0) hx hb dX3_crossings_2 rfl ?_
  refine lv_istore_n (lv' := [(3, .int 0), (2, .int 0), (0, .ref h0), (1, .ref h1)]) hx hb dX3_crossings_3 rfl hl (by decide) rfl (fun ls hl => ?_)
  obtain ⟨o9, h_o9, hrun⟩ := p_bnd hrun
  refine loop_4 FU 0 0 o9 h_o9 (fun ls hl => ?_) _ (lv_sub hl [2, 3, 1, 0] rfl)
  refine lv_iload_n hx hb dX3_crossings_64 rfl (lv_at hl 0 rfl) ?_
  cases hrun
  exact rS_i C hr hlk hQ (nbi _) rfl dX3_crossings_65

abbrev rm3_rotation : Room := { frames := 0, cells := 0, slots := 0, locals := 0 }
theorem fl3_rotation_15 : Cond.fieldLink RX3 15 "RiverWords$Word" "bits" "I" ∈ wsX3_rotation := by decide +kernel
theorem fl3_rotation_19 : Cond.fieldLink RX3 19 "RiverWords$Word" "size" "I" ∈ wsX3_rotation := by decide +kernel
theorem fl3_rotation_22 : Cond.fieldLink RX3 22 "RiverWords$Word" "allBits" "I" ∈ wsX3_rotation := by decide +kernel
theorem inm3_rotation_X3 : ∀ w ∈ wsX30, w ∈ wsX3_rotation := by decide +kernel
theorem hd3_rotation : okD yX3_rotation 1 := by decide +kernel
set_option maxHeartbeats 8000000 in
set_option maxRecDepth 100000 in
theorem c3_rotation {x1 : Int32} {res : Int32} (hi : w[i]? = some (h0, .inr (3, wl v_bits v_size v_allBits v_a v_b v_c v_d))) (hrun : P3_rotation v_bits v_size v_allBits x1 = some res) : Met l yX3_rotation wsX3_rotation rm3_rotation (va_Pc [.ref h0, .int x1] (PS D tys w)) (vp_Si (fun x => x = res)) 0 0 (fun _ => False) := by
  refine S_in (cc := cX3_rotation) (maxL := 2) (ret := (some .int)) (by decide) rfl (Nat.le_of_ble_eq_true rfl) ?_
  intro p e s m args below meth c ls Q hQ C hr hlk hK hN hP hl
  have C : CallFix p m c cX3_rotation 2 s args wsX3_rotation RX3 := C
  have hx := C.1
  have hb := C.2.1
  have hl : lv_has ls 2 [(0, .ref h0), (1, .int x1)] := hl
  unfold P3_rotation at hrun
  refine lv_aload_n hx hb dX3_rotation_0 rfl (lv_at hl 0 rfl) ?_
  refine gW_bits hi C inm3_rotation_X3 hK hP fl3_rotation_15 dX3_rotation_1 ?_
  refine lv_iload_n hx hb dX3_rotation_4 rfl (lv_at hl 1 rfl) ?_
  refine j_ishl hx hb dX3_rotation_5 ?_
  refine lv_aload_n hx hb dX3_rotation_6 rfl (lv_at hl 0 rfl) ?_
  refine gW_bits hi C inm3_rotation_X3 hK hP fl3_rotation_15 dX3_rotation_7 ?_
  refine lv_aload_n hx hb dX3_rotation_10 rfl (lv_at hl 0 rfl) ?_
  refine gW_size hi C inm3_rotation_X3 hK hP fl3_rotation_19 dX3_rotation_11 ?_
  refine lv_iload_n hx hb dX3_rotation_14 rfl (lv_at hl 1 rfl) ?_
  refine lv_isub hx hb dX3_rotation_15 ?_
  refine j_ishr hx hb dX3_rotation_16 ?_
  refine lv_ior hx hb dX3_rotation_17 ?_
  refine lv_aload_n hx hb dX3_rotation_18 rfl (lv_at hl 0 rfl) ?_
  refine gW_allBits hi C inm3_rotation_X3 hK hP fl3_rotation_22 dX3_rotation_19 ?_
  refine lv_iand hx hb dX3_rotation_22 ?_
  cases hrun
  exact rS_i C hr hlk hQ (nbi _) rfl dX3_rotation_23

abbrev rm3_reversal : Room := { frames := 1, cells := 0, slots := 0, locals := 21 }
theorem fl3_reversal_19 : Cond.fieldLink RX3 19 "RiverWords$Word" "size" "I" ∈ wsX3_reversal := by decide +kernel
theorem inm3_reversal_X3 : ∀ w ∈ wsX30, w ∈ wsX3_reversal := by decide +kernel
theorem hd3_reversal : okD yX3_reversal 0 := by decide +kernel
set_option maxHeartbeats 8000000 in
set_option maxRecDepth 100000 in
theorem c3_reversal {res : Int32} (hi : w[i]? = some (h0, .inr (3, wl v_bits v_size v_allBits v_a v_b v_c v_d))) (hrun : P3_reversal v_bits v_size = some res) : Met l yX3_reversal wsX3_reversal rm3_reversal (va_Pc [.ref h0] (PS D tys w)) (vp_Si (fun x => x = res)) 0 0 (fun _ => False) := by
  refine S_in (cc := cX3_reversal) (maxL := 3) (ret := (some .int)) (by decide) rfl (Nat.le_of_ble_eq_true rfl) ?_
  intro p e s m args below meth c ls Q hQ C hr hlk hK hN hP hl
  have C : CallFix p m c cX3_reversal 3 s args wsX3_reversal RX3 := C
  have hx := C.1
  have hb := C.2.1
  have hl : lv_has ls 3 [(0, .ref h0)] := hl
  have loop_9 : ∀ (n : Nat) (x1 : Int32) (x2 : Int32) (out : Int32), P3_reversal_9 v_bits v_size n x1 x2 = some out → (∀ (ls : Array Slot), lv_has ls 3 [(1, .int out)] → W p l e rm3_reversal s m args below meth c s.heap [] 0 0 Q (F0 m 29 ls [])) → ∀ (ls : Array Slot), lv_has ls 3 [(0, .ref h0), (1, .int x1), (2, .int x2)] → W p l e rm3_reversal s m args below meth c s.heap [] 0 0 Q (F0 m 9 ls []) := by
    intro n
    induction n with
    | zero =>
      intro x1 x2 out hrun K ls hl
      cases hrun
    | succ n ih =>
      intro x1 x2 out hrun K ls hl
      rw [P3_reversal_9] at hrun
      refine lv_iload_n hx hb dX3_reversal_9 rfl (lv_at hl 2 rfl) ?_
      refine lv_if_lt (tgt := 29) hx hb dX3_reversal_10 rfl (fun c1 => ?_) (fun c1 => ?_)
      · have hrun := p_pos hrun c1
        cases hrun
        exact K _ (lv_sub hl [1] rfl)
      · have hrun := p_neg hrun c1
        refine lv_iload_n hx hb dX3_reversal_13 rfl (lv_at hl 1 rfl) ?_
        refine lv_iconst (v := 1) hx hb dX3_reversal_14 rfl ?_
        refine j_ishl hx hb dX3_reversal_15 ?_
        refine lv_aload_n hx hb dX3_reversal_16 rfl (lv_at hl 0 rfl) ?_
        refine lv_iload_n hx hb dX3_reversal_17 rfl (lv_at hl 2 rfl) ?_
        obtain ⟨r2, h_r2, hrun⟩ := p_bnd hrun
        refine jVS_i (rest := [.int (jshl x1 1)]) C (c3_bitAt hi h_r2) gX3_reversal_X3_bitAt hd3_bitAt hK hN hP ⟨_, 3, _, _, hi, rfl, rfl⟩ rfl ⟨rfl, rfl⟩ ⟨Nat.le_of_ble_eq_true rfl, Nat.le_of_ble_eq_true rfl⟩ rfl hl.1 rfl (Nat.le_of_ble_eq_true rfl) ⟨Nat.le_of_ble_eq_true rfl, Nat.le_of_ble_eq_true rfl⟩ dX3_reversal_18 ?_
        refine lv_ior hx hb dX3_reversal_21 ?_
        refine lv_istore_n (lv' := [(1, .int ((jshl x1 1) ||| r2)), (0, .ref h0), (2, .int x2)]) hx hb dX3_reversal_22 rfl hl (by decide) rfl (fun ls hl => ?_)
        refine lv_iinc (v := x2 + (-1)) (lv' := [(2, .int (x2 + (-1))), (1, .int ((jshl x1 1) ||| r2)), (0, .ref h0)]) hx hb dX3_reversal_23 hl (k := 2) rfl rfl (by decide) rfl (fun ls hl => ?_)
        refine lv_goto (tgt := 9) hx hb dX3_reversal_26 rfl ?_
        exact ih ((jshl x1 1) ||| r2) (x2 + (-1)) out hrun K _ (lv_sub hl [2, 1, 0] rfl)
  unfold P3_reversal at hrun
  refine lv_iconst (v := 0) hx hb dX3_reversal_0 rfl ?_
  refine lv_istore_n (lv' := [(1, .int 0), (0, .ref h0)]) hx hb dX3_reversal_1 rfl hl (by decide) rfl (fun ls hl => ?_)
  refine lv_aload_n hx hb dX3_reversal_2 rfl (lv_at hl 1 rfl) ?_
  refine gW_size hi C inm3_reversal_X3 hK hP fl3_reversal_19 dX3_reversal_3 ?_
  refine lv_iconst (v := 1) hx hb dX3_reversal_6 rfl ?_
  refine lv_isub hx hb dX3_reversal_7 ?_
  refine lv_istore_n (lv' := [(2, .int (v_size - 1)), (1, .int 0), (0, .ref h0)]) hx hb dX3_reversal_8 rfl hl (by decide) rfl (fun ls hl => ?_)
  obtain ⟨o3, h_o3, hrun⟩ := p_bnd hrun
  refine loop_9 FU 0 (v_size - 1) o3 h_o3 (fun ls hl => ?_) _ (lv_sub hl [2, 1, 0] rfl)
  refine lv_iload_n hx hb dX3_reversal_29 rfl (lv_at hl 0 rfl) ?_
  cases hrun
  exact rS_i C hr hlk hQ (nbi _) rfl dX3_reversal_30

abbrev rm3_complement : Room := { frames := 0, cells := 0, slots := 0, locals := 0 }
theorem fl3_complement_22 : Cond.fieldLink RX3 22 "RiverWords$Word" "allBits" "I" ∈ wsX3_complement := by decide +kernel
theorem inm3_complement_X3 : ∀ w ∈ wsX30, w ∈ wsX3_complement := by decide +kernel
theorem hd3_complement : okD yX3_complement 1 := by decide +kernel
set_option maxHeartbeats 8000000 in
set_option maxRecDepth 100000 in
theorem c3_complement {x1 : Int32} {res : Int32} (hi : w[i]? = some (h0, .inr (3, wl v_bits v_size v_allBits v_a v_b v_c v_d))) (hrun : P3_complement v_allBits x1 = some res) : Met l yX3_complement wsX3_complement rm3_complement (va_Pc [.ref h0, .int x1] (PS D tys w)) (vp_Si (fun x => x = res)) 0 0 (fun _ => False) := by
  refine S_in (cc := cX3_complement) (maxL := 2) (ret := (some .int)) (by decide) rfl (Nat.le_of_ble_eq_true rfl) ?_
  intro p e s m args below meth c ls Q hQ C hr hlk hK hN hP hl
  have C : CallFix p m c cX3_complement 2 s args wsX3_complement RX3 := C
  have hx := C.1
  have hb := C.2.1
  have hl : lv_has ls 2 [(0, .ref h0), (1, .int x1)] := hl
  unfold P3_complement at hrun
  refine lv_iload_n hx hb dX3_complement_0 rfl (lv_at hl 1 rfl) ?_
  refine lv_aload_n hx hb dX3_complement_1 rfl (lv_at hl 0 rfl) ?_
  refine gW_allBits hi C inm3_complement_X3 hK hP fl3_complement_22 dX3_complement_2 ?_
  refine lv_ixor hx hb dX3_complement_5 ?_
  cases hrun
  exact rS_i C hr hlk hQ (nbi _) rfl dX3_complement_6

abbrev rm3_leastTurn : Room := { frames := 1, cells := 0, slots := 0, locals := 21 }
theorem fl3_leastTurn_19 : Cond.fieldLink RX3 19 "RiverWords$Word" "size" "I" ∈ wsX3_leastTurn := by decide +kernel
theorem inm3_leastTurn_X3 : ∀ w ∈ wsX30, w ∈ wsX3_leastTurn := by decide +kernel
theorem hd3_leastTurn : okD yX3_leastTurn 0 := by decide +kernel
set_option maxHeartbeats 8000000 in
set_option maxRecDepth 100000 in
theorem c3_leastTurn {res : Int32} (hi : w[i]? = some (h0, .inr (3, wl v_bits v_size v_allBits v_a v_b v_c v_d))) (hrun : P3_leastTurn v_bits v_size v_allBits = some res) : Met l yX3_leastTurn wsX3_leastTurn rm3_leastTurn (va_Pc [.ref h0] (PS D tys w)) (vp_Si (fun x => x = res)) 0 0 (fun _ => False) := by
  refine S_in (cc := cX3_leastTurn) (maxL := 3) (ret := (some .int)) (by decide) rfl (Nat.le_of_ble_eq_true rfl) ?_
  intro p e s m args below meth c ls Q hQ C hr hlk hK hN hP hl
  have C : CallFix p m c cX3_leastTurn 3 s args wsX3_leastTurn RX3 := C
  have hx := C.1
  have hb := C.2.1
  have hl : lv_has ls 3 [(0, .ref h0)] := hl
  have loop_4 : ∀ (n : Nat) (x1 : Int32) (x2 : Int32) (out : Int32), P3_leastTurn_4 v_bits v_size v_allBits n x1 x2 = some out → (∀ (ls : Array Slot), lv_has ls 3 [(1, .int out)] → W p l e rm3_leastTurn s m args below meth c s.heap [] 0 0 Q (F0 m 33 ls [])) → ∀ (ls : Array Slot), lv_has ls 3 [(0, .ref h0), (1, .int x1), (2, .int x2)] → W p l e rm3_leastTurn s m args below meth c s.heap [] 0 0 Q (F0 m 4 ls []) := by
    intro n
    induction n with
    | zero =>
      intro x1 x2 out hrun K ls hl
      cases hrun
    | succ n ih =>
      intro x1 x2 out hrun K ls hl
      rw [P3_leastTurn_4] at hrun
      refine lv_iload_n hx hb dX3_leastTurn_4 rfl (lv_at hl 2 rfl) ?_
      refine lv_aload_n hx hb dX3_leastTurn_5 rfl (lv_at hl 0 rfl) ?_
      refine gW_size hi C inm3_leastTurn_X3 hK hP fl3_leastTurn_19 dX3_leastTurn_6 ?_
      refine lv_icmp_ge (tgt := 33) hx hb dX3_leastTurn_9 rfl (fun c1 => ?_) (fun c1 => ?_)
      · have hrun := p_pos hrun c1
        cases hrun
        exact K _ (lv_sub hl [1] rfl)
      · have hrun := p_neg hrun c1
        refine lv_aload_n hx hb dX3_leastTurn_12 rfl (lv_at hl 0 rfl) ?_
        refine lv_iload_n hx hb dX3_leastTurn_13 rfl (lv_at hl 2 rfl) ?_
        obtain ⟨r2, h_r2, hrun⟩ := p_bnd hrun
        refine jVS_i (rest := []) C (c3_rotation hi h_r2) gX3_leastTurn_X3_rotation hd3_rotation hK hN hP ⟨_, 3, _, _, hi, rfl, rfl⟩ rfl ⟨rfl, rfl⟩ ⟨Nat.le_of_ble_eq_true rfl, Nat.le_of_ble_eq_true rfl⟩ rfl hl.1 rfl (Nat.le_of_ble_eq_true rfl) ⟨Nat.le_of_ble_eq_true rfl, Nat.le_of_ble_eq_true rfl⟩ dX3_leastTurn_14 ?_
        refine lv_aload_n hx hb dX3_leastTurn_17 rfl (lv_at hl 0 rfl) ?_
        refine lv_iload_n hx hb dX3_leastTurn_18 rfl (lv_at hl 1 rfl) ?_
        obtain ⟨r3, h_r3, hrun⟩ := p_bnd hrun
        refine jVS_i (rest := [.int r2]) C (c3_rotation hi h_r3) gX3_leastTurn_X3_rotation hd3_rotation hK hN hP ⟨_, 3, _, _, hi, rfl, rfl⟩ rfl ⟨rfl, rfl⟩ ⟨Nat.le_of_ble_eq_true rfl, Nat.le_of_ble_eq_true rfl⟩ rfl hl.1 rfl (Nat.le_of_ble_eq_true rfl) ⟨Nat.le_of_ble_eq_true rfl, Nat.le_of_ble_eq_true rfl⟩ dX3_leastTurn_19 ?_
        refine lv_icmp_ge (tgt := 27) hx hb dX3_leastTurn_22 rfl (fun c4 => ?_) (fun c4 => ?_)
        · have hrun := p_pos hrun c4
          refine lv_iinc (v := x2 + 1) (lv' := [(2, .int (x2 + 1)), (0, .ref h0), (1, .int x1)]) hx hb dX3_leastTurn_27 hl (k := 2) rfl rfl (by decide) rfl (fun ls hl => ?_)
          refine lv_goto (tgt := 4) hx hb dX3_leastTurn_30 rfl ?_
          exact ih x1 (x2 + 1) out hrun K _ (lv_sub hl [1, 2, 0] rfl)
        · have hrun := p_neg hrun c4
          refine lv_iload_n hx hb dX3_leastTurn_25 rfl (lv_at hl 2 rfl) ?_
          refine lv_istore_n (lv' := [(1, .int x2), (0, .ref h0), (2, .int x2)]) hx hb dX3_leastTurn_26 rfl hl (by decide) rfl (fun ls hl => ?_)
          refine lv_iinc (v := x2 + 1) (lv' := [(2, .int (x2 + 1)), (1, .int x2), (0, .ref h0)]) hx hb dX3_leastTurn_27 hl (k := 2) rfl rfl (by decide) rfl (fun ls hl => ?_)
          refine lv_goto (tgt := 4) hx hb dX3_leastTurn_30 rfl ?_
          exact ih x2 (x2 + 1) out hrun K _ (lv_sub hl [2, 1, 0] rfl)
  unfold P3_leastTurn at hrun
  refine lv_iconst (v := 0) hx hb dX3_leastTurn_0 rfl ?_
  refine lv_istore_n (lv' := [(1, .int 0), (0, .ref h0)]) hx hb dX3_leastTurn_1 rfl hl (by decide) rfl (fun ls hl => ?_)
  refine lv_iconst (v := 1) hx hb dX3_leastTurn_2 rfl ?_
  refine lv_istore_n (lv' := [(2, .int 1), (1, .int 0), (0, .ref h0)]) hx hb dX3_leastTurn_3 rfl hl (by decide) rfl (fun ls hl => ?_)
  obtain ⟨o5, h_o5, hrun⟩ := p_bnd hrun
  refine loop_4 FU 0 1 o5 h_o5 (fun ls hl => ?_) _ (lv_sub hl [2, 1, 0] rfl)
  refine lv_iload_n hx hb dX3_leastTurn_33 rfl (lv_at hl 0 rfl) ?_
  cases hrun
  exact rS_i C hr hlk hQ (nbi _) rfl dX3_leastTurn_34

abbrev rm3_changed : Room := { frames := 2, cells := 0, slots := 0, locals := 43 }
theorem fl3_changed_15 : Cond.fieldLink RX3 15 "RiverWords$Word" "bits" "I" ∈ wsX3_changed := by decide +kernel
theorem inm3_changed_X3 : ∀ w ∈ wsX30, w ∈ wsX3_changed := by decide +kernel
theorem hd3_changed : okD yX3_changed 1 := by decide +kernel
set_option maxHeartbeats 8000000 in
set_option maxRecDepth 100000 in
theorem c3_changed {x1 : Int32} {res : Int32} (hi : w[i]? = some (h0, .inr (3, wl v_bits v_size v_allBits v_a v_b v_c v_d))) (hrun : P3_changed v_bits v_size v_allBits x1 = some res) : Met l yX3_changed wsX3_changed rm3_changed (va_Pc [.ref h0, .int x1] (PS D tys w)) (vp_Si (fun x => x = res)) 0 0 (fun _ => False) := by
  refine S_in (cc := cX3_changed) (maxL := 2) (ret := (some .int)) (by decide) rfl (Nat.le_of_ble_eq_true rfl) ?_
  intro p e s m args below meth c ls Q hQ C hr hlk hK hN hP hl
  have C : CallFix p m c cX3_changed 2 s args wsX3_changed RX3 := C
  have hx := C.1
  have hb := C.2.1
  have hl : lv_has ls 2 [(0, .ref h0), (1, .int x1)] := hl
  unfold P3_changed at hrun
  refine lv_iload_n hx hb dX3_changed_0 rfl (lv_at hl 1 rfl) ?_
  by_cases c1 : x1 = 0
  · have hrun := p_pos hrun c1
    refine j_lswIn (tgt := 28) hx hb dX3_changed_1 0 c1 rfl rfl rfl ?_
    refine lv_aload_n hx hb dX3_changed_28 rfl (lv_at hl 0 rfl) ?_
    obtain ⟨r2, h_r2, hrun⟩ := p_bnd hrun
    refine jVS_i (rest := []) C (c3_reversal hi h_r2) gX3_changed_X3_reversal hd3_reversal hK hN hP ⟨_, 3, _, _, hi, rfl, rfl⟩ rfl ⟨rfl, rfl⟩ ⟨Nat.le_of_ble_eq_true rfl, Nat.le_of_ble_eq_true rfl⟩ rfl hl.1 rfl (Nat.le_of_ble_eq_true rfl) ⟨Nat.le_of_ble_eq_true rfl, Nat.le_of_ble_eq_true rfl⟩ dX3_changed_29 ?_
    cases hrun
    exact rS_i C hr hlk hQ (nbi _) rfl dX3_changed_32
  · have hrun := p_neg hrun c1
    by_cases c3 : x1 = 1
    · have hrun := p_pos hrun c3
      refine j_lswIn (tgt := 33) hx hb dX3_changed_1 1 c3 rfl rfl rfl ?_
      refine lv_aload_n hx hb dX3_changed_33 rfl (lv_at hl 0 rfl) ?_
      refine lv_aload_n hx hb dX3_changed_34 rfl (lv_at hl 0 rfl) ?_
      refine gW_bits hi C inm3_changed_X3 hK hP fl3_changed_15 dX3_changed_35 ?_
      obtain ⟨r4, h_r4, hrun⟩ := p_bnd hrun
      refine jVS_i (rest := []) C (c3_complement hi h_r4) gX3_changed_X3_complement hd3_complement hK hN hP ⟨_, 3, _, _, hi, rfl, rfl⟩ rfl ⟨rfl, rfl⟩ ⟨Nat.le_of_ble_eq_true rfl, Nat.le_of_ble_eq_true rfl⟩ rfl hl.1 rfl (Nat.le_of_ble_eq_true rfl) ⟨Nat.le_of_ble_eq_true rfl, Nat.le_of_ble_eq_true rfl⟩ dX3_changed_38 ?_
      cases hrun
      exact rS_i C hr hlk hQ (nbi _) rfl dX3_changed_41
    · have hrun := p_neg hrun c3
      refine j_lswOut (tgt := 42) hx hb dX3_changed_1 c1 c3 rfl ?_
      refine lv_aload_n hx hb dX3_changed_42 rfl (lv_at hl 0 rfl) ?_
      refine lv_aload_n hx hb dX3_changed_43 rfl (lv_at hl 0 rfl) ?_
      obtain ⟨r5, h_r5, hrun⟩ := p_bnd hrun
      refine jVS_i (rest := [.ref h0]) C (c3_leastTurn hi h_r5) gX3_changed_X3_leastTurn hd3_leastTurn hK hN hP ⟨_, 3, _, _, hi, rfl, rfl⟩ rfl ⟨rfl, rfl⟩ ⟨Nat.le_of_ble_eq_true rfl, Nat.le_of_ble_eq_true rfl⟩ rfl hl.1 rfl (Nat.le_of_ble_eq_true rfl) ⟨Nat.le_of_ble_eq_true rfl, Nat.le_of_ble_eq_true rfl⟩ dX3_changed_44 ?_
      obtain ⟨r6, h_r6, hrun⟩ := p_bnd hrun
      refine jVS_i (rest := []) C (c3_rotation hi h_r6) gX3_changed_X3_rotation hd3_rotation hK hN hP ⟨_, 3, _, _, hi, rfl, rfl⟩ rfl ⟨rfl, rfl⟩ ⟨Nat.le_of_ble_eq_true rfl, Nat.le_of_ble_eq_true rfl⟩ rfl hl.1 rfl (Nat.le_of_ble_eq_true rfl) ⟨Nat.le_of_ble_eq_true rfl, Nat.le_of_ble_eq_true rfl⟩ dX3_changed_47 ?_
      cases hrun
      exact rS_i C hr hlk hQ (nbi _) rfl dX3_changed_50

abbrev rm3_turnTo : Room := { frames := 1, cells := 0, slots := 0, locals := 21 }
theorem fl3_turnTo_19 : Cond.fieldLink RX3 19 "RiverWords$Word" "size" "I" ∈ wsX3_turnTo := by decide +kernel
theorem k3_turnTo_54 : Cond.constant RX3 54 (-2000000001) ∈ wsX3_turnTo := by decide +kernel
theorem inm3_turnTo_X3 : ∀ w ∈ wsX30, w ∈ wsX3_turnTo := by decide +kernel
theorem hd3_turnTo : okD yX3_turnTo 2 := by decide +kernel
set_option maxHeartbeats 8000000 in
set_option maxRecDepth 100000 in
theorem c3_turnTo {x1 : Int32} {x2 : Int32} {res : Int32} (hi : w[i]? = some (h0, .inr (3, wl v_bits v_size v_allBits v_a v_b v_c v_d))) (hrun : P3_turnTo v_bits v_size v_allBits x1 x2 = some res) : Met l yX3_turnTo wsX3_turnTo rm3_turnTo (va_Pc [.ref h0, .int x1, .int x2] (PS D tys w)) (vp_Si (fun x => x = res)) 0 0 (fun _ => False) := by
  refine S_in (cc := cX3_turnTo) (maxL := 4) (ret := (some .int)) (by decide) rfl (Nat.le_of_ble_eq_true rfl) ?_
  intro p e s m args below meth c ls Q hQ C hr hlk hK hN hP hl
  have C : CallFix p m c cX3_turnTo 4 s args wsX3_turnTo RX3 := C
  have hx := C.1
  have hb := C.2.1
  have hl : lv_has ls 4 [(0, .ref h0), (1, .int x1), (2, .int x2)] := hl
  have loop_2 : ∀ (n : Nat) (x3 : Int32), P3_turnTo_2 v_bits v_size v_allBits x1 n x3 = some res → ∀ (ls : Array Slot), lv_has ls 4 [(0, .ref h0), (1, .int x1), (3, .int x3)] → W p l e rm3_turnTo s m args below meth c s.heap [] 0 0 Q (F0 m 2 ls []) := by
    intro n
    induction n with
    | zero =>
      intro x3 hrun ls hl
      cases hrun
    | succ n ih =>
      intro x3 hrun ls hl
      rw [P3_turnTo_2] at hrun
      refine lv_iload_n hx hb dX3_turnTo_2 rfl (lv_at hl 2 rfl) ?_
      refine lv_aload_n hx hb dX3_turnTo_3 rfl (lv_at hl 0 rfl) ?_
      refine gW_size hi C inm3_turnTo_X3 hK hP fl3_turnTo_19 dX3_turnTo_4 ?_
      refine lv_icmp_ge (tgt := 27) hx hb dX3_turnTo_7 rfl (fun c1 => ?_) (fun c1 => ?_)
      · have hrun := p_pos hrun c1
        refine lv_ldc (v := (-2000000001)) hx hb C.2.2.2.1 (C.2.2.2.2 _ k3_turnTo_54) dX3_turnTo_27 ?_
        cases hrun
        exact rS_i C hr hlk hQ (nbi _) rfl dX3_turnTo_29
      · have hrun := p_neg hrun c1
        refine lv_aload_n hx hb dX3_turnTo_10 rfl (lv_at hl 0 rfl) ?_
        refine lv_iload_n hx hb dX3_turnTo_11 rfl (lv_at hl 2 rfl) ?_
        obtain ⟨r2, h_r2, hrun⟩ := p_bnd hrun
        refine jVS_i (rest := []) C (c3_rotation hi h_r2) gX3_turnTo_X3_rotation hd3_rotation hK hN hP ⟨_, 3, _, _, hi, rfl, rfl⟩ rfl ⟨rfl, rfl⟩ ⟨Nat.le_of_ble_eq_true rfl, Nat.le_of_ble_eq_true rfl⟩ rfl hl.1 rfl (Nat.le_of_ble_eq_true rfl) ⟨Nat.le_of_ble_eq_true rfl, Nat.le_of_ble_eq_true rfl⟩ dX3_turnTo_12 ?_
        refine lv_iload_n hx hb dX3_turnTo_15 rfl (lv_at hl 1 rfl) ?_
        refine lv_icmp_ne (tgt := 21) hx hb dX3_turnTo_16 rfl (fun c3 => ?_) (fun c3 => ?_)
        · have hrun := p_neg hrun c3
          refine lv_iinc (v := x3 + 1) (lv' := [(3, .int (x3 + 1)), (0, .ref h0), (1, .int x1)]) hx hb dX3_turnTo_21 hl (k := 2) rfl rfl (by decide) rfl (fun ls hl => ?_)
          refine lv_goto (tgt := 2) hx hb dX3_turnTo_24 rfl ?_
          exact ih (x3 + 1) hrun _ (lv_sub hl [1, 2, 0] rfl)
        · have hrun := p_pos hrun c3
          refine lv_iload_n hx hb dX3_turnTo_19 rfl (lv_at hl 2 rfl) ?_
          cases hrun
          exact rS_i C hr hlk hQ (nbi _) rfl dX3_turnTo_20
  unfold P3_turnTo at hrun
  refine lv_iload_n hx hb dX3_turnTo_0 rfl (lv_at hl 2 rfl) ?_
  refine lv_istore_n (lv' := [(3, .int x2), (0, .ref h0), (1, .int x1), (2, .int x2)]) hx hb dX3_turnTo_1 rfl hl (by decide) rfl (fun ls hl => ?_)
  exact loop_2 FU x2 hrun _ (lv_sub hl [1, 2, 0] rfl)

abbrev rm3_isConjugate : Room := { frames := 2, cells := 0, slots := 0, locals := 44 }
theorem k3_isConjugate_54 : Cond.constant RX3 54 (-2000000001) ∈ wsX3_isConjugate := by decide +kernel
theorem hd3_isConjugate : okD yX3_isConjugate 1 := by decide +kernel
set_option maxHeartbeats 8000000 in
set_option maxRecDepth 100000 in
theorem c3_isConjugate {x1 : Int32} {res : Int32} (hi : w[i]? = some (h0, .inr (3, wl v_bits v_size v_allBits v_a v_b v_c v_d))) (hrun : P3_isConjugate v_bits v_size v_allBits x1 = some res) : Met l yX3_isConjugate wsX3_isConjugate rm3_isConjugate (va_Pc [.ref h0, .int x1] (PS D tys w)) (vp_Si (fun x => x = res)) 0 0 (fun _ => False) := by
  refine S_in (cc := cX3_isConjugate) (maxL := 2) (ret := (some .boolean)) (by decide) rfl (Nat.le_of_ble_eq_true rfl) ?_
  intro p e s m args below meth c ls Q hQ C hr hlk hK hN hP hl
  have C : CallFix p m c cX3_isConjugate 2 s args wsX3_isConjugate RX3 := C
  have hx := C.1
  have hb := C.2.1
  have hl : lv_has ls 2 [(0, .ref h0), (1, .int x1)] := hl
  unfold P3_isConjugate at hrun
  refine lv_aload_n hx hb dX3_isConjugate_0 rfl (lv_at hl 0 rfl) ?_
  refine lv_iload_n hx hb dX3_isConjugate_1 rfl (lv_at hl 1 rfl) ?_
  refine lv_iconst (v := 0) hx hb dX3_isConjugate_2 rfl ?_
  obtain ⟨r1, h_r1, hrun⟩ := p_bnd hrun
  refine jVS_i (rest := []) C (c3_turnTo hi h_r1) gX3_isConjugate_X3_turnTo hd3_turnTo hK hN hP ⟨_, 3, _, _, hi, rfl, rfl⟩ rfl ⟨rfl, rfl⟩ ⟨Nat.le_of_ble_eq_true rfl, Nat.le_of_ble_eq_true rfl⟩ rfl hl.1 rfl (Nat.le_of_ble_eq_true rfl) ⟨Nat.le_of_ble_eq_true rfl, Nat.le_of_ble_eq_true rfl⟩ dX3_isConjugate_3 ?_
  refine lv_ldc (v := (-2000000001)) hx hb C.2.2.2.1 (C.2.2.2.2 _ k3_isConjugate_54) dX3_isConjugate_6 ?_
  refine lv_icmp_eq (tgt := 15) hx hb dX3_isConjugate_8 rfl (fun c2 => ?_) (fun c2 => ?_)
  · have hrun := p_pos hrun c2
    refine lv_iconst (v := 0) hx hb dX3_isConjugate_15 rfl ?_
    cases hrun
    exact rS_i C hr hlk hQ (nb01 (Or.inl rfl)) rfl dX3_isConjugate_16
  · have hrun := p_neg hrun c2
    refine lv_iconst (v := 1) hx hb dX3_isConjugate_11 rfl ?_
    refine lv_goto (tgt := 16) hx hb dX3_isConjugate_12 rfl ?_
    cases hrun
    exact rS_i C hr hlk hQ (nb01 (Or.inr rfl)) rfl dX3_isConjugate_16

abbrev rm3_period : Room := { frames := 2, cells := 0, slots := 0, locals := 44 }
theorem fl3_period_15 : Cond.fieldLink RX3 15 "RiverWords$Word" "bits" "I" ∈ wsX3_period := by decide +kernel
theorem fl3_period_19 : Cond.fieldLink RX3 19 "RiverWords$Word" "size" "I" ∈ wsX3_period := by decide +kernel
theorem k3_period_54 : Cond.constant RX3 54 (-2000000001) ∈ wsX3_period := by decide +kernel
theorem inm3_period_X3 : ∀ w ∈ wsX30, w ∈ wsX3_period := by decide +kernel
theorem hd3_period : okD yX3_period 0 := by decide +kernel
set_option maxHeartbeats 8000000 in
set_option maxRecDepth 100000 in
theorem c3_period {res : Int32} (hi : w[i]? = some (h0, .inr (3, wl v_bits v_size v_allBits v_a v_b v_c v_d))) (hrun : P3_period v_bits v_size v_allBits = some res) : Met l yX3_period wsX3_period rm3_period (va_Pc [.ref h0] (PS D tys w)) (vp_Si (fun x => x = res)) 0 0 (fun _ => False) := by
  refine S_in (cc := cX3_period) (maxL := 2) (ret := (some .int)) (by decide) rfl (Nat.le_of_ble_eq_true rfl) ?_
  intro p e s m args below meth c ls Q hQ C hr hlk hK hN hP hl
  have C : CallFix p m c cX3_period 2 s args wsX3_period RX3 := C
  have hx := C.1
  have hb := C.2.1
  have hl : lv_has ls 2 [(0, .ref h0)] := hl
  unfold P3_period at hrun
  refine lv_aload_n hx hb dX3_period_0 rfl (lv_at hl 0 rfl) ?_
  refine lv_aload_n hx hb dX3_period_1 rfl (lv_at hl 0 rfl) ?_
  refine gW_bits hi C inm3_period_X3 hK hP fl3_period_15 dX3_period_2 ?_
  refine lv_iconst (v := 1) hx hb dX3_period_5 rfl ?_
  obtain ⟨r1, h_r1, hrun⟩ := p_bnd hrun
  refine jVS_i (rest := []) C (c3_turnTo hi h_r1) gX3_period_X3_turnTo hd3_turnTo hK hN hP ⟨_, 3, _, _, hi, rfl, rfl⟩ rfl ⟨rfl, rfl⟩ ⟨Nat.le_of_ble_eq_true rfl, Nat.le_of_ble_eq_true rfl⟩ rfl hl.1 rfl (Nat.le_of_ble_eq_true rfl) ⟨Nat.le_of_ble_eq_true rfl, Nat.le_of_ble_eq_true rfl⟩ dX3_period_6 ?_
  refine lv_istore_n (lv' := [(1, .int r1), (0, .ref h0)]) hx hb dX3_period_9 rfl hl (by decide) rfl (fun ls hl => ?_)
  refine lv_iload_n hx hb dX3_period_10 rfl (lv_at hl 0 rfl) ?_
  refine lv_ldc (v := (-2000000001)) hx hb C.2.2.2.1 (C.2.2.2.2 _ k3_period_54) dX3_period_11 ?_
  refine lv_icmp_ne (tgt := 23) hx hb dX3_period_13 rfl (fun c2 => ?_) (fun c2 => ?_)
  · have hrun := p_neg hrun c2
    refine lv_iload_n hx hb dX3_period_23 rfl (lv_at hl 0 rfl) ?_
    cases hrun
    exact rS_i C hr hlk hQ (nbi _) rfl dX3_period_24
  · have hrun := p_pos hrun c2
    refine lv_aload_n hx hb dX3_period_16 rfl (lv_at hl 1 rfl) ?_
    refine gW_size hi C inm3_period_X3 hK hP fl3_period_19 dX3_period_17 ?_
    refine lv_goto (tgt := 24) hx hb dX3_period_20 rfl ?_
    cases hrun
    exact rS_i C hr hlk hQ (nbi _) rfl dX3_period_24

abbrev rm3_formNumber : Room := { frames := 2, cells := 0, slots := 0, locals := 46 }
theorem fl3_formNumber_25 : Cond.fieldLink RX3 25 "RiverWords$Word" "a" "I" ∈ wsX3_formNumber := by decide +kernel
theorem fl3_formNumber_28 : Cond.fieldLink RX3 28 "RiverWords$Word" "b" "I" ∈ wsX3_formNumber := by decide +kernel
theorem fl3_formNumber_31 : Cond.fieldLink RX3 31 "RiverWords$Word" "c" "I" ∈ wsX3_formNumber := by decide +kernel
theorem fl3_formNumber_34 : Cond.fieldLink RX3 34 "RiverWords$Word" "d" "I" ∈ wsX3_formNumber := by decide +kernel
theorem inm3_formNumber_X3 : ∀ w ∈ wsX30, w ∈ wsX3_formNumber := by decide +kernel
theorem ns3_formNumber_X4_commonDivisor : Cond.static yX4_commonDivisor ∈ wsX3_formNumber := by decide +kernel
theorem ns3_formNumber_X4_discriminantOf : Cond.static yX4_discriminantOf ∈ wsX3_formNumber := by decide +kernel
theorem ni3_formNumber : Cond.initialized RX4 ∈ wsX3_formNumber := by decide +kernel
theorem hd3_formNumber : okD yX3_formNumber 1 := by decide +kernel
set_option maxHeartbeats 8000000 in
set_option maxRecDepth 100000 in
theorem c3_formNumber {x1 : Int32} {res : Int32} (hi : w[i]? = some (h0, .inr (3, wl v_bits v_size v_allBits v_a v_b v_c v_d))) (hrun : P3_formNumber v_a v_b v_c v_d x1 = some res) : Met l yX3_formNumber wsX3_formNumber rm3_formNumber (va_Pc [.ref h0, .int x1] (PS D tys w)) (vp_Si (fun x => x = res)) 0 0 (fun _ => False) := by
  refine S_in (cc := cX3_formNumber) (maxL := 6) (ret := (some .int)) (by decide) rfl (Nat.le_of_ble_eq_true rfl) ?_
  intro p e s m args below meth c ls Q hQ C hr hlk hK hN hP hl
  have C : CallFix p m c cX3_formNumber 6 s args wsX3_formNumber RX3 := C
  have hx := C.1
  have hb := C.2.1
  have hl : lv_has ls 6 [(0, .ref h0), (1, .int x1)] := hl
  unfold P3_formNumber at hrun
  refine lv_aload_n hx hb dX3_formNumber_0 rfl (lv_at hl 0 rfl) ?_
  refine gW_c hi C inm3_formNumber_X3 hK hP fl3_formNumber_31 dX3_formNumber_1 ?_
  refine lv_aload_n hx hb dX3_formNumber_4 rfl (lv_at hl 0 rfl) ?_
  refine gW_d hi C inm3_formNumber_X3 hK hP fl3_formNumber_34 dX3_formNumber_5 ?_
  refine lv_aload_n hx hb dX3_formNumber_8 rfl (lv_at hl 0 rfl) ?_
  refine gW_a hi C inm3_formNumber_X3 hK hP fl3_formNumber_25 dX3_formNumber_9 ?_
  refine lv_isub hx hb dX3_formNumber_12 ?_
  obtain ⟨r1, h_r1, hrun⟩ := p_bnd hrun
  refine jNS_i (rest := []) C (c4_commonDivisor h_r1) gX3_formNumber_X4_commonDivisor_n59 hN.1 ni3_formNumber ns3_formNumber_X4_commonDivisor hd4_commonDivisor rfl ⟨rfl, rfl⟩ ⟨Nat.le_of_ble_eq_true rfl, Nat.le_of_ble_eq_true rfl⟩ rfl hl.1 rfl (Nat.le_of_ble_eq_true rfl) ⟨Nat.le_of_ble_eq_true rfl, Nat.le_of_ble_eq_true rfl⟩ dX3_formNumber_13 ?_
  refine lv_aload_n hx hb dX3_formNumber_16 rfl (lv_at hl 0 rfl) ?_
  refine gW_b hi C inm3_formNumber_X3 hK hP fl3_formNumber_28 dX3_formNumber_17 ?_
  obtain ⟨r2, h_r2, hrun⟩ := p_bnd hrun
  refine jNS_i (rest := []) C (c4_commonDivisor h_r2) gX3_formNumber_X4_commonDivisor_n59 hN.1 ni3_formNumber ns3_formNumber_X4_commonDivisor hd4_commonDivisor rfl ⟨rfl, rfl⟩ ⟨Nat.le_of_ble_eq_true rfl, Nat.le_of_ble_eq_true rfl⟩ rfl hl.1 rfl (Nat.le_of_ble_eq_true rfl) ⟨Nat.le_of_ble_eq_true rfl, Nat.le_of_ble_eq_true rfl⟩ dX3_formNumber_20 ?_
  refine lv_istore_n (lv' := [(2, .int r2), (0, .ref h0), (1, .int x1)]) hx hb dX3_formNumber_23 rfl hl (by decide) rfl (fun ls hl => ?_)
  refine lv_aload_n hx hb dX3_formNumber_24 rfl (lv_at hl 1 rfl) ?_
  refine gW_c hi C inm3_formNumber_X3 hK hP fl3_formNumber_31 dX3_formNumber_25 ?_
  refine lv_iload_n hx hb dX3_formNumber_28 rfl (lv_at hl 0 rfl) ?_
  obtain ⟨z3, hrun⟩ := p_chk hrun
  refine lv_idiv hx hb dX3_formNumber_29 z3 ?_
  refine lv_istore_n (lv' := [(3, .int (v_c / r2)), (2, .int r2), (0, .ref h0), (1, .int x1)]) hx hb dX3_formNumber_30 rfl hl (by decide) rfl (fun ls hl => ?_)
  refine lv_aload_n hx hb dX3_formNumber_31 rfl (lv_at hl 2 rfl) ?_
  refine gW_d hi C inm3_formNumber_X3 hK hP fl3_formNumber_34 dX3_formNumber_32 ?_
  refine lv_aload_n hx hb dX3_formNumber_35 rfl (lv_at hl 2 rfl) ?_
  refine gW_a hi C inm3_formNumber_X3 hK hP fl3_formNumber_25 dX3_formNumber_36 ?_
  refine lv_isub hx hb dX3_formNumber_39 ?_
  refine lv_iload_n hx hb dX3_formNumber_40 rfl (lv_at hl 1 rfl) ?_
  obtain ⟨z4, hrun⟩ := p_chk hrun
  refine lv_idiv hx hb dX3_formNumber_41 z4 ?_
  refine lv_istore (lv' := [(4, .int ((v_d - v_a) / r2)), (3, .int (v_c / r2)), (2, .int r2), (0, .ref h0), (1, .int x1)]) hx hb dX3_formNumber_42 hl (by decide) rfl (fun ls hl => ?_)
  refine lv_aload_n hx hb dX3_formNumber_44 rfl (lv_at hl 3 rfl) ?_
  refine gW_b hi C inm3_formNumber_X3 hK hP fl3_formNumber_28 dX3_formNumber_45 ?_
  refine lv_ineg hx hb dX3_formNumber_48 ?_
  refine lv_iload_n hx hb dX3_formNumber_49 rfl (lv_at hl 2 rfl) ?_
  obtain ⟨z5, hrun⟩ := p_chk hrun
  refine lv_idiv hx hb dX3_formNumber_50 z5 ?_
  refine lv_istore (lv' := [(5, .int ((-v_b) / r2)), (4, .int ((v_d - v_a) / r2)), (3, .int (v_c / r2)), (2, .int r2), (0, .ref h0), (1, .int x1)]) hx hb dX3_formNumber_51 hl (by decide) rfl (fun ls hl => ?_)
  refine lv_iload_n hx hb dX3_formNumber_53 rfl (lv_at hl 5 rfl) ?_
  by_cases c6 : x1 = 0
  · have hrun := p_pos hrun c6
    refine j_tswIn  (tgt := 84) hx hb 0 c6 dX3_formNumber_54 (by decide) (by decide) rfl rfl ?_
    refine lv_iload_n hx hb dX3_formNumber_84 rfl (lv_at hl 2 rfl) ?_
    cases hrun
    exact rS_i C hr hlk hQ (nbi _) rfl dX3_formNumber_85
  · have hrun := p_neg hrun c6
    by_cases c7 : x1 = 1
    · have hrun := p_pos hrun c7
      refine j_tswIn  (tgt := 86) hx hb 1 c7 dX3_formNumber_54 (by decide) (by decide) rfl rfl ?_
      refine lv_iload hx hb dX3_formNumber_86 (lv_at hl 1 rfl) ?_
      cases hrun
      exact rS_i C hr hlk hQ (nbi _) rfl dX3_formNumber_88
    · have hrun := p_neg hrun c7
      by_cases c8 : x1 = 2
      · have hrun := p_pos hrun c8
        refine j_tswIn  (tgt := 89) hx hb 2 c8 dX3_formNumber_54 (by decide) (by decide) rfl rfl ?_
        refine lv_iload hx hb dX3_formNumber_89 (lv_at hl 0 rfl) ?_
        cases hrun
        exact rS_i C hr hlk hQ (nbi _) rfl dX3_formNumber_91
      · have hrun := p_neg hrun c8
        by_cases c9 : x1 = 3
        · have hrun := p_pos hrun c9
          refine j_tswIn  (tgt := 92) hx hb 3 c9 dX3_formNumber_54 (by decide) (by decide) rfl rfl ?_
          refine lv_iload_n hx hb dX3_formNumber_92 rfl (lv_at hl 3 rfl) ?_
          cases hrun
          exact rS_i C hr hlk hQ (nbi _) rfl dX3_formNumber_93
        · have hrun := p_neg hrun c9
          refine lv_tableOut (tgt := 94) hx hb dX3_formNumber_54 (j_tswOut (lo := 0) (hi := 3) [0, 1, 2, 3] (by decide) (fun k hk => by simp only [List.mem_cons, List.not_mem_nil, or_false] at hk; rcases hk with rfl | rfl | rfl | rfl <;> assumption)) rfl ?_
          refine lv_iload_n hx hb dX3_formNumber_94 rfl (lv_at hl 2 rfl) ?_
          refine lv_iload hx hb dX3_formNumber_95 (lv_at hl 1 rfl) ?_
          refine lv_iload hx hb dX3_formNumber_97 (lv_at hl 0 rfl) ?_
          obtain ⟨r10, h_r10, hrun⟩ := p_bnd hrun
          refine jNS_i (rest := []) C (c4_discriminantOf h_r10) gX3_formNumber_X4_discriminantOf_n62 hN.2.1 ni3_formNumber ns3_formNumber_X4_discriminantOf hd4_discriminantOf rfl ⟨rfl, rfl⟩ ⟨Nat.le_of_ble_eq_true rfl, Nat.le_of_ble_eq_true rfl⟩ rfl hl.1 rfl (Nat.le_of_ble_eq_true rfl) ⟨Nat.le_of_ble_eq_true rfl, Nat.le_of_ble_eq_true rfl⟩ dX3_formNumber_99 ?_
          cases hrun
          exact rS_i C hr hlk hQ (nbi _) rfl dX3_formNumber_102

end W3
