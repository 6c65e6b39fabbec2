section N4
variable {l : Launch} {D : va_G} {sz : Nat}
abbrev rm4_commonDivisor : Room := { frames := 1, cells := 0, slots := 0, locals := 21 }
theorem jl4_commonDivisor_abs : Cond.methodLink RX4 290 Lib.Math.abs.name ∈ wsX4_commonDivisor := by decide +kernel
theorem js4_commonDivisor_abs : Cond.static Lib.Math.abs.name ∈ wsX4_commonDivisor := by decide +kernel
theorem jc4_commonDivisor_abs : Cond.code Lib.Math.abs.name Lib.Math.abs.code 1 (some .int) ∈ wsX4_commonDivisor := by decide +kernel
theorem jl4_commonDivisor_max : Cond.methodLink RX4 295 Lib.Math.max.name ∈ wsX4_commonDivisor := by decide +kernel
theorem js4_commonDivisor_max : Cond.static Lib.Math.max.name ∈ wsX4_commonDivisor := by decide +kernel
theorem jc4_commonDivisor_max : Cond.code Lib.Math.max.name Lib.Math.max.code 2 (some .int) ∈ wsX4_commonDivisor := by decide +kernel
theorem ji4_commonDivisor : Cond.initialized "java/lang/Math" ∈ wsX4_commonDivisor := by decide +kernel
theorem hd4_commonDivisor : okD yX4_commonDivisor 2 := by decide +kernel
set_option maxHeartbeats 8000000 in
set_option maxRecDepth 100000 in
theorem c4_commonDivisor {x0 : Int32} {x1 : Int32} {res : Int32} (hrun : P4_commonDivisor x0 x1 = some res) : Met l yX4_commonDivisor wsX4_commonDivisor rm4_commonDivisor (va_Pc [.int x0, .int x1] PN) (vp_Si (fun x => x = res)) 0 0 (fun _ => False) := by
  refine N_in (cc := cX4_commonDivisor) (maxL := 6) (ret := (some .int)) (by decide) rfl (Nat.le_of_ble_eq_true rfl) ?_
  intro p e s m args below meth c ls Q hQ C hr hlk hl
  have C : CallFix p m c cX4_commonDivisor 6 s args wsX4_commonDivisor RX4 := C
  have hx := C.1
  have hb := C.2.1
  have hl : lv_has ls 6 [(0, .int x0), (1, .int x1)] := hl
  have loop_13 : ∀ (n : Nat) (x2 : Int32) (x3 : Int32) (x4 : Int32) (out : Int32), P4_commonDivisor_13 n x2 x3 x4 = some out → (∀ (ls : Array Slot), lv_has ls 6 [(2, .int out)] → W p l e rm4_commonDivisor s m args below meth c s.heap [] 0 0 Q (F0 m 40 ls [])) → ∀ (ls : Array Slot), lv_has ls 6 [(2, .int x2), (3, .int x3), (4, .int x4)] → W p l e rm4_commonDivisor s m args below meth c s.heap [] 0 0 Q (F0 m 13 ls []) := by
    intro n
    induction n with
    | zero =>
      intro x2 x3 x4 out hrun K ls hl
      cases hrun
    | succ n ih =>
      intro x2 x3 x4 out hrun K ls hl
      rw [P4_commonDivisor_13] at hrun
      refine lv_iload hx hb dX4_commonDivisor_13 (lv_at hl 2 rfl) ?_
      refine lv_bipush (v := 100) hx hb dX4_commonDivisor_15 rfl ?_
      refine lv_icmp_ge (tgt := 40) hx hb dX4_commonDivisor_17 rfl (fun c1 => ?_) (fun c1 => ?_)
      · have hrun := p_pos hrun c1
        cases hrun
        exact K _ (lv_sub hl [0] rfl)
      · have hrun := p_neg hrun c1
        refine lv_iload_n hx hb dX4_commonDivisor_20 rfl (lv_at hl 1 rfl) ?_
        refine lv_if_le (tgt := 40) hx hb dX4_commonDivisor_21 rfl (fun c2 => ?_) (fun c2 => ?_)
        · have hrun := p_pos hrun c2
          cases hrun
          exact K _ (lv_sub hl [0] rfl)
        · have hrun := p_neg hrun c2
          refine lv_iload_n hx hb dX4_commonDivisor_24 rfl (lv_at hl 0 rfl) ?_
          refine lv_iload_n hx hb dX4_commonDivisor_25 rfl (lv_at hl 1 rfl) ?_
          obtain ⟨z3, hrun⟩ := p_chk hrun
          refine j_irem hx hb dX4_commonDivisor_26 z3 ?_
          refine lv_istore (lv' := [(5, .int (jrem x2 x3)), (2, .int x2), (3, .int x3), (4, .int x4)]) hx hb dX4_commonDivisor_27 hl (by decide) rfl (fun ls hl => ?_)
          refine lv_iload_n hx hb dX4_commonDivisor_29 rfl (lv_at hl 2 rfl) ?_
          refine lv_istore_n (lv' := [(2, .int x3), (5, .int (jrem x2 x3)), (3, .int x3), (4, .int x4)]) hx hb dX4_commonDivisor_30 rfl hl (by decide) rfl (fun ls hl => ?_)
          refine lv_iload hx hb dX4_commonDivisor_31 (lv_at hl 1 rfl) ?_
          refine lv_istore_n (lv' := [(3, .int (jrem x2 x3)), (2, .int x3), (5, .int (jrem x2 x3)), (4, .int x4)]) hx hb dX4_commonDivisor_33 rfl hl (by decide) rfl (fun ls hl => ?_)
          refine lv_iinc (v := x4 + 1) (lv' := [(4, .int (x4 + 1)), (3, .int (jrem x2 x3)), (2, .int x3), (5, .int (jrem x2 x3))]) hx hb dX4_commonDivisor_34 hl (k := 3) rfl rfl (by decide) rfl (fun ls hl => ?_)
          refine lv_goto (tgt := 13) hx hb dX4_commonDivisor_37 rfl ?_
          exact ih x3 (jrem x2 x3) (x4 + 1) out hrun K _ (lv_sub hl [2, 1, 0] rfl)
  unfold P4_commonDivisor at hrun
  refine lv_iload_n hx hb dX4_commonDivisor_0 rfl (lv_at hl 0 rfl) ?_
  refine va_mabs hx hb (by rw [C.2.2.1]; exact hl.1.symm) C.2.2.2.1 (C.2.2.2.2 _ jl4_commonDivisor_abs) (C.2.2.2.2 _ js4_commonDivisor_abs) (C.2.2.2.2 _ ji4_commonDivisor) (C.2.2.2.2 _ jc4_commonDivisor_abs) (Nat.le_of_ble_eq_true rfl) (Nat.le_of_ble_eq_true rfl) (Nat.zero_le _) (Nat.zero_le _) dX4_commonDivisor_1 ?_
  refine lv_istore_n (lv' := [(2, .int (jabs x0)), (0, .int x0), (1, .int x1)]) hx hb dX4_commonDivisor_4 rfl hl (by decide) rfl (fun ls hl => ?_)
  refine lv_iload_n hx hb dX4_commonDivisor_5 rfl (lv_at hl 2 rfl) ?_
  refine va_mabs hx hb (by rw [C.2.2.1]; exact hl.1.symm) C.2.2.2.1 (C.2.2.2.2 _ jl4_commonDivisor_abs) (C.2.2.2.2 _ js4_commonDivisor_abs) (C.2.2.2.2 _ ji4_commonDivisor) (C.2.2.2.2 _ jc4_commonDivisor_abs) (Nat.le_of_ble_eq_true rfl) (Nat.le_of_ble_eq_true rfl) (Nat.zero_le _) (Nat.zero_le _) dX4_commonDivisor_6 ?_
  refine lv_istore_n (lv' := [(3, .int (jabs x1)), (2, .int (jabs x0)), (0, .int x0), (1, .int x1)]) hx hb dX4_commonDivisor_9 rfl hl (by decide) rfl (fun ls hl => ?_)
  refine lv_iconst (v := 0) hx hb dX4_commonDivisor_10 rfl ?_
  refine lv_istore (lv' := [(4, .int 0), (3, .int (jabs x1)), (2, .int (jabs x0)), (0, .int x0), (1, .int x1)]) hx hb dX4_commonDivisor_11 hl (by decide) rfl (fun ls hl => ?_)
  obtain ⟨o4, h_o4, hrun⟩ := p_bnd hrun
  refine loop_13 FU (jabs x0) (jabs x1) 0 o4 h_o4 (fun ls hl => ?_) _ (lv_sub hl [2, 1, 0] rfl)
  refine lv_iconst (v := 1) hx hb dX4_commonDivisor_40 rfl ?_
  refine lv_iload_n hx hb dX4_commonDivisor_41 rfl (lv_at hl 0 rfl) ?_
  refine va_mmax hx hb (by rw [C.2.2.1]; exact hl.1.symm) C.2.2.2.1 (C.2.2.2.2 _ jl4_commonDivisor_max) (C.2.2.2.2 _ js4_commonDivisor_max) (C.2.2.2.2 _ ji4_commonDivisor) (C.2.2.2.2 _ jc4_commonDivisor_max) (Nat.le_of_ble_eq_true rfl) (Nat.le_of_ble_eq_true rfl) (Nat.zero_le _) (Nat.zero_le _) dX4_commonDivisor_42 ?_
  cases hrun
  exact rS_i C hr hlk hQ (nbi _) rfl dX4_commonDivisor_45

abbrev rm4_discriminantOf : Room := { frames := 0, cells := 0, slots := 0, locals := 0 }
theorem hd4_discriminantOf : okD yX4_discriminantOf 3 := by decide +kernel
set_option maxHeartbeats 8000000 in
set_option maxRecDepth 100000 in
theorem c4_discriminantOf {x0 : Int32} {x1 : Int32} {x2 : Int32} {res : Int32} (hrun : P4_discriminantOf x0 x1 x2 = some res) : Met l yX4_discriminantOf wsX4_discriminantOf rm4_discriminantOf (va_Pc [.int x0, .int x1, .int x2] PN) (vp_Si (fun x => x = res)) 0 0 (fun _ => False) := by
  refine N_in (cc := cX4_discriminantOf) (maxL := 3) (ret := (some .int)) (by decide) rfl (Nat.le_of_ble_eq_true rfl) ?_
  intro p e s m args below meth c ls Q hQ C hr hlk hl
  have C : CallFix p m c cX4_discriminantOf 3 s args wsX4_discriminantOf RX4 := C
  have hx := C.1
  have hb := C.2.1
  have hl : lv_has ls 3 [(0, .int x0), (1, .int x1), (2, .int x2)] := hl
  unfold P4_discriminantOf at hrun
  refine lv_iload_n hx hb dX4_discriminantOf_0 rfl (lv_at hl 1 rfl) ?_
  refine lv_iload_n hx hb dX4_discriminantOf_1 rfl (lv_at hl 1 rfl) ?_
  refine lv_imul hx hb dX4_discriminantOf_2 ?_
  refine lv_iconst (v := 4) hx hb dX4_discriminantOf_3 rfl ?_
  refine lv_iload_n hx hb dX4_discriminantOf_4 rfl (lv_at hl 0 rfl) ?_
  refine lv_imul hx hb dX4_discriminantOf_5 ?_
  refine lv_iload_n hx hb dX4_discriminantOf_6 rfl (lv_at hl 2 rfl) ?_
  refine lv_imul hx hb dX4_discriminantOf_7 ?_
  refine lv_isub hx hb dX4_discriminantOf_8 ?_
  cases hrun
  exact rS_i C hr hlk hQ (nbi _) rfl dX4_discriminantOf_9

abbrev rm4_code : Room := { frames := 0, cells := 0, slots := 0, locals := 0 }
theorem hd4_code : okD yX4_code 1 := by decide +kernel
set_option maxHeartbeats 8000000 in
set_option maxRecDepth 100000 in
theorem c4_code {x0 : Int32} {res : Int32} (hrun : P4_code x0 = some res) : Met l yX4_code wsX4_code rm4_code (va_Pc [.int x0] PN) (vp_Si (fun x => x = res)) 0 0 (fun _ => False) := by
  refine N_in (cc := cX4_code) (maxL := 1) (ret := (some .int)) (by decide) rfl (Nat.le_of_ble_eq_true rfl) ?_
  intro p e s m args below meth c ls Q hQ C hr hlk hl
  have C : CallFix p m c cX4_code 1 s args wsX4_code RX4 := C
  have hx := C.1
  have hb := C.2.1
  have hl : lv_has ls 1 [(0, .int x0)] := hl
  unfold P4_code at hrun
  refine lv_iload_n hx hb dX4_code_0 rfl (lv_at hl 0 rfl) ?_
  refine lv_iconst (v := 1) hx hb dX4_code_1 rfl ?_
  refine lv_icmp_ne (tgt := 10) hx hb dX4_code_2 rfl (fun c1 => ?_) (fun c1 => ?_)
  · have hrun := p_neg hrun c1
    refine lv_bipush (v := 76) hx hb dX4_code_10 rfl ?_
    cases hrun
    exact rS_i C hr hlk hQ (nbi _) rfl dX4_code_12
  · have hrun := p_pos hrun c1
    refine lv_bipush (v := 82) hx hb dX4_code_5 rfl ?_
    refine lv_goto (tgt := 12) hx hb dX4_code_7 rfl ?_
    cases hrun
    exact rS_i C hr hlk hQ (nbi _) rfl dX4_code_12

end N4
abbrev wl (b s al a bb c d : Int32) : List Value := [.int b, .int s, .int al, .int a, .int bb, .int c, .int d]
def wW (w : va_W) (i h0 : Nat) (b s al a bb c d : Int32) : va_W := w.set i (h0, .inr (3, wl b s al a bb c d))
theorem wW_get {w : va_W} {i h0 : Nat} {b s al a bb c d : Int32} (hi : i < w.length) : (wW w i h0 b s al a bb c d)[i]? = some (h0, .inr (3, wl b s al a bb c d)) := by
  unfold wW
  rw [List.getElem?_set_self hi]
theorem wW_map {w : va_W} {i h0 : Nat} {b s al a bb c d : Int32} : (wW w i h0 b s al a bb c d).map (fun q => q.1) = (w.map (fun q => q.1)).set i h0 := by
  unfold wW
  rw [List.map_set]
theorem wW_D {A : Nat → Prop} {w : va_W} {i h0 : Nat} {b s al a bb c d b2 s2 al2 a2 bb2 c2 d2 : Int32} (hD : va_D A (wW w i h0 b s al a bb c d)) : va_D A (wW w i h0 b2 s2 al2 a2 bb2 c2 d2) := va_D_congr (by rw [wW_map, wW_map]) hD
section WR
variable {p : Program} {l : Launch} {e : Env} {R : Room} {s : State} {m : MethodId} {args : Array Value} {below : List Frame} {meth : Method} {c : Code} {H : Heap} {locs : List Loc} {cells slots : Nat} {Q : State → Prop}
variable {cc : ByteArray} {pc : Nat} {ls : Array Slot} {rest : List Value} {D : va_G} {A : Nat → Prop} {H0 : Heap} {nL index : Nat} {Ts : List Cond} {own : String}
variable {w : va_W} {i i2 h0 h1 : Nat} {tys : List (ClassId × FieldType)}
variable {v_bits v_size v_allBits v_a v_b v_c v_d v_o_bits v_o_size v_o_allBits v_o_a v_o_b v_o_c v_o_d : Int32}

theorem gW_bits (hi : w[i]? = some (h0, .inr (3, wl v_bits v_size v_allBits v_a v_b v_c v_d))) (C : CallFix p m c cc nL s args Ts own) (hin : ∀ w ∈ wsX30, w ∈ Ts) (hK : va_K D vwCl tys s) (hP : va_P D vwCl w H) (hl : Cond.fieldLink own index "RiverWords$Word" "bits" "I" ∈ Ts) (hdg : decode cc pc = .ok (.getfield index, 3)) (kk : W p l e R s m args below meth c H locs cells slots Q (F0 m (pc + 3) ls (.int v_bits :: rest))) : W p l e R s m args below meth c H locs cells slots Q (F0 m pc ls (.ref h0 :: rest)) :=
  va_get (D := D) (ci := 3) (v := .int v_bits) (C := RX3) (T := TX3) (N := 7) C.1 C.2.1 C.2.2.2.2 hin C.2.2.2.1 hK hP i hi rfl 0 (by decide) (C.2.2.2.2 _ hl) (fun _ h9 => h9) rfl hdg kk
theorem gWE_bits (hi : i < w.length) (C : CallFix p m c cc nL s args Ts own) (hin : ∀ w ∈ wsX30, w ∈ Ts) (hK : va_K D vwCl tys s) (hP : va_P D vwCl (wW w i h0 v_bits v_size v_allBits v_a v_b v_c v_d) H) (hl : Cond.fieldLink own index "RiverWords$Word" "bits" "I" ∈ Ts) (hdg : decode cc pc = .ok (.getfield index, 3)) (kk : W p l e R s m args below meth c H locs cells slots Q (F0 m (pc + 3) ls (.int v_bits :: rest))) : W p l e R s m args below meth c H locs cells slots Q (F0 m pc ls (.ref h0 :: rest)) := gW_bits (wW_get hi) C hin hK hP hl hdg kk
theorem pWE_bits {x z0 z1 z2 z3 z4 z5 z6 : Int32} (hi : i < w.length) (C : CallFix p m c cc nL s args Ts own) (hin : ∀ w ∈ wsX30, w ∈ Ts) (hK : va_K D vwCl tys s) (hD : va_D A (wW w i h0 z0 z1 z2 z3 z4 z5 z6)) (I : IM D A H0 H locs (wW w i h0 v_bits v_size v_allBits v_a v_b v_c v_d)) (hl : Cond.fieldLink own index "RiverWords$Word" "bits" "I" ∈ Ts) (hdg : decode cc pc = .ok (.putfield index, 3)) (kk : ∀ (H1 : Heap) (locs1 : List Loc), IM D A H0 H1 locs1 (wW w i h0 x v_size v_allBits v_a v_b v_c v_d) → W p l e R s m args below meth c H1 locs1 cells slots Q (F0 m (pc + 3) ls rest)) : W p l e R s m args below meth c H locs cells slots Q (F0 m pc ls (.int x :: .ref h0 :: rest)) := by
  refine va_put (D := D) (ci := 3) (v := .int x) (ty := .int) (C := RX3) (T := TX3) (N := 7) C.1 C.2.1 C.2.2.2.2 hin tyX3 tyX3_ok nmX3 C.2.2.2.1 hK I.1 (wW_D hD) I.2 i (wW_get hi) rfl 0 (by decide) (C.2.2.2.2 _ hl) (fun _ h9 => h9) rfl (by decide +kernel) rfl rfl (Nat.le_of_ble_eq_true rfl) hdg (fun H1 locs1 hP1 _ hS1 => kk H1 locs1 ⟨?_, hS1⟩)
  unfold wW at hP1 ⊢
  rw [List.set_set] at hP1
  exact hP1
theorem gW_size (hi : w[i]? = some (h0, .inr (3, wl v_bits v_size v_allBits v_a v_b v_c v_d))) (C : CallFix p m c cc nL s args Ts own) (hin : ∀ w ∈ wsX30, w ∈ Ts) (hK : va_K D vwCl tys s) (hP : va_P D vwCl w H) (hl : Cond.fieldLink own index "RiverWords$Word" "size" "I" ∈ Ts) (hdg : decode cc pc = .ok (.getfield index, 3)) (kk : W p l e R s m args below meth c H locs cells slots Q (F0 m (pc + 3) ls (.int v_size :: rest))) : W p l e R s m args below meth c H locs cells slots Q (F0 m pc ls (.ref h0 :: rest)) :=
  va_get (D := D) (ci := 3) (v := .int v_size) (C := RX3) (T := TX3) (N := 7) C.1 C.2.1 C.2.2.2.2 hin C.2.2.2.1 hK hP i hi rfl 1 (by decide) (C.2.2.2.2 _ hl) (fun _ h9 => h9) rfl hdg kk
theorem gWE_size (hi : i < w.length) (C : CallFix p m c cc nL s args Ts own) (hin : ∀ w ∈ wsX30, w ∈ Ts) (hK : va_K D vwCl tys s) (hP : va_P D vwCl (wW w i h0 v_bits v_size v_allBits v_a v_b v_c v_d) H) (hl : Cond.fieldLink own index "RiverWords$Word" "size" "I" ∈ Ts) (hdg : decode cc pc = .ok (.getfield index, 3)) (kk : W p l e R s m args below meth c H locs cells slots Q (F0 m (pc + 3) ls (.int v_size :: rest))) : W p l e R s m args below meth c H locs cells slots Q (F0 m pc ls (.ref h0 :: rest)) := gW_size (wW_get hi) C hin hK hP hl hdg kk
theorem pWE_size {x z0 z1 z2 z3 z4 z5 z6 : Int32} (hi : i < w.length) (C : CallFix p m c cc nL s args Ts own) (hin : ∀ w ∈ wsX30, w ∈ Ts) (hK : va_K D vwCl tys s) (hD : va_D A (wW w i h0 z0 z1 z2 z3 z4 z5 z6)) (I : IM D A H0 H locs (wW w i h0 v_bits v_size v_allBits v_a v_b v_c v_d)) (hl : Cond.fieldLink own index "RiverWords$Word" "size" "I" ∈ Ts) (hdg : decode cc pc = .ok (.putfield index, 3)) (kk : ∀ (H1 : Heap) (locs1 : List Loc), IM D A H0 H1 locs1 (wW w i h0 v_bits x v_allBits v_a v_b v_c v_d) → W p l e R s m args below meth c H1 locs1 cells slots Q (F0 m (pc + 3) ls rest)) : W p l e R s m args below meth c H locs cells slots Q (F0 m pc ls (.int x :: .ref h0 :: rest)) := by
  refine va_put (D := D) (ci := 3) (v := .int x) (ty := .int) (C := RX3) (T := TX3) (N := 7) C.1 C.2.1 C.2.2.2.2 hin tyX3 tyX3_ok nmX3 C.2.2.2.1 hK I.1 (wW_D hD) I.2 i (wW_get hi) rfl 1 (by decide) (C.2.2.2.2 _ hl) (fun _ h9 => h9) rfl (by decide +kernel) rfl rfl (Nat.le_of_ble_eq_true rfl) hdg (fun H1 locs1 hP1 _ hS1 => kk H1 locs1 ⟨?_, hS1⟩)
  unfold wW at hP1 ⊢
  rw [List.set_set] at hP1
  exact hP1
theorem gW_allBits (hi : w[i]? = some (h0, .inr (3, wl v_bits v_size v_allBits v_a v_b v_c v_d))) (C : CallFix p m c cc nL s args Ts own) (hin : ∀ w ∈ wsX30, w ∈ Ts) (hK : va_K D vwCl tys s) (hP : va_P D vwCl w H) (hl : Cond.fieldLink own index "RiverWords$Word" "allBits" "I" ∈ Ts) (hdg : decode cc pc = .ok (.getfield index, 3)) (kk : W p l e R s m args below meth c H locs cells slots Q (F0 m (pc + 3) ls (.int v_allBits :: rest))) : W p l e R s m args below meth c H locs cells slots Q (F0 m pc ls (.ref h0 :: rest)) :=
  va_get (D := D) (ci := 3) (v := .int v_allBits) (C := RX3) (T := TX3) (N := 7) C.1 C.2.1 C.2.2.2.2 hin C.2.2.2.1 hK hP i hi rfl 2 (by decide) (C.2.2.2.2 _ hl) (fun _ h9 => h9) rfl hdg kk
theorem gWE_allBits (hi : i < w.length) (C : CallFix p m c cc nL s args Ts own) (hin : ∀ w ∈ wsX30, w ∈ Ts) (hK : va_K D vwCl tys s) (hP : va_P D vwCl (wW w i h0 v_bits v_size v_allBits v_a v_b v_c v_d) H) (hl : Cond.fieldLink own index "RiverWords$Word" "allBits" "I" ∈ Ts) (hdg : decode cc pc = .ok (.getfield index, 3)) (kk : W p l e R s m args below meth c H locs cells slots Q (F0 m (pc + 3) ls (.int v_allBits :: rest))) : W p l e R s m args below meth c H locs cells slots Q (F0 m pc ls (.ref h0 :: rest)) := gW_allBits (wW_get hi) C hin hK hP hl hdg kk
theorem pWE_allBits {x z0 z1 z2 z3 z4 z5 z6 : Int32} (hi : i < w.length) (C : CallFix p m c cc nL s args Ts own) (hin : ∀ w ∈ wsX30, w ∈ Ts) (hK : va_K D vwCl tys s) (hD : va_D A (wW w i h0 z0 z1 z2 z3 z4 z5 z6)) (I : IM D A H0 H locs (wW w i h0 v_bits v_size v_allBits v_a v_b v_c v_d)) (hl : Cond.fieldLink own index "RiverWords$Word" "allBits" "I" ∈ Ts) (hdg : decode cc pc = .ok (.putfield index, 3)) (kk : ∀ (H1 : Heap) (locs1 : List Loc), IM D A H0 H1 locs1 (wW w i h0 v_bits v_size x v_a v_b v_c v_d) → W p l e R s m args below meth c H1 locs1 cells slots Q (F0 m (pc + 3) ls rest)) : W p l e R s m args below meth c H locs cells slots Q (F0 m pc ls (.int x :: .ref h0 :: rest)) := by
  refine va_put (D := D) (ci := 3) (v := .int x) (ty := .int) (C := RX3) (T := TX3) (N := 7) C.1 C.2.1 C.2.2.2.2 hin tyX3 tyX3_ok nmX3 C.2.2.2.1 hK I.1 (wW_D hD) I.2 i (wW_get hi) rfl 2 (by decide) (C.2.2.2.2 _ hl) (fun _ h9 => h9) rfl (by decide +kernel) rfl rfl (Nat.le_of_ble_eq_true rfl) hdg (fun H1 locs1 hP1 _ hS1 => kk H1 locs1 ⟨?_, hS1⟩)
  unfold wW at hP1 ⊢
  rw [List.set_set] at hP1
  exact hP1
theorem gW_a (hi : w[i]? = some (h0, .inr (3, wl v_bits v_size v_allBits v_a v_b v_c v_d))) (C : CallFix p m c cc nL s args Ts own) (hin : ∀ w ∈ wsX30, w ∈ Ts) (hK : va_K D vwCl tys s) (hP : va_P D vwCl w H) (hl : Cond.fieldLink own index "RiverWords$Word" "a" "I" ∈ Ts) (hdg : decode cc pc = .ok (.getfield index, 3)) (kk : W p l e R s m args below meth c H locs cells slots Q (F0 m (pc + 3) ls (.int v_a :: rest))) : W p l e R s m args below meth c H locs cells slots Q (F0 m pc ls (.ref h0 :: rest)) :=
  va_get (D := D) (ci := 3) (v := .int v_a) (C := RX3) (T := TX3) (N := 7) C.1 C.2.1 C.2.2.2.2 hin C.2.2.2.1 hK hP i hi rfl 3 (by decide) (C.2.2.2.2 _ hl) (fun _ h9 => h9) rfl hdg kk
theorem gWE_a (hi : i < w.length) (C : CallFix p m c cc nL s args Ts own) (hin : ∀ w ∈ wsX30, w ∈ Ts) (hK : va_K D vwCl tys s) (hP : va_P D vwCl (wW w i h0 v_bits v_size v_allBits v_a v_b v_c v_d) H) (hl : Cond.fieldLink own index "RiverWords$Word" "a" "I" ∈ Ts) (hdg : decode cc pc = .ok (.getfield index, 3)) (kk : W p l e R s m args below meth c H locs cells slots Q (F0 m (pc + 3) ls (.int v_a :: rest))) : W p l e R s m args below meth c H locs cells slots Q (F0 m pc ls (.ref h0 :: rest)) := gW_a (wW_get hi) C hin hK hP hl hdg kk
theorem pWE_a {x z0 z1 z2 z3 z4 z5 z6 : Int32} (hi : i < w.length) (C : CallFix p m c cc nL s args Ts own) (hin : ∀ w ∈ wsX30, w ∈ Ts) (hK : va_K D vwCl tys s) (hD : va_D A (wW w i h0 z0 z1 z2 z3 z4 z5 z6)) (I : IM D A H0 H locs (wW w i h0 v_bits v_size v_allBits v_a v_b v_c v_d)) (hl : Cond.fieldLink own index "RiverWords$Word" "a" "I" ∈ Ts) (hdg : decode cc pc = .ok (.putfield index, 3)) (kk : ∀ (H1 : Heap) (locs1 : List Loc), IM D A H0 H1 locs1 (wW w i h0 v_bits v_size v_allBits x v_b v_c v_d) → W p l e R s m args below meth c H1 locs1 cells slots Q (F0 m (pc + 3) ls rest)) : W p l e R s m args below meth c H locs cells slots Q (F0 m pc ls (.int x :: .ref h0 :: rest)) := by
  refine va_put (D := D) (ci := 3) (v := .int x) (ty := .int) (C := RX3) (T := TX3) (N := 7) C.1 C.2.1 C.2.2.2.2 hin tyX3 tyX3_ok nmX3 C.2.2.2.1 hK I.1 (wW_D hD) I.2 i (wW_get hi) rfl 3 (by decide) (C.2.2.2.2 _ hl) (fun _ h9 => h9) rfl (by decide +kernel) rfl rfl (Nat.le_of_ble_eq_true rfl) hdg (fun H1 locs1 hP1 _ hS1 => kk H1 locs1 ⟨?_, hS1⟩)
  unfold wW at hP1 ⊢
  rw [List.set_set] at hP1
  exact hP1
theorem gW_b (hi : w[i]? = some (h0, .inr (3, wl v_bits v_size v_allBits v_a v_b v_c v_d))) (C : CallFix p m c cc nL s args Ts own) (hin : ∀ w ∈ wsX30, w ∈ Ts) (hK : va_K D vwCl tys s) (hP : va_P D vwCl w H) (hl : Cond.fieldLink own index "RiverWords$Word" "b" "I" ∈ Ts) (hdg : decode cc pc = .ok (.getfield index, 3)) (kk : W p l e R s m args below meth c H locs cells slots Q (F0 m (pc + 3) ls (.int v_b :: rest))) : W p l e R s m args below meth c H locs cells slots Q (F0 m pc ls (.ref h0 :: rest)) :=
  va_get (D := D) (ci := 3) (v := .int v_b) (C := RX3) (T := TX3) (N := 7) C.1 C.2.1 C.2.2.2.2 hin C.2.2.2.1 hK hP i hi rfl 4 (by decide) (C.2.2.2.2 _ hl) (fun _ h9 => h9) rfl hdg kk
theorem gWE_b (hi : i < w.length) (C : CallFix p m c cc nL s args Ts own) (hin : ∀ w ∈ wsX30, w ∈ Ts) (hK : va_K D vwCl tys s) (hP : va_P D vwCl (wW w i h0 v_bits v_size v_allBits v_a v_b v_c v_d) H) (hl : Cond.fieldLink own index "RiverWords$Word" "b" "I" ∈ Ts) (hdg : decode cc pc = .ok (.getfield index, 3)) (kk : W p l e R s m args below meth c H locs cells slots Q (F0 m (pc + 3) ls (.int v_b :: rest))) : W p l e R s m args below meth c H locs cells slots Q (F0 m pc ls (.ref h0 :: rest)) := gW_b (wW_get hi) C hin hK hP hl hdg kk
theorem pWE_b {x z0 z1 z2 z3 z4 z5 z6 : Int32} (hi : i < w.length) (C : CallFix p m c cc nL s args Ts own) (hin : ∀ w ∈ wsX30, w ∈ Ts) (hK : va_K D vwCl tys s) (hD : va_D A (wW w i h0 z0 z1 z2 z3 z4 z5 z6)) (I : IM D A H0 H locs (wW w i h0 v_bits v_size v_allBits v_a v_b v_c v_d)) (hl : Cond.fieldLink own index "RiverWords$Word" "b" "I" ∈ Ts) (hdg : decode cc pc = .ok (.putfield index, 3)) (kk : ∀ (H1 : Heap) (locs1 : List Loc), IM D A H0 H1 locs1 (wW w i h0 v_bits v_size v_allBits v_a x v_c v_d) → W p l e R s m args below meth c H1 locs1 cells slots Q (F0 m (pc + 3) ls rest)) : W p l e R s m args below meth c H locs cells slots Q (F0 m pc ls (.int x :: .ref h0 :: rest)) := by
  refine va_put (D := D) (ci := 3) (v := .int x) (ty := .int) (C := RX3) (T := TX3) (N := 7) C.1 C.2.1 C.2.2.2.2 hin tyX3 tyX3_ok nmX3 C.2.2.2.1 hK I.1 (wW_D hD) I.2 i (wW_get hi) rfl 4 (by decide) (C.2.2.2.2 _ hl) (fun _ h9 => h9) rfl (by decide +kernel) rfl rfl (Nat.le_of_ble_eq_true rfl) hdg (fun H1 locs1 hP1 _ hS1 => kk H1 locs1 ⟨?_, hS1⟩)
  unfold wW at hP1 ⊢
  rw [List.set_set] at hP1
  exact hP1
theorem gW_c (hi : w[i]? = some (h0, .inr (3, wl v_bits v_size v_allBits v_a v_b v_c v_d))) (C : CallFix p m c cc nL s args Ts own) (hin : ∀ w ∈ wsX30, w ∈ Ts) (hK : va_K D vwCl tys s) (hP : va_P D vwCl w H) (hl : Cond.fieldLink own index "RiverWords$Word" "c" "I" ∈ Ts) (hdg : decode cc pc = .ok (.getfield index, 3)) (kk : W p l e R s m args below meth c H locs cells slots Q (F0 m (pc + 3) ls (.int v_c :: rest))) : W p l e R s m args below meth c H locs cells slots Q (F0 m pc ls (.ref h0 :: rest)) :=
  va_get (D := D) (ci := 3) (v := .int v_c) (C := RX3) (T := TX3) (N := 7) C.1 C.2.1 C.2.2.2.2 hin C.2.2.2.1 hK hP i hi rfl 5 (by decide) (C.2.2.2.2 _ hl) (fun _ h9 => h9) rfl hdg kk
theorem gWE_c (hi : i < w.length) (C : CallFix p m c cc nL s args Ts own) (hin : ∀ w ∈ wsX30, w ∈ Ts) (hK : va_K D vwCl tys s) (hP : va_P D vwCl (wW w i h0 v_bits v_size v_allBits v_a v_b v_c v_d) H) (hl : Cond.fieldLink own index "RiverWords$Word" "c" "I" ∈ Ts) (hdg : decode cc pc = .ok (.getfield index, 3)) (kk : W p l e R s m args below meth c H locs cells slots Q (F0 m (pc + 3) ls (.int v_c :: rest))) : W p l e R s m args below meth c H locs cells slots Q (F0 m pc ls (.ref h0 :: rest)) := gW_c (wW_get hi) C hin hK hP hl hdg kk
theorem pWE_c {x z0 z1 z2 z3 z4 z5 z6 : Int32} (hi : i < w.length) (C : CallFix p m c cc nL s args Ts own) (hin : ∀ w ∈ wsX30, w ∈ Ts) (hK : va_K D vwCl tys s) (hD : va_D A (wW w i h0 z0 z1 z2 z3 z4 z5 z6)) (I : IM D A H0 H locs (wW w i h0 v_bits v_size v_allBits v_a v_b v_c v_d)) (hl : Cond.fieldLink own index "RiverWords$Word" "c" "I" ∈ Ts) (hdg : decode cc pc = .ok (.putfield index, 3)) (kk : ∀ (H1 : Heap) (locs1 : List Loc), IM D A H0 H1 locs1 (wW w i h0 v_bits v_size v_allBits v_a v_b x v_d) → W p l e R s m args below meth c H1 locs1 cells slots Q (F0 m (pc + 3) ls rest)) : W p l e R s m args below meth c H locs cells slots Q (F0 m pc ls (.int x :: .ref h0 :: rest)) := by
  refine va_put (D := D) (ci := 3) (v := .int x) (ty := .int) (C := RX3) (T := TX3) (N := 7) C.1 C.2.1 C.2.2.2.2 hin tyX3 tyX3_ok nmX3 C.2.2.2.1 hK I.1 (wW_D hD) I.2 i (wW_get hi) rfl 5 (by decide) (C.2.2.2.2 _ hl) (fun _ h9 => h9) rfl (by decide +kernel) rfl rfl (Nat.le_of_ble_eq_true rfl) hdg (fun H1 locs1 hP1 _ hS1 => kk H1 locs1 ⟨?_, hS1⟩)
  unfold wW at hP1 ⊢
  rw [List.set_set] at hP1
  exact hP1
theorem gW_d (hi : w[i]? = some (h0, .inr (3, wl v_bits v_size v_allBits v_a v_b v_c v_d))) (C : CallFix p m c cc nL s args Ts own) (hin : ∀ w ∈ wsX30, w ∈ Ts) (hK : va_K D vwCl tys s) (hP : va_P D vwCl w H) (hl : Cond.fieldLink own index "RiverWords$Word" "d" "I" ∈ Ts) (hdg : decode cc pc = .ok (.getfield index, 3)) (kk : W p l e R s m args below meth c H locs cells slots Q (F0 m (pc + 3) ls (.int v_d :: rest))) : W p l e R s m args below meth c H locs cells slots Q (F0 m pc ls (.ref h0 :: rest)) :=
  va_get (D := D) (ci := 3) (v := .int v_d) (C := RX3) (T := TX3) (N := 7) C.1 C.2.1 C.2.2.2.2 hin C.2.2.2.1 hK hP i hi rfl 6 (by decide) (C.2.2.2.2 _ hl) (fun _ h9 => h9) rfl hdg kk
theorem gWE_d (hi : i < w.length) (C : CallFix p m c cc nL s args Ts own) (hin : ∀ w ∈ wsX30, w ∈ Ts) (hK : va_K D vwCl tys s) (hP : va_P D vwCl (wW w i h0 v_bits v_size v_allBits v_a v_b v_c v_d) H) (hl : Cond.fieldLink own index "RiverWords$Word" "d" "I" ∈ Ts) (hdg : decode cc pc = .ok (.getfield index, 3)) (kk : W p l e R s m args below meth c H locs cells slots Q (F0 m (pc + 3) ls (.int v_d :: rest))) : W p l e R s m args below meth c H locs cells slots Q (F0 m pc ls (.ref h0 :: rest)) := gW_d (wW_get hi) C hin hK hP hl hdg kk
theorem pWE_d {x z0 z1 z2 z3 z4 z5 z6 : Int32} (hi : i < w.length) (C : CallFix p m c cc nL s args Ts own) (hin : ∀ w ∈ wsX30, w ∈ Ts) (hK : va_K D vwCl tys s) (hD : va_D A (wW w i h0 z0 z1 z2 z3 z4 z5 z6)) (I : IM D A H0 H locs (wW w i h0 v_bits v_size v_allBits v_a v_b v_c v_d)) (hl : Cond.fieldLink own index "RiverWords$Word" "d" "I" ∈ Ts) (hdg : decode cc pc = .ok (.putfield index, 3)) (kk : ∀ (H1 : Heap) (locs1 : List Loc), IM D A H0 H1 locs1 (wW w i h0 v_bits v_size v_allBits v_a v_b v_c x) → W p l e R s m args below meth c H1 locs1 cells slots Q (F0 m (pc + 3) ls rest)) : W p l e R s m args below meth c H locs cells slots Q (F0 m pc ls (.int x :: .ref h0 :: rest)) := by
  refine va_put (D := D) (ci := 3) (v := .int x) (ty := .int) (C := RX3) (T := TX3) (N := 7) C.1 C.2.1 C.2.2.2.2 hin tyX3 tyX3_ok nmX3 C.2.2.2.1 hK I.1 (wW_D hD) I.2 i (wW_get hi) rfl 6 (by decide) (C.2.2.2.2 _ hl) (fun _ h9 => h9) rfl (by decide +kernel) rfl rfl (Nat.le_of_ble_eq_true rfl) hdg (fun H1 locs1 hP1 _ hS1 => kk H1 locs1 ⟨?_, hS1⟩)
  unfold wW at hP1 ⊢
  rw [List.set_set] at hP1
  exact hP1
end WR
abbrev rm6_bitCount : Room := { frames := 0, cells := 0, slots := 0, locals := 0 }
theorem hd6_bitCount : okD yJ6_bitCount_0f7a4 1 := by decide +kernel
theorem k6_265 : Cond.constant RJ6 265 1431655765 ∈ wsJ6_bitCount_0f7a4 := by decide +kernel
theorem k6_266 : Cond.constant RJ6 266 858993459 ∈ wsJ6_bitCount_0f7a4 := by decide +kernel
theorem k6_267 : Cond.constant RJ6 267 252645135 ∈ wsJ6_bitCount_0f7a4 := by decide +kernel
set_option maxHeartbeats 8000000 in
set_option maxRecDepth 100000 in
theorem c6_bitCount {l : Launch} {x0 : Int32} : Met l yJ6_bitCount_0f7a4 wsJ6_bitCount_0f7a4 rm6_bitCount (va_Pc [.int x0] PN) (vp_Si (fun x => x = jbitCount x0)) 0 0 (fun _ => False) := by
  refine N_in (cc := cJ6_bitCount_0f7a4) (maxL := 1) (ret := some .int) (by decide) rfl (Nat.le_of_ble_eq_true rfl) ?_
  intro p e s m args below meth c ls Q hQ C hr hlk hl
  have C : CallFix p m c cJ6_bitCount_0f7a4 1 s args wsJ6_bitCount_0f7a4 RJ6 := C
  have hx := C.1
  have hb := C.2.1
  have hl : lv_has ls 1 [(0, .int x0)] := hl
  refine lv_iload_n hx hb dJ6_bitCount_0f7a4_0 rfl (lv_at hl 0 rfl) ?_
  refine lv_iload_n hx hb dJ6_bitCount_0f7a4_1 rfl (lv_at hl 0 rfl) ?_
  refine lv_iconst (v := 1) hx hb dJ6_bitCount_0f7a4_2 rfl ?_
  refine j_iushr hx hb dJ6_bitCount_0f7a4_3 ?_
  refine lv_ldcw (v := 1431655765) hx hb C.2.2.2.1 (C.2.2.2.2 _ k6_265) dJ6_bitCount_0f7a4_4 ?_
  refine lv_iand hx hb dJ6_bitCount_0f7a4_7 ?_
  refine lv_isub hx hb dJ6_bitCount_0f7a4_8 ?_
  refine W.eq (g2 := F0 m 9 ls [.int (jbc1 x0)]) rfl ?_
  refine lv_istore_n (lv' := [(0, .int (jbc1 x0))]) hx hb dJ6_bitCount_0f7a4_9 rfl hl (by decide) rfl (fun ls hl => ?_)
  refine lv_iload_n hx hb dJ6_bitCount_0f7a4_10 rfl (lv_at hl 0 rfl) ?_
  refine lv_ldcw (v := 858993459) hx hb C.2.2.2.1 (C.2.2.2.2 _ k6_266) dJ6_bitCount_0f7a4_11 ?_
  refine lv_iand hx hb dJ6_bitCount_0f7a4_14 ?_
  refine lv_iload_n hx hb dJ6_bitCount_0f7a4_15 rfl (lv_at hl 0 rfl) ?_
  refine lv_iconst (v := 2) hx hb dJ6_bitCount_0f7a4_16 rfl ?_
  refine j_iushr hx hb dJ6_bitCount_0f7a4_17 ?_
  refine lv_ldcw (v := 858993459) hx hb C.2.2.2.1 (C.2.2.2.2 _ k6_266) dJ6_bitCount_0f7a4_18 ?_
  refine lv_iand hx hb dJ6_bitCount_0f7a4_21 ?_
  refine lv_iadd hx hb dJ6_bitCount_0f7a4_22 ?_
  refine W.eq (g2 := F0 m 23 ls [.int (jbc2 (jbc1 x0))]) rfl ?_
  refine lv_istore_n (lv' := [(0, .int (jbc2 (jbc1 x0)))]) hx hb dJ6_bitCount_0f7a4_23 rfl hl (by decide) rfl (fun ls hl => ?_)
  refine lv_iload_n hx hb dJ6_bitCount_0f7a4_24 rfl (lv_at hl 0 rfl) ?_
  refine lv_iload_n hx hb dJ6_bitCount_0f7a4_25 rfl (lv_at hl 0 rfl) ?_
  refine lv_iconst (v := 4) hx hb dJ6_bitCount_0f7a4_26 rfl ?_
  refine j_iushr hx hb dJ6_bitCount_0f7a4_27 ?_
  refine lv_iadd hx hb dJ6_bitCount_0f7a4_28 ?_
  refine lv_ldcw (v := 252645135) hx hb C.2.2.2.1 (C.2.2.2.2 _ k6_267) dJ6_bitCount_0f7a4_29 ?_
  refine lv_iand hx hb dJ6_bitCount_0f7a4_32 ?_
  refine W.eq (g2 := F0 m 33 ls [.int (jbc3 (jbc2 (jbc1 x0)))]) rfl ?_
  refine lv_istore_n (lv' := [(0, .int (jbc3 (jbc2 (jbc1 x0))))]) hx hb dJ6_bitCount_0f7a4_33 rfl hl (by decide) rfl (fun ls hl => ?_)
  refine lv_iload_n hx hb dJ6_bitCount_0f7a4_34 rfl (lv_at hl 0 rfl) ?_
  refine lv_iload_n hx hb dJ6_bitCount_0f7a4_35 rfl (lv_at hl 0 rfl) ?_
  refine lv_bipush (v := 8) hx hb dJ6_bitCount_0f7a4_36 rfl ?_
  refine j_iushr hx hb dJ6_bitCount_0f7a4_38 ?_
  refine lv_iadd hx hb dJ6_bitCount_0f7a4_39 ?_
  refine W.eq (g2 := F0 m 40 ls [.int (jbc4 (jbc3 (jbc2 (jbc1 x0))))]) rfl ?_
  refine lv_istore_n (lv' := [(0, .int (jbc4 (jbc3 (jbc2 (jbc1 x0)))))]) hx hb dJ6_bitCount_0f7a4_40 rfl hl (by decide) rfl (fun ls hl => ?_)
  refine lv_iload_n hx hb dJ6_bitCount_0f7a4_41 rfl (lv_at hl 0 rfl) ?_
  refine lv_iload_n hx hb dJ6_bitCount_0f7a4_42 rfl (lv_at hl 0 rfl) ?_
  refine lv_bipush (v := 16) hx hb dJ6_bitCount_0f7a4_43 rfl ?_
  refine j_iushr hx hb dJ6_bitCount_0f7a4_45 ?_
  refine lv_iadd hx hb dJ6_bitCount_0f7a4_46 ?_
  refine W.eq (g2 := F0 m 47 ls [.int (jbc5 (jbc4 (jbc3 (jbc2 (jbc1 x0)))))]) rfl ?_
  refine lv_istore_n (lv' := [(0, .int (jbc5 (jbc4 (jbc3 (jbc2 (jbc1 x0))))))]) hx hb dJ6_bitCount_0f7a4_47 rfl hl (by decide) rfl (fun ls hl => ?_)
  refine lv_iload_n hx hb dJ6_bitCount_0f7a4_48 rfl (lv_at hl 0 rfl) ?_
  refine lv_bipush (v := 63) hx hb dJ6_bitCount_0f7a4_49 rfl ?_
  refine lv_iand hx hb dJ6_bitCount_0f7a4_51 ?_
  exact rS_i C hr hlk hQ (nbi _) rfl dJ6_bitCount_0f7a4_52
