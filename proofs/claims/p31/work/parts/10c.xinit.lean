theorem P_rot {D : va_G} {cl : List vw_C} {a b c : va_W} {H : Heap} (h : va_P D cl ((a ++ b) ++ c) H) : va_P D cl ((a ++ c) ++ b) H := va_P_mem (fun e he => by
  rcases List.mem_append.mp he with q | q
  · rcases List.mem_append.mp q with q | q
    · exact List.mem_append_left _ (List.mem_append_left _ q)
    · exact List.mem_append_right _ q
  · exact List.mem_append_left _ (List.mem_append_right _ q)) h
abbrev rm4_init : Room := { frames := 4, cells := 22, slots := 2680, locals := 86 }
theorem hd4_init : okD yX4_init 0 := by decide +kernel
theorem ml4_init : Cond.methodLink RX4 1 objectInit ∈ wsX4_init := by decide +kernel
theorem im4_init : Cond.instanceMethod objectInit ∈ wsX4_init := by decide +kernel
theorem oc4_init : Cond.code objectInit ⟨#[0xb1]⟩ 1 none ∈ wsX4_init := by decide +kernel
theorem inm4_init : ∀ w ∈ wsX40, w ∈ wsX4_init := by decide +kernel
theorem inm4_init1 : ∀ w ∈ wsX10, w ∈ wsX4_init := by decide +kernel
theorem inm4_init2 : ∀ w ∈ wsX20, w ∈ wsX4_init := by decide +kernel
theorem inm4_init0 : ∀ w ∈ wsX00, w ∈ wsX4_init := by decide +kernel
theorem fl4_init_10 : Cond.fieldLink RX4 10 "RiverWords" "page" "LRiverWords$Page;" ∈ wsX4_init := by decide +kernel
theorem fl4_init_18 : Cond.fieldLink RX4 18 "RiverWords" "roads" "[LRiverWords$Word;" ∈ wsX4_init := by decide +kernel
theorem fl4_init_25 : Cond.fieldLink RX4 25 "RiverWords" "river" "LRiverWords$River;" ∈ wsX4_init := by decide +kernel
theorem fl4_init_32 : Cond.fieldLink RX4 32 "RiverWords" "draw" "LRiverWords$Draw;" ∈ wsX4_init := by decide +kernel
theorem cl4_init_7 : Cond.classLink RX4 7 RX1 ∈ wsX4_init := by decide +kernel
theorem cl4_init_16 : Cond.classLink RX4 16 RX3 ∈ wsX4_init := by decide +kernel
theorem cl4_init_22 : Cond.classLink RX4 22 RX2 ∈ wsX4_init := by decide +kernel
theorem cl4_init_29 : Cond.classLink RX4 29 RX0 ∈ wsX4_init := by decide +kernel
theorem is4_init_1 : Cond.instantiable RX1 6 ∈ wsX4_init := by decide +kernel
theorem is4_init_2 : Cond.instantiable RX2 5 ∈ wsX4_init := by decide +kernel
theorem is4_init_0 : Cond.instantiable RX0 6 ∈ wsX4_init := by decide +kernel
theorem ii4_init_1 : Cond.initialized RX1 ∈ wsX4_init := by decide +kernel
theorem ii4_init_2 : Cond.initialized RX2 ∈ wsX4_init := by decide +kernel
theorem ii4_init_0 : Cond.initialized RX0 ∈ wsX4_init := by decide +kernel
theorem ic4_init_1 : Cond.instanceMethod yX1_init ∈ wsX4_init := by decide +kernel
theorem ic4_init_2 : Cond.instanceMethod yX2_init ∈ wsX4_init := by decide +kernel
theorem ic4_init_0 : Cond.instanceMethod yX0_init ∈ wsX4_init := by decide +kernel
abbrev wX4 (h : Nat) : va_W := [(h, .inr (4, [.null, .null, .null, .null, .int 0, .int 0]))]
section XI
variable {l : Launch} {D : va_G} {sz h : Nat}
set_option maxHeartbeats 16000000 in
set_option maxRecDepth 100000 in
theorem c4_init {r : Int32 × Int32 × Int32 × Int32 × Int32 × Int32 × Int32} (hrun : P3_become 0 8 = some r) : Met l yX4_init wsX4_init rm4_init (va_Pc [.ref h] (PI D [] sz (wX4 h))) (va_Qv (fun _ : (Nat → Nat) × (Nat → Nat) × (Nat → Nat) × ClassId × ClassId × ClassId => True) (fun u t => va_P D vwCl (WX u.1 u.2.1 u.2.2.1 (fun _ => 0) u.2.2.2.1 u.2.2.2.2.1 u.2.2.2.2.2 0 0 0 0 0 0 0 (fun _ => 0) 0 0 0 (fun _ _ => 0) (fun _ _ => 0) 0 0 0 0 r.1 r.2.1 r.2.2.1 r.2.2.2.1 r.2.2.2.2.1 r.2.2.2.2.2.1 r.2.2.2.2.2.2 r.1 r.2.1 r.2.2.1 r.2.2.2.1 r.2.2.2.2.1 r.2.2.2.2.2.1 r.2.2.2.2.2.2 0 (fun _ _ => 0)) t.heap ∧ (va_K D vwCl (tyX u.2.2.2.1 u.2.2.2.2.1 u.2.2.2.2.2) t ∧ u.1 0 = h) ∧ va_D (va_A (wX4 h) sz) (WX u.1 u.2.1 u.2.2.1 (fun _ => 0) u.2.2.2.1 u.2.2.2.2.1 u.2.2.2.2.2 0 0 0 0 0 0 0 (fun _ => 0) 0 0 0 (fun _ _ => 0) (fun _ _ => 0) 0 0 0 0 r.1 r.2.1 r.2.2.1 r.2.2.2.1 r.2.2.2.2.1 r.2.2.2.2.2.1 r.2.2.2.2.2.2 r.1 r.2.1 r.2.2.1 r.2.2.2.1 r.2.2.2.2.1 r.2.2.2.2.2.1 r.2.2.2.2.2.2 0 (fun _ _ => 0))) (va_A (wX4 h) sz)) 22 2680 (va_A (wX4 h) sz) := by
  refine I_in (cc := cX4_init) (maxL := 1) (by decide) rfl (Nat.le_of_ble_eq_true rfl) ?_
  intro p e s m args below meth c ls Q hQ C hin hr hlk hK hN hO hOA hD hA hP hS hl
  have C : CallFix p m c cX4_init 1 s args wsX4_init RX4 := C
  have hx := C.1
  have hb := C.2.1
  have hl : lv_has ls 1 [(0, .ref h)] := hl
  refine lv_aload_n hx hb dX4_init_0 rfl (lv_at hl 0 rfl) ?_
  refine W.objInit hx hb C.2.2.2.1 (C.2.2.2.2 _ ml4_init) (C.2.2.2.2 _ im4_init) (C.2.2.2.2 _ oc4_init) rfl (by rw [C.2.2.1]; exact hl.1) rfl dX4_init_1 (Nat.le_of_ble_eq_true rfl) (Nat.le_of_ble_eq_true rfl) ?_
  refine W.eq (g2 := F0 m 4 ls []) rfl ?_
  refine lv_aload_n hx hb dX4_init_4 rfl (lv_at hl 0 rfl) ?_
  refine va_new (ci := 1) (fs := [.null, .int 0, .int 0, .int 0, .int 0, .int 0]) (C := RX1) (T := TX1) (N := 6) hx hb C.2.2.2.2 inm4_init1 tyX1 tyX1_ok C.2.2.2.1 (C.2.2.2.2 _ cl4_init_7) (C.2.2.2.2 _ is4_init_1) (C.2.2.2.2 _ ii4_init_1) hK hP hD hS hA rfl (fun j hj => by rcases (show j = 0 ∨ j = 1 ∨ j = 2 ∨ j = 3 ∨ j = 4 ∨ j = 5 by omega) with rfl | rfl | rfl | rfl | rfl | rfl <;> rfl) (Nat.le_of_ble_eq_true rfl) (Nat.le_of_ble_eq_true rfl) dX4_init_5 (fun q1 H hP hD hS => ?_)
  refine lv_dup hx hb dX4_init_8 rfl ?_
  have hP : va_P D vwCl (wX4 h ++ wX1 q1) H := hP
  have hD : va_D (va_A (wX4 h) sz) (wX4 h ++ wX1 q1) := hD
  refine jNI (rest := [.ref q1, .ref h]) C c1_init gX4_init_X1_init_n9 hN.2.2.1 ii4_init_1 ic4_init_1 rfl hd1_init hK hN hO hOA hP hD hA hS rfl ⟨rfl, rfl⟩ ⟨Nat.le_of_ble_eq_true rfl, Nat.le_of_ble_eq_true rfl⟩ hl.1 rfl (Nat.le_of_ble_eq_true rfl) ⟨Nat.le_of_ble_eq_true rfl, Nat.le_of_ble_eq_true rfl⟩ dX4_init_9 (fun u1 t H locs hvm hK1 hP hD hS => ?_)
  obtain ⟨qc, cI⟩ := u1
  have hK : va_K D vwCl [(cI, .int)] s := va_K.moved hvm.symm hK1
  refine va_putF (D := D) (ci := 4) (v := .ref q1) (ty := .object RX1) (C := RX4) (T := TX4) (N := 6) hx hb C.2.2.2.2 inm4_init tyX4 tyX4_ok nmX4 C.2.2.2.1 hK hP hD hS 0 rfl rfl 0 (by decide) (C.2.2.2.2 _ fl4_init_10) (fun _ h9 => h9) rfl hin rfl (by decide +kernel) rfl rfl (Nat.le_of_ble_eq_true rfl) dX4_init_12 (fun H locs hP hD hS => ?_)
  refine lv_aload_n hx hb dX4_init_15 rfl (lv_at hl 0 rfl) ?_
  refine lv_bipush (v := 6) hx hb dX4_init_16 rfl ?_
  have hP : va_P D vwCl ([(h, .inr (4, [.ref q1, .null, .null, .null, .int 0, .int 0])), (q1, .inr (1, [.ref qc, .int 0, .int 0, .int 0, .int 0, .int 0])), (qc, .inl (cI, 20, .inl (fun _ => 0)))] : va_W) H := hP
  have hD : va_D (va_A (wX4 h) sz) ([(h, .inr (4, [.ref q1, .null, .null, .null, .int 0, .int 0])), (q1, .inr (1, [.ref qc, .int 0, .int 0, .int 0, .int 0, .int 0])), (qc, .inl (cI, 20, .inl (fun _ => 0)))] : va_W) := hD
  refine va_newq (C := RX3) (N' := 6) hx hb C.2.2.2.1 (C.2.2.2.2 _ cl4_init_16) hO hK hP hD hS hA (by decide) rfl (Nat.le_of_ble_eq_true rfl) (Nat.le_of_ble_eq_true rfl) (Nat.le_of_ble_eq_true rfl) dX4_init_18 (fun qr cR H hK hP hD hS => ?_)
  have hP : va_P D vwCl ([(h, .inr (4, [.ref q1, .null, .null, .null, .int 0, .int 0])), (q1, .inr (1, [.ref qc, .int 0, .int 0, .int 0, .int 0, .int 0])), (qc, .inl (cI, 20, .inl (fun _ => 0))), (qr, .inl (cR, 6, .inr (.inr (.inr (.inr (fun _ => none))))))] : va_W) H := hP
  have hD : va_D (va_A (wX4 h) sz) ([(h, .inr (4, [.ref q1, .null, .null, .null, .int 0, .int 0])), (q1, .inr (1, [.ref qc, .int 0, .int 0, .int 0, .int 0, .int 0])), (qc, .inl (cI, 20, .inl (fun _ => 0))), (qr, .inl (cR, 6, .inr (.inr (.inr (.inr (fun _ => none))))))] : va_W) := hD
  refine va_putF (D := D) (ci := 4) (v := .ref qr) (ty := .array (.object RX3)) (C := RX4) (T := TX4) (N := 6) hx hb C.2.2.2.2 inm4_init tyX4 tyX4_ok nmX4 C.2.2.2.1 hK hP hD hS 0 rfl rfl 1 (by decide) (C.2.2.2.2 _ fl4_init_18) (fun _ h9 => h9) rfl hin rfl (by decide +kernel) rfl rfl (Nat.le_of_ble_eq_true rfl) dX4_init_21 (fun H locs hP hD hS => ?_)
  have hP : va_P D vwCl ([(h, .inr (4, [.ref q1, .ref qr, .null, .null, .int 0, .int 0])), (q1, .inr (1, [.ref qc, .int 0, .int 0, .int 0, .int 0, .int 0])), (qc, .inl (cI, 20, .inl (fun _ => 0))), (qr, .inl (cR, 6, .inr (.inr (.inr (.inr (fun _ => none))))))] : va_W) H := hP
  have hD : va_D (va_A (wX4 h) sz) ([(h, .inr (4, [.ref q1, .ref qr, .null, .null, .int 0, .int 0])), (q1, .inr (1, [.ref qc, .int 0, .int 0, .int 0, .int 0, .int 0])), (qc, .inl (cI, 20, .inl (fun _ => 0))), (qr, .inl (cR, 6, .inr (.inr (.inr (.inr (fun _ => none))))))] : va_W) := hD
  refine lv_aload_n hx hb dX4_init_24 rfl (lv_at hl 0 rfl) ?_
  refine va_new (ci := 2) (fs := [.null, .null, .int 0, .int 0, .int 0]) (C := RX2) (T := TX2) (N := 5) hx hb C.2.2.2.2 inm4_init2 tyX2 tyX2_ok C.2.2.2.1 (C.2.2.2.2 _ cl4_init_22) (C.2.2.2.2 _ is4_init_2) (C.2.2.2.2 _ ii4_init_2) hK hP hD hS hA rfl (fun j hj => by rcases (show j = 0 ∨ j = 1 ∨ j = 2 ∨ j = 3 ∨ j = 4 by omega) with rfl | rfl | rfl | rfl | rfl <;> rfl) (Nat.le_of_ble_eq_true rfl) (Nat.le_of_ble_eq_true rfl) dX4_init_25 (fun q2 H hP hD hS => ?_)
  refine lv_dup hx hb dX4_init_28 rfl ?_
  have hP : va_P D vwCl (([(h, .inr (4, [.ref q1, .ref qr, .null, .null, .int 0, .int 0])), (q1, .inr (1, [.ref qc, .int 0, .int 0, .int 0, .int 0, .int 0])), (qc, .inl (cI, 20, .inl (fun _ => 0))), (qr, .inl (cR, 6, .inr (.inr (.inr (.inr (fun _ => none))))))] : va_W) ++ wX2 q2) H := hP
  have hD : va_D (va_A (wX4 h) sz) (([(h, .inr (4, [.ref q1, .ref qr, .null, .null, .int 0, .int 0])), (q1, .inr (1, [.ref qc, .int 0, .int 0, .int 0, .int 0, .int 0])), (qc, .inl (cI, 20, .inl (fun _ => 0))), (qr, .inl (cR, 6, .inr (.inr (.inr (.inr (fun _ => none))))))] : va_W) ++ wX2 q2) := hD
  refine jNI (rest := [.ref q2, .ref h]) C c2_init gX4_init_X2_init_n24 hN.2.2.2.1 ii4_init_2 ic4_init_2 rfl hd2_init (K_left hK) hN hO hOA hP hD hA hS rfl ⟨rfl, rfl⟩ ⟨Nat.le_of_ble_eq_true rfl, Nat.le_of_ble_eq_true rfl⟩ hl.1 rfl (Nat.le_of_ble_eq_true rfl) ⟨Nat.le_of_ble_eq_true rfl, Nat.le_of_ble_eq_true rfl⟩ dX4_init_29 (fun u2 t H locs hvm hK1 hP hD hS => ?_)
  obtain ⟨qf, qy, fa, ca, cG⟩ := u2
  have hK : va_K D vwCl (tyX cI cR cG) s := hK.app (va_K.moved hvm.symm hK1)
  refine va_putF (D := D) (ci := 4) (v := .ref q2) (ty := .object RX2) (C := RX4) (T := TX4) (N := 6) hx hb C.2.2.2.2 inm4_init tyX4 tyX4_ok nmX4 C.2.2.2.1 hK hP hD hS 0 rfl rfl 2 (by decide) (C.2.2.2.2 _ fl4_init_25) (fun _ h9 => h9) rfl hin rfl (by decide +kernel) rfl rfl (Nat.le_of_ble_eq_true rfl) dX4_init_32 (fun H locs hP hD hS => ?_)
  have hP : va_P D vwCl (([(h, .inr (4, [.ref q1, .ref qr, .ref q2, .null, .int 0, .int 0])), (q1, .inr (1, [.ref qc, .int 0, .int 0, .int 0, .int 0, .int 0])), (qc, .inl (cI, 20, .inl (fun _ => 0))), (qr, .inl (cR, 6, .inr (.inr (.inr (.inr (fun _ => none))))))] : va_W) ++ wR2 q2 cI qf qy fa ca cG) H := hP
  have hD : va_D (va_A (wX4 h) sz) (([(h, .inr (4, [.ref q1, .ref qr, .ref q2, .null, .int 0, .int 0])), (q1, .inr (1, [.ref qc, .int 0, .int 0, .int 0, .int 0, .int 0])), (qc, .inl (cI, 20, .inl (fun _ => 0))), (qr, .inl (cR, 6, .inr (.inr (.inr (.inr (fun _ => none))))))] : va_W) ++ wR2 q2 cI qf qy fa ca cG) := hD
  refine lv_aload_n hx hb dX4_init_35 rfl (lv_at hl 0 rfl) ?_
  refine va_new (ci := 0) (fs := [.null, .null, .long 0, .int 0, .int 0, .int 0]) (C := RX0) (T := TX0) (N := 6) hx hb C.2.2.2.2 inm4_init0 tyX0 tyX0_ok C.2.2.2.1 (C.2.2.2.2 _ cl4_init_29) (C.2.2.2.2 _ is4_init_0) (C.2.2.2.2 _ ii4_init_0) hK hP hD hS hA rfl (fun j hj => by rcases (show j = 0 ∨ j = 1 ∨ j = 2 ∨ j = 3 ∨ j = 4 ∨ j = 5 by omega) with rfl | rfl | rfl | rfl | rfl | rfl <;> rfl) (Nat.le_of_ble_eq_true rfl) (Nat.le_of_ble_eq_true rfl) dX4_init_36 (fun q3 H hP hD hS => ?_)
  refine lv_dup hx hb dX4_init_39 rfl ?_
  have hP : va_P D vwCl ((([(h, .inr (4, [.ref q1, .ref qr, .ref q2, .null, .int 0, .int 0])), (q1, .inr (1, [.ref qc, .int 0, .int 0, .int 0, .int 0, .int 0])), (qc, .inl (cI, 20, .inl (fun _ => 0))), (qr, .inl (cR, 6, .inr (.inr (.inr (.inr (fun _ => none))))))] : va_W) ++ wR2 q2 cI qf qy fa ca cG) ++ wX0 q3) H := hP
  have hD : va_D (va_A (wX4 h) sz) ((([(h, .inr (4, [.ref q1, .ref qr, .ref q2, .null, .int 0, .int 0])), (q1, .inr (1, [.ref qc, .int 0, .int 0, .int 0, .int 0, .int 0])), (qc, .inl (cI, 20, .inl (fun _ => 0))), (qr, .inl (cR, 6, .inr (.inr (.inr (.inr (fun _ => none))))))] : va_W) ++ wR2 q2 cI qf qy fa ca cG) ++ wX0 q3) := hD
  refine jNI (rest := [.ref q3, .ref h]) C (c0_init hrun) gX4_init_X0_init_n31 hN.2.2.2.2 ii4_init_0 ic4_init_0 rfl hd0_init hK hN hO hOA hP hD hA hS rfl ⟨rfl, rfl⟩ ⟨Nat.le_of_ble_eq_true rfl, Nat.le_of_ble_eq_true rfl⟩ hl.1 rfl (Nat.le_of_ble_eq_true rfl) ⟨Nat.le_of_ble_eq_true rfl, Nat.le_of_ble_eq_true rfl⟩ dX4_init_40 (fun u0 t H locs hvm hK1 hP hD hS => ?_)
  obtain ⟨qb, qn⟩ := u0
  refine va_putF (D := D) (ci := 4) (v := .ref q3) (ty := .object RX0) (C := RX4) (T := TX4) (N := 6) hx hb C.2.2.2.2 inm4_init tyX4 tyX4_ok nmX4 C.2.2.2.1 hK hP hD hS 0 rfl rfl 3 (by decide) (C.2.2.2.2 _ fl4_init_32) (fun _ h9 => h9) rfl hin rfl (by decide +kernel) rfl rfl (Nat.le_of_ble_eq_true rfl) dX4_init_43 (fun H locs hP hD hS => ?_)
  have hP : va_P D vwCl (((([(h, .inr (4, [.ref q1, .ref qr, .ref q2, .ref q3, .int 0, .int 0])), (q1, .inr (1, [.ref qc, .int 0, .int 0, .int 0, .int 0, .int 0])), (qc, .inl (cI, 20, .inl (fun _ => 0))), (qr, .inl (cR, 6, .inr (.inr (.inr (.inr (fun _ => none))))))] : va_W) ++ ([(q2, .inr (2, [.ref qf, .ref qy, .int 0, .int 0, .int 0])), (qf, .inl (cG, 8, .inr (.inr (.inr (.inr (fun k => if k < 8 then some (fa k) else none)))))), (qy, .inl (cG, 5, .inr (.inr (.inr (.inr (fun k => if k < 5 then some (ca k) else none))))))] : va_W)) ++ ((List.range 8).map (irow fa cI 320 (fun _ _ => 0)) ++ (List.range 5).map (irow ca cI 10 (fun _ _ => 0)))) ++ ([(q3, .inr (0, [.ref qb, .ref qn, .long 0, .int 0, .int 0, .int 0])), (qb, .inr (3, wl7 r)), (qn, .inr (3, wl7 r))] : va_W)) H := hP
  have hD : va_D (va_A (wX4 h) sz) (((([(h, .inr (4, [.ref q1, .ref qr, .ref q2, .ref q3, .int 0, .int 0])), (q1, .inr (1, [.ref qc, .int 0, .int 0, .int 0, .int 0, .int 0])), (qc, .inl (cI, 20, .inl (fun _ => 0))), (qr, .inl (cR, 6, .inr (.inr (.inr (.inr (fun _ => none))))))] : va_W) ++ ([(q2, .inr (2, [.ref qf, .ref qy, .int 0, .int 0, .int 0])), (qf, .inl (cG, 8, .inr (.inr (.inr (.inr (fun k => if k < 8 then some (fa k) else none)))))), (qy, .inl (cG, 5, .inr (.inr (.inr (.inr (fun k => if k < 5 then some (ca k) else none))))))] : va_W)) ++ ((List.range 8).map (irow fa cI 320 (fun _ _ => 0)) ++ (List.range 5).map (irow ca cI 10 (fun _ _ => 0)))) ++ ([(q3, .inr (0, [.ref qb, .ref qn, .long 0, .int 0, .int 0, .int 0])), (qb, .inr (3, wl7 r)), (qn, .inr (3, wl7 r))] : va_W)) := hD
  have hP := P_rot hP
  have hD := D_rot hD
  have er : (fun k => if k < 0 then some ((fun _ : Nat => (0 : Nat)) k) else none) = (fun _ : Nat => (none : Option Nat)) := by
    funext k
    rfl
  have ew : (([(h, .inr (4, [.ref q1, .ref qr, .ref q2, .ref q3, .int 0, .int 0])), (q1, .inr (1, [.ref qc, .int 0, .int 0, .int 0, .int 0, .int 0])), (qc, .inl (cI, 20, .inl (fun _ => 0))), (qr, .inl (cR, 6, .inr (.inr (.inr (.inr (fun _ => none))))))] : va_W) ++ ([(q2, .inr (2, [.ref qf, .ref qy, .int 0, .int 0, .int 0])), (qf, .inl (cG, 8, .inr (.inr (.inr (.inr (fun k => if k < 8 then some (fa k) else none)))))), (qy, .inl (cG, 5, .inr (.inr (.inr (.inr (fun k => if k < 5 then some (ca k) else none))))))] : va_W)) ++ ([(q3, .inr (0, [.ref qb, .ref qn, .long 0, .int 0, .int 0, .int 0])), (qb, .inr (3, wl7 r)), (qn, .inr (3, wl7 r))] : va_W) = WXh (fun k => match k with | 0 => h | 1 => q1 | 2 => qc | 3 => qr | 4 => q2 | 5 => qf | 6 => qy | 7 => q3 | 8 => qb | _ => qn) fa ca (fun _ => 0) cI cR cG 0 0 0 0 0 0 0 (fun _ => 0) 0 0 0 0 0 0 0 r.1 r.2.1 r.2.2.1 r.2.2.2.1 r.2.2.2.2.1 r.2.2.2.2.2.1 r.2.2.2.2.2.2 r.1 r.2.1 r.2.2.1 r.2.2.2.1 r.2.2.2.2.1 r.2.2.2.2.2.1 r.2.2.2.2.2.2 0 := by
    unfold WXh
    rw [er]
    rfl
  have eq : ((([(h, .inr (4, [.ref q1, .ref qr, .ref q2, .ref q3, .int 0, .int 0])), (q1, .inr (1, [.ref qc, .int 0, .int 0, .int 0, .int 0, .int 0])), (qc, .inl (cI, 20, .inl (fun _ => 0))), (qr, .inl (cR, 6, .inr (.inr (.inr (.inr (fun _ => none))))))] : va_W) ++ ([(q2, .inr (2, [.ref qf, .ref qy, .int 0, .int 0, .int 0])), (qf, .inl (cG, 8, .inr (.inr (.inr (.inr (fun k => if k < 8 then some (fa k) else none)))))), (qy, .inl (cG, 5, .inr (.inr (.inr (.inr (fun k => if k < 5 then some (ca k) else none))))))] : va_W)) ++ ([(q3, .inr (0, [.ref qb, .ref qn, .long 0, .int 0, .int 0, .int 0])), (qb, .inr (3, wl7 r)), (qn, .inr (3, wl7 r))] : va_W)) ++ ((List.range 8).map (irow fa cI 320 (fun _ _ => 0)) ++ (List.range 5).map (irow ca cI 10 (fun _ _ => 0))) = WX (fun k => match k with | 0 => h | 1 => q1 | 2 => qc | 3 => qr | 4 => q2 | 5 => qf | 6 => qy | 7 => q3 | 8 => qb | _ => qn) fa ca (fun _ => 0) cI cR cG 0 0 0 0 0 0 0 (fun _ => 0) 0 0 0 (fun _ _ => 0) (fun _ _ => 0) 0 0 0 0 r.1 r.2.1 r.2.2.1 r.2.2.2.1 r.2.2.2.2.1 r.2.2.2.2.2.1 r.2.2.2.2.2.2 r.1 r.2.1 r.2.2.1 r.2.2.2.1 r.2.2.2.2.1 r.2.2.2.2.2.1 r.2.2.2.2.2.2 0 (fun _ _ => 0) := by
    unfold WX
    rw [ew]
    show _ = _ ++ (_ ++ (_ ++ []))
    rw [List.append_nil]
  rw [eq] at hP hD
  subst hQ
  refine W.widen (k := 22) (n := 2680) (Nat.le_of_ble_eq_true rfl) (Nat.le_of_ble_eq_true rfl) ?_
  exact W.vret hx hb hr (fun t ht hW => ⟨⟨((fun k => match k with | 0 => h | 1 => q1 | 2 => qc | 3 => qr | 4 => q2 | 5 => qf | 6 => qy | 7 => q3 | 8 => qb | _ => qn), fa, ca, cI, cR, cG), rfl, trivial, by show va_P D vwCl _ t.heap; rw [ht]; exact hP, ⟨va_K.moved hW.alike hK, rfl⟩, hD⟩, hS.F ht⟩) hS.2.2 dX4_init_46 hlk
end XI
