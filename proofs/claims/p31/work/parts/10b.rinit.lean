theorem D_dis {A : Nat → Prop} {a b : va_W} (h : va_D A (a ++ b)) : ∀ (i j : Nat) (x y : Nat × va_E), a[i]? = some x → b[j]? = some y → x.1 = y.1 → False := fun i j x y hx hy hxy => by
  have h1 := h.1 i (a.length + j) x y (by rw [List.getElem?_append_left (w_lt hx)]; exact hx) (by rw [List.getElem?_append_right (Nat.le_add_right _ _), Nat.add_sub_cancel_left]; exact hy) hxy
  have h2 := w_lt hx
  omega
theorem D_rot {A : Nat → Prop} {a b c : va_W} (h : va_D A ((a ++ b) ++ c)) : va_D A ((a ++ c) ++ b) := by
  have hab := D_left h
  have hac : va_D A (a ++ c) := va_D.app (D_left hab) (D_right h) (fun i j x y hx hy hxy => D_dis h i j x y (by rw [List.getElem?_append_left (w_lt hx)]; exact hx) hy hxy)
  refine va_D.app hac (D_right hab) (fun i j x y hx hy hxy => ?_)
  rcases List.mem_append.mp (List.mem_of_getElem? hx) with q | q
  · obtain ⟨k, hk⟩ := List.getElem?_of_mem q
    exact D_dis hab k j x y hk hy hxy
  · obtain ⟨k, hk⟩ := List.getElem?_of_mem q
    exact D_dis h (a.length + j) k y x (by rw [List.getElem?_append_right (Nat.le_add_right _ _), Nat.add_sub_cancel_left]; exact hy) hk hxy.symm
section JN
variable {p : Program} {l : Launch} {e : Env} {R : Room} {s : State} {m : MethodId} {args : Array Value} {below : List Frame} {meth : Method} {c : Code} {H : Heap} {locs : List Loc} {cells slots : Nat} {Q : State → Prop}
variable {cc : ByteArray} {pc : Nat} {ls : Array Slot} {rest : List Value} {D : va_G} {A : Nat → Prop} {H0 : Heap} {nL : Nat} {Ts : List Cond} {own : String}
variable {y : MethodName} {bytes : ByteArray} {maxL index mc ms : Nat} {ws ws' : List Cond} {rm : Room} {st0 : List Value} {tys : List (ClassId × FieldType)} {wa wb : va_W} {b : Addr}
/-- a constructor of a nest mate, beside the rest of the world -/
theorem jNI {S : Type} {host : String} {w1 : S → va_W} {K1 : S → State → Prop} (C : CallFix p m c cc nL s args Ts own) (hM : Met l y ws rm (va_Pc [.ref b] (PI D tys H.size wb)) (va_Qv (fun _ : S => True) (fun u t => va_P D vwCl (w1 u) t.heap ∧ K1 u t ∧ va_D (va_A wb H.size) (w1 u)) (va_A wb H.size)) mc ms (va_A wb H.size)) (G : GoodIn Ts ws) (hl : va_Nw (.methodLinkNest own index y host) s) (hini : Cond.initialized y.cls ∈ Ts) (hin : Cond.instanceMethod y ∈ Ts) (hy1 : y.name = "<init>") (hd : okD y 0) (hK : va_K D vwCl tys s) (hN : NW s) (hO : va_AO RX3 s) (hOA : va_AOA .int s) (hP : va_P D vwCl (wa ++ wb) H) (hD : va_D A (wa ++ wb)) (hA : ∀ q : Nat, H0.size ≤ q → A q) (hS : va_S A H0 H locs) (hw : ws = Cond.code y bytes maxL none :: ws') (hrc : rm.cells = mc ∧ rm.slots = ms) (hR : rm.frames + 1 ≤ R.frames ∧ 8 + (maxL + 11) + rm.locals ≤ R.locals) (hls : ls.size = nL) (hst : st0 = .ref b :: rest) (hroom : (rest.map fun v => v.category).sum ≤ 8) (hcs : cells + mc ≤ R.cells ∧ slots + ms ≤ R.slots) (hdg : decode cc pc = .ok (.invokespecial index, 3))
    (kk : ∀ (u : S) (t : State) (H1 : Heap) (locs1 : List Loc), s.vm.Alike t.vm → K1 u t → va_P D vwCl (wa ++ w1 u) H1 → va_D A (wa ++ w1 u) → va_S A H0 H1 locs1 → W p l e R s m args below meth c H1 locs1 (cells + mc) (slots + ms) Q (F0 m (pc + 3) ls rest)) : W p l e R s m args below meth c H locs cells slots Q (F0 m pc ls st0) :=
  va_callv (va_runIN (As := []) (rest := rest) C hM ⟨va_cnB 0 C.2.2.2.2 G hw hrc.1 hrc.2 hl (C.2.2.2.2 _ hini) hd hR, hy1, C.2.2.2.2 _ hin⟩ ⟨blindI, fun U hU hW => ⟨rfl, by rw [hU], by rw [hU]; exact P_right hP, va_K.moved hW.alike hK, hN.warm hW, va_AO.moved hW.alike hO, aoa_moved hW.alike hOA, (D_right hD).weaken (fun _ _ _ _ => trivial)⟩⟩ rfl rfl hls hst (lv_room hroom) hdg hcs) hS (fun q _ h => j_freeE (D_right hD) hA hS q h) (j_freeE (D_right hD) hA hS) (fun u t H1 locs1 ht hvm _ hB _ hk hS1 => by
    obtain ⟨h1, h2⟩ := two_R hP hD (j_freeE (D_right hD) hA hS) hk (by rw [← ht]; exact hB.1) hB.2.2
    exact kk u t H1 locs1 hvm hB.2.1 h1 h2 hS1)
/-- the same, of a public constructor of another class -/
theorem jPI {S : Type} {w1 : S → va_W} {K1 : S → State → Prop} (C : CallFix p m c cc nL s args Ts own) (hM : Met l y ws rm (va_Pc [.ref b] (PI D tys H.size wb)) (va_Qv (fun _ : S => True) (fun u t => va_P D vwCl (w1 u) t.heap ∧ K1 u t ∧ va_D (va_A wb H.size) (w1 u)) (va_A wb H.size)) mc ms (va_A wb H.size)) (G : GoodIn Ts ws) (hlk : Cond.methodLink own index y ∈ Ts) (hini : Cond.initialized y.cls ∈ Ts) (hin : Cond.instanceMethod y ∈ Ts) (hy1 : y.name = "<init>") (hd : okD y 0) (hK : va_K D vwCl tys s) (hN : NW s) (hO : va_AO RX3 s) (hOA : va_AOA .int s) (hP : va_P D vwCl (wa ++ wb) H) (hD : va_D A (wa ++ wb)) (hA : ∀ q : Nat, H0.size ≤ q → A q) (hS : va_S A H0 H locs) (hw : ws = Cond.code y bytes maxL none :: ws') (hrc : rm.cells = mc ∧ rm.slots = ms) (hR : rm.frames + 1 ≤ R.frames ∧ 8 + (maxL + 11) + rm.locals ≤ R.locals) (hls : ls.size = nL) (hst : st0 = .ref b :: rest) (hroom : (rest.map fun v => v.category).sum ≤ 8) (hcs : cells + mc ≤ R.cells ∧ slots + ms ≤ R.slots) (hdg : decode cc pc = .ok (.invokespecial index, 3))
    (kk : ∀ (u : S) (t : State) (H1 : Heap) (locs1 : List Loc), s.vm.Alike t.vm → K1 u t → va_P D vwCl (wa ++ w1 u) H1 → va_D A (wa ++ w1 u) → va_S A H0 H1 locs1 → W p l e R s m args below meth c H1 locs1 (cells + mc) (slots + ms) Q (F0 m (pc + 3) ls rest)) : W p l e R s m args below meth c H locs cells slots Q (F0 m pc ls st0) :=
  va_callv (va_runI (As := []) (rest := rest) C hM (cwI 0 C.2.2.2.2 G hw hrc.1 hrc.2 (C.2.2.2.2 _ hini) (C.2.2.2.2 _ hlk) (C.2.2.2.2 _ hin) hy1 hd hR) ⟨blindI, fun U hU hW => ⟨rfl, by rw [hU], by rw [hU]; exact P_right hP, va_K.moved hW.alike hK, hN.warm hW, va_AO.moved hW.alike hO, aoa_moved hW.alike hOA, (D_right hD).weaken (fun _ _ _ _ => trivial)⟩⟩ rfl rfl hls hst (lv_room hroom) hdg hcs) hS (fun q _ h => j_freeE (D_right hD) hA hS q h) (j_freeE (D_right hD) hA hS) (fun u t H1 locs1 ht hvm _ hB _ hk hS1 => by
    obtain ⟨h1, h2⟩ := two_R hP hD (j_freeE (D_right hD) hA hS) hk (by rw [← ht]; exact hB.1) hB.2.2
    exact kk u t H1 locs1 hvm hB.2.1 h1 h2 hS1)
end JN
-- the river's constructor
abbrev rm2_init : Room := { frames := 1, cells := 15, slots := 2623, locals := 12 }
theorem hd2_init : okD yX2_init 0 := by decide +kernel
theorem ml2_init : Cond.methodLink RX2 3 objectInit ∈ wsX2_init := by decide +kernel
theorem im2_init : Cond.instanceMethod objectInit ∈ wsX2_init := by decide +kernel
theorem oc2_init : Cond.code objectInit ⟨#[0xb1]⟩ 1 none ∈ wsX2_init := by decide +kernel
theorem ac2_init : Cond.arrayClass .int ∈ wsX2_init := by decide +kernel
theorem inm2_init : ∀ w ∈ wsX20, w ∈ wsX2_init := by decide +kernel
theorem fl2_init_13 : Cond.fieldLink RX2 13 "RiverWords$River" "forms" "[[I" ∈ wsX2_init := by decide +kernel
theorem fl2_init_16 : Cond.fieldLink RX2 16 "RiverWords$River" "cycles" "[[I" ∈ wsX2_init := by decide +kernel
theorem s2_init : "[" ++ (FieldType.array FieldType.int).toString = "[[I" := by decide +kernel
theorem cl2_init : Cond.classLink RX2 11 ("[" ++ (FieldType.array FieldType.int).toString) ∈ wsX2_init := by rw [s2_init]; decide +kernel
abbrev wX2 (h : Nat) : va_W := [(h, .inr (2, [.null, .null, .int 0, .int 0, .int 0]))]
abbrev wR2 (h : Nat) (cI : ClassId) (q1 q2 : Nat) (r1 r2 : Nat → Nat) (cG : ClassId) : va_W := [(h, .inr (2, [.ref q1, .ref q2, .int 0, .int 0, .int 0])), (q1, .inl (cG, 8, .inr (.inr (.inr (.inr (fun k => if k < 8 then some (r1 k) else none)))))), (q2, .inl (cG, 5, .inr (.inr (.inr (.inr (fun k => if k < 5 then some (r2 k) else none))))))] ++ ((List.range 8).map (irow r1 cI 320 (fun _ _ => 0)) ++ (List.range 5).map (irow r2 cI 10 (fun _ _ => 0)))
section RI
variable {l : Launch} {D : va_G} {sz h : Nat} {cI : ClassId}
set_option maxHeartbeats 16000000 in
set_option maxRecDepth 100000 in
theorem c2_init : Met l yX2_init wsX2_init rm2_init (va_Pc [.ref h] (PI D [(cI, .int)] sz (wX2 h))) (va_Qv (fun _ : Nat × Nat × (Nat → Nat) × (Nat → Nat) × ClassId => True) (fun u t => va_P D vwCl (wR2 h cI u.1 u.2.1 u.2.2.1 u.2.2.2.1 u.2.2.2.2) t.heap ∧ va_K D vwCl [(u.2.2.2.2, .array .int)] t ∧ va_D (va_A (wX2 h) sz) (wR2 h cI u.1 u.2.1 u.2.2.1 u.2.2.2.1 u.2.2.2.2)) (va_A (wX2 h) sz)) 15 2623 (va_A (wX2 h) sz) := by
  refine I_in (cc := cX2_init) (maxL := 1) (by decide) rfl (Nat.le_of_ble_eq_true rfl) ?_
  intro p e s m args below meth c ls Q hQ C hin hr hlk hK hN hO hOA hD hA hP hS hl
  have C : CallFix p m c cX2_init 1 s args wsX2_init RX2 := C
  have hx := C.1
  have hb := C.2.1
  have hl : lv_has ls 1 [(0, .ref h)] := hl
  have hcy : s.vm.findClass (FieldType.array FieldType.int).toString = some cI := (hK.2 0 (cI, .int) rfl).2
  refine lv_aload_n hx hb dX2_init_0 rfl (lv_at hl 0 rfl) ?_
  refine W.objInit hx hb C.2.2.2.1 (C.2.2.2.2 _ ml2_init) (C.2.2.2.2 _ im2_init) (C.2.2.2.2 _ oc2_init) rfl (by rw [C.2.2.1]; exact hl.1) rfl dX2_init_1 (Nat.le_of_ble_eq_true rfl) (Nat.le_of_ble_eq_true rfl) ?_
  refine W.eq (g2 := F0 m 4 ls []) rfl ?_
  refine lv_aload_n hx hb dX2_init_4 rfl (lv_at hl 0 rfl) ?_
  refine lv_bipush (v := 8) hx hb dX2_init_5 rfl ?_
  refine lv_sipush (v := 320) hx hb dX2_init_7 rfl ?_
  have hP : va_P D vwCl (wX2 h ++ va_pl [] (fun _ => (.inl (cI, 0, .inl (fun _ => 0)) : va_E))) s.heap := hP
  have hD : va_D (va_A (wX2 h) sz) (wX2 h ++ va_pl [] (fun _ => (.inl (cI, 0, .inl (fun _ => 0)) : va_E))) := hD
  refine va_mna (N' := 8) (K' := 320) (ty := .int) (z := (320, .inl (fun _ => 0))) hx hb C.2.2.2.1 (C.2.2.2.2 _ cl2_init) hOA (C.2.2.2.2 _ ac2_init) hcy hK hP hD hS hA (by decide) (by decide) rfl rfl (Nat.le_of_ble_eq_true rfl) (Nat.le_of_ble_eq_true rfl) (Nat.le_of_ble_eq_true rfl) rfl rfl (Nat.le_of_ble_eq_true rfl) (Nat.le_of_ble_eq_true rfl) (fun c => arrV_new c 320 (.int 0)) dX2_init_10 (fun q1 r1 cG H hi1 hn1 hK hP hD hS => ?_)
  rw [← vr_rows (L := []) (fun a _ q => by cases q)] at hP hD
  have hP : va_P D vwCl ([(h, .inr (2, [.null, .null, .int 0, .int 0, .int 0])), (q1, .inl (cG, 8, .inr (.inr (.inr (.inr (fun k => if k < 8 then some (r1 k) else none))))))] ++ ((List.range 8).map r1).map (fun a => (a, (.inl (cI, 320, .inl (fun _ => 0)) : va_E)))) H := hP
  have hD : va_D (va_A (wX2 h) sz) ([(h, .inr (2, [.null, .null, .int 0, .int 0, .int 0])), (q1, .inl (cG, 8, .inr (.inr (.inr (.inr (fun k => if k < 8 then some (r1 k) else none))))))] ++ ((List.range 8).map r1).map (fun a => (a, (.inl (cI, 320, .inl (fun _ => 0)) : va_E)))) := hD
  refine va_putF (D := D) (ci := 2) (v := .ref q1) (ty := .array (.array .int)) (C := RX2) (T := TX2) (N := 5) hx hb C.2.2.2.2 inm2_init tyX2 tyX2_ok nmX2 C.2.2.2.1 hK hP hD hS 0 rfl rfl 0 (by decide) (C.2.2.2.2 _ fl2_init_13) (fun _ h9 => h9) rfl hin rfl (by decide +kernel) rfl rfl (Nat.le_of_ble_eq_true rfl) dX2_init_14 (fun H locs hP hD hS => ?_)
  have hP : va_P D vwCl ([(h, .inr (2, [.ref q1, .null, .int 0, .int 0, .int 0])), (q1, .inl (cG, 8, .inr (.inr (.inr (.inr (fun k => if k < 8 then some (r1 k) else none))))))] ++ va_pl ((List.range 8).map r1) (fun _ => (.inl (cI, 320, .inl (fun _ => 0)) : va_E))) H := hP
  have hD : va_D (va_A (wX2 h) sz) ([(h, .inr (2, [.ref q1, .null, .int 0, .int 0, .int 0])), (q1, .inl (cG, 8, .inr (.inr (.inr (.inr (fun k => if k < 8 then some (r1 k) else none))))))] ++ va_pl ((List.range 8).map r1) (fun _ => (.inl (cI, 320, .inl (fun _ => 0)) : va_E))) := hD
  refine lv_aload_n hx hb dX2_init_17 rfl (lv_at hl 0 rfl) ?_
  refine lv_iconst (v := 5) hx hb dX2_init_18 rfl ?_
  refine lv_bipush (v := 10) hx hb dX2_init_19 rfl ?_
  refine va_mna (N' := 5) (K' := 10) (ty := .int) (z := (10, .inl (fun _ => 0))) hx hb C.2.2.2.1 (C.2.2.2.2 _ cl2_init) hOA (C.2.2.2.2 _ ac2_init) hcy hK hP hD hS hA (by decide) (by decide) rfl rfl (Nat.le_of_ble_eq_true rfl) (Nat.le_of_ble_eq_true rfl) (Nat.le_of_ble_eq_true rfl) rfl rfl (Nat.le_of_ble_eq_true rfl) (Nat.le_of_ble_eq_true rfl) (fun c => arrV_new c 10 (.int 0)) dX2_init_21 (fun q2 r2 cG2 H hi2 hn2 hK hP hD hS => ?_)
  have eG : cG2 = cG := K_same2 (k := 1) hK rfl
  rw [eG] at hP hD
  rw [← vr_rows (fun a ha q => by obtain ⟨i, hi, rfl⟩ := List.mem_map.mp ha; exact hn2 i (List.mem_range.mp hi) q)] at hP hD
  have hP : va_P D vwCl ([(h, .inr (2, [.ref q1, .null, .int 0, .int 0, .int 0])), (q1, .inl (cG, 8, .inr (.inr (.inr (.inr (fun k => if k < 8 then some (r1 k) else none)))))), (q2, .inl (cG, 5, .inr (.inr (.inr (.inr (fun k => if k < 5 then some (r2 k) else none))))))] ++ (va_pl ((List.range 8).map r1) (fun _ => (.inl (cI, 320, .inl (fun _ => 0)) : va_E)) ++ ((List.range 5).map r2).map (fun a => (a, (.inl (cI, 10, .inl (fun _ => 0)) : va_E))))) H := hP
  have hD : va_D (va_A (wX2 h) sz) ([(h, .inr (2, [.ref q1, .null, .int 0, .int 0, .int 0])), (q1, .inl (cG, 8, .inr (.inr (.inr (.inr (fun k => if k < 8 then some (r1 k) else none)))))), (q2, .inl (cG, 5, .inr (.inr (.inr (.inr (fun k => if k < 5 then some (r2 k) else none))))))] ++ (va_pl ((List.range 8).map r1) (fun _ => (.inl (cI, 320, .inl (fun _ => 0)) : va_E)) ++ ((List.range 5).map r2).map (fun a => (a, (.inl (cI, 10, .inl (fun _ => 0)) : va_E))))) := hD
  refine va_putF (D := D) (ci := 2) (v := .ref q2) (ty := .array (.array .int)) (C := RX2) (T := TX2) (N := 5) hx hb C.2.2.2.2 inm2_init tyX2 tyX2_ok nmX2 C.2.2.2.1 hK hP hD hS 0 rfl rfl 1 (by decide) (C.2.2.2.2 _ fl2_init_16) (fun _ h9 => h9) rfl hin rfl (by decide +kernel) rfl rfl (Nat.le_of_ble_eq_true rfl) dX2_init_25 (fun H locs hP hD hS => ?_)
  have el : (va_pl ((List.range 8).map r1) (fun _ => (.inl (cI, 320, .inl (fun _ => 0)) : va_E)) ++ ((List.range 5).map r2).map (fun a => (a, (.inl (cI, 10, .inl (fun _ => 0)) : va_E)))) = ((List.range 8).map (irow r1 cI 320 (fun _ _ => 0)) ++ (List.range 5).map (irow r2 cI 10 (fun _ _ => 0))) := by
    unfold va_pl
    rw [List.map_map, List.map_map]
    rfl
  have hP : va_P D vwCl ([(h, .inr (2, [.ref q1, .ref q2, .int 0, .int 0, .int 0])), (q1, .inl (cG, 8, .inr (.inr (.inr (.inr (fun k => if k < 8 then some (r1 k) else none)))))), (q2, .inl (cG, 5, .inr (.inr (.inr (.inr (fun k => if k < 5 then some (r2 k) else none))))))] ++ (va_pl ((List.range 8).map r1) (fun _ => (.inl (cI, 320, .inl (fun _ => 0)) : va_E)) ++ ((List.range 5).map r2).map (fun a => (a, (.inl (cI, 10, .inl (fun _ => 0)) : va_E))))) H := hP
  have hD : va_D (va_A (wX2 h) sz) ([(h, .inr (2, [.ref q1, .ref q2, .int 0, .int 0, .int 0])), (q1, .inl (cG, 8, .inr (.inr (.inr (.inr (fun k => if k < 8 then some (r1 k) else none)))))), (q2, .inl (cG, 5, .inr (.inr (.inr (.inr (fun k => if k < 5 then some (r2 k) else none))))))] ++ (va_pl ((List.range 8).map r1) (fun _ => (.inl (cI, 320, .inl (fun _ => 0)) : va_E)) ++ ((List.range 5).map r2).map (fun a => (a, (.inl (cI, 10, .inl (fun _ => 0)) : va_E))))) := hD
  rw [el] at hP hD
  subst hQ
  refine W.widen (k := 15) (n := 2623) (Nat.le_of_ble_eq_true rfl) (Nat.le_of_ble_eq_true rfl) ?_
  have hK2 : va_K D vwCl [(cG, .array .int)] s := (K_left hK).sub [1] rfl
  exact W.vret hx hb hr (fun t ht hW => ⟨⟨(q1, q2, r1, r2, cG), rfl, trivial, by show va_P D vwCl _ t.heap; rw [ht]; exact hP, va_K.moved hW.alike hK2, hD⟩, hS.F ht⟩) hS.2.2 dX2_init_28 hlk
end RI
