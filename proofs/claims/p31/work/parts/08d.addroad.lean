section JI
variable {p : Program} {l : Launch} {e : Env} {R : Room} {s : State} {m : MethodId} {args : Array Value} {below : List Frame} {meth : Method} {c : Code} {H : Heap} {locs : List Loc} {cells slots : Nat} {Q : State → Prop}
variable {cc : ByteArray} {pc : Nat} {ls : Array Slot} {rest : List Value} {D : va_G} {A : Nat → Prop} {H0 : Heap} {nL : Nat} {Ts : List Cond} {own : String}
variable {y : MethodName} {bytes : ByteArray} {maxL n index : Nat} {ws ws' : List Cond} {rm : Room} {As : List Value} {st0 : List Value} {tys : List (ClassId × FieldType)} {w0 w1 wz : va_W} {b : Addr}
/-- a constructor that makes no cell -/
theorem jIE_v (C : CallFix p m c cc nL s args Ts own) (hM : Met l y ws rm (va_Pc (.ref b :: As) (PE D tys H.size wz w0)) (va_Qv (fun _ : Unit => True) (fun _ t => va_P D vwCl w1 t.heap) (va_A wz H.size)) 0 0 (va_A wz H.size)) (G : GoodIn Ts ws) (hd : okD y n) (hini : Cond.initialized y.cls ∈ Ts) (hlk : Cond.methodLink own index y ∈ Ts) (hin : Cond.instanceMethod y ∈ Ts) (hy1 : y.name = "<init>") (hK : va_K D vwCl tys s) (hN : NW s) (hD : va_D A wz) (hA : ∀ q : Nat, H0.size ≤ q → A q) (I : IM D A H0 H locs w0) (hw : ws = Cond.code y bytes maxL none :: ws') (hrc : rm.cells = 0 ∧ rm.slots = 0) (hR : rm.frames + 1 ≤ R.frames ∧ 8 + (maxL + 11) + rm.locals ≤ R.locals) (hn : As.length = n) (hls : ls.size = nL) (hst : st0 = As.reverse ++ .ref b :: rest) (hroom : (rest.map fun v => v.category).sum ≤ 8) (hcs : cells ≤ R.cells ∧ slots ≤ R.slots) (hdg : decode cc pc = .ok (.invokespecial index, 3))
    (kk : ∀ (H1 : Heap) (locs1 : List Loc), IM D A H0 H1 locs1 w1 → W p l e R s m args below meth c H1 locs1 cells slots Q (F0 m (pc + 3) ls rest)) : W p l e R s m args below meth c H locs cells slots Q (F0 m pc ls st0) :=
  va_callv (va_runI (As := As) (rest := rest) C hM (cwI n C.2.2.2.2 G hw hrc.1 hrc.2 (C.2.2.2.2 _ hini) (C.2.2.2.2 _ hlk) (C.2.2.2.2 _ hin) hy1 hd hR) ⟨blindE, fun U hU hW => ⟨rfl, by rw [hU], by rw [hU]; exact I.1, va_K.moved hW.alike hK, hN.warm hW, hD.weaken (fun _ _ _ _ => trivial)⟩⟩ rfl hn hls hst (lv_room hroom) hdg ⟨hcs.1, hcs.2⟩) I.2 (fun q _ h => j_freeE hD hA I.2 q h) (j_freeE hD hA I.2) (fun _ t H1 locs1 ht _ _ hB _ _ hS => kk H1 locs1 ⟨by rw [← ht]; exact hB, hS⟩)
end JI
theorem set_last {α : Type} {l : List α} {x y : α} : (l ++ [x]).set l.length y = l ++ [y] := by
  rw [List.set_append_right _ _ (Nat.le_refl _), Nat.sub_self]
  rfl
theorem get_last {α : Type} {l : List α} {x : α} : (l ++ [x])[l.length]? = some x := by
  rw [List.getElem?_append_right (Nat.le_refl _), Nat.sub_self]
  rfl
theorem vx_of {x : Int32} {n : Nat} (h0 : ¬ x < 0) (h : x.toInt < (n : Int)) : vx x n := vp_in_iff.mpr ⟨by
  rcases Int.lt_or_le x.toInt 0 with q | q
  · exact absurd (Int32.lt_iff_toInt_lt.mpr q) h0
  · exact q, h⟩
abbrev rm4_addRoad : Room := { frames := 3, cells := 1, slots := 7, locals := 66 }
theorem hd4_addRoad : okD yX4_addRoad 2 := by decide +kernel
theorem fl4_addRoad_148 : Cond.fieldLink RX4 148 "RiverWords" "roadCount" "I" ∈ wsX4_addRoad := by decide +kernel
theorem fl4_addRoad_18 : Cond.fieldLink RX4 18 "RiverWords" "roads" "[LRiverWords$Word;" ∈ wsX4_addRoad := by decide +kernel
theorem k4_addRoad_56 : Cond.constant RX4 56 (-2000000103) ∈ wsX4_addRoad := by decide +kernel
theorem k4_addRoad_41 : Cond.constant RX4 41 (-2000000104) ∈ wsX4_addRoad := by decide +kernel
theorem inm4_addRoad_X4 : ∀ w ∈ wsX40, w ∈ wsX4_addRoad := by decide +kernel
theorem inm4_addRoad_X3 : ∀ w ∈ wsX30, w ∈ wsX4_addRoad := by decide +kernel
theorem cl4_addRoad : Cond.classLink RX4 16 RX3 ∈ wsX4_addRoad := by decide +kernel
theorem is4_addRoad : Cond.instantiable RX3 7 ∈ wsX4_addRoad := by decide +kernel
theorem ii4_addRoad : Cond.initialized RX3 ∈ wsX4_addRoad := by decide +kernel
theorem ml4_addRoad : Cond.methodLink RX4 282 yX3_init ∈ wsX4_addRoad := by decide +kernel
theorem im4_addRoad : Cond.instanceMethod yX3_init ∈ wsX4_addRoad := by decide +kernel
section XA
variable {l : Launch} {D : va_G} {sz : Nat}
variable {ad fa ca wad : Nat → Nat} {cI cR cG : ClassId}
variable {v_roadCount v_readings v_psize v_good v_pbits v_letters v_afterLetter v_disc v_rsize v_cycleCount v_closed v_traces v_crossings v_db_bits v_db_size v_db_allBits v_db_a v_db_b v_db_c v_db_d v_dn_bits v_dn_size v_dn_allBits v_dn_a v_dn_b v_dn_c v_dn_d : Int32}
variable {v_s : Int64}
variable {v_codes : Nat → Int32}
variable {v_fo v_cy v_wv : Nat → Nat → Int32}
variable {v_wn : Nat}

set_option maxHeartbeats 8000000 in
set_option maxRecDepth 100000 in
theorem c4_addRoad {x1 : Int32} {x2 : Int32} {res : Int32 × Int32 × Nat × (Nat → Nat → Int32)} (hrun : P4_addRoad v_roadCount v_wn v_wv x1 x2 = some res) : Met l yX4_addRoad wsX4_addRoad rm4_addRoad (va_Pc [.ref (ad 0), .int x1, .int x2] (PE D (tyX cI cR cG) sz (WX0 ad fa ca wad cI cR cG v_wn) (WX ad fa ca wad cI cR cG v_roadCount v_readings v_psize v_good v_pbits v_letters v_afterLetter v_codes v_disc v_rsize v_cycleCount v_fo v_cy v_s v_closed v_traces v_crossings v_db_bits v_db_size v_db_allBits v_db_a v_db_b v_db_c v_db_d v_dn_bits v_dn_size v_dn_allBits v_dn_a v_dn_b v_dn_c v_dn_d v_wn v_wv))) (va_Qi (fun (x : Int32) (_ : Nat → Nat) => x = res.1) (fun u t => va_P D vwCl (WX ad fa ca u cI cR cG res.2.1 v_readings v_psize v_good v_pbits v_letters v_afterLetter v_codes v_disc v_rsize v_cycleCount v_fo v_cy v_s v_closed v_traces v_crossings v_db_bits v_db_size v_db_allBits v_db_a v_db_b v_db_c v_db_d v_dn_bits v_dn_size v_dn_allBits v_dn_a v_dn_b v_dn_c v_dn_d res.2.2.1 res.2.2.2) t.heap ∧ va_D (va_A (WX0 ad fa ca wad cI cR cG v_wn) sz) (WX0 ad fa ca u cI cR cG res.2.2.1)) (va_A (WX0 ad fa ca wad cI cR cG v_wn) sz)) 1 7 (va_A (WX0 ad fa ca wad cI cR cG v_wn) sz) := by
  refine E_in (cc := cX4_addRoad) (maxL := 4) (ret := some .int) (by decide) rfl (Nat.le_of_ble_eq_true rfl) ?_
  intro p e s m args below meth c ls Q hQ C hr hlk hK hN hD hA I hl
  have C : CallFix p m c cX4_addRoad 4 s args wsX4_addRoad RX4 := C
  have hx := C.1
  have hb := C.2.1
  have hl : lv_has ls 4 [(0, .ref (ad 0)), (1, .int x1), (2, .int x2)] := hl
  unfold P4_addRoad at hrun
  refine lv_iload_n hx hb dX4_addRoad_0 rfl (lv_at hl 2 rfl) ?_
  refine lv_bipush (v := 20) hx hb dX4_addRoad_1 rfl ?_
  refine lv_icmp_le (tgt := 9) hx hb dX4_addRoad_3 rfl (fun c1 => ?_) (fun c1 => ?_)
  · have hrun := p_pos hrun c1
    refine lv_aload_n hx hb dX4_addRoad_9 rfl (lv_at hl 0 rfl) ?_
    refine gX_X_roadCount C inm4_addRoad_X4 hK I.1 fl4_addRoad_148 dX4_addRoad_10 ?_
    refine lv_if_lt (tgt := 28) hx hb dX4_addRoad_13 rfl (fun c2 => ?_) (fun c2 => ?_)
    · have hrun := p_pos hrun c2
      refine lv_ldc (v := (-2000000104)) hx hb C.2.2.2.1 (C.2.2.2.2 _ k4_addRoad_41) dX4_addRoad_28 ?_
      cases hrun
      refine W.widen (k := 1) (n := 7) (Nat.zero_le _) (Nat.zero_le _) ?_
      exact rG_i (u := wad) C hr hlk hQ I hD (nbi _) rfl dX4_addRoad_30
    · have hrun := p_neg hrun c2
      refine lv_aload_n hx hb dX4_addRoad_16 rfl (lv_at hl 0 rfl) ?_
      refine gX_X_roadCount C inm4_addRoad_X4 hK I.1 fl4_addRoad_148 dX4_addRoad_17 ?_
      refine lv_aload_n hx hb dX4_addRoad_20 rfl (lv_at hl 0 rfl) ?_
      refine gX_X_roads C inm4_addRoad_X4 hK I.1 fl4_addRoad_18 dX4_addRoad_21 ?_
      refine alX_roads C hK I.1 dX4_addRoad_24 ?_
      refine lv_icmp_lt (tgt := 31) hx hb dX4_addRoad_25 rfl (fun c3 => ?_) (fun c3 => ?_)
      · have hrun := p_pos hrun c3
        obtain ⟨r, h_r, hrun⟩ := p_bnd hrun
        obtain ⟨hk, hrun⟩ := p_chk hrun
        have hin : vx v_roadCount 6 := vx_of c2 (Int32.lt_iff_toInt_lt.mp c3)
        refine lv_aload_n hx hb dX4_addRoad_31 rfl (lv_at hl 0 rfl) ?_
        refine gX_X_roadCount C inm4_addRoad_X4 hK I.1 fl4_addRoad_148 dX4_addRoad_32 ?_
        refine lv_istore_n (lv' := [(3, .int v_roadCount), (0, .ref (ad 0)), (1, .int x1), (2, .int x2)]) hx hb dX4_addRoad_35 rfl hl (by decide) rfl (fun ls hl => ?_)
        refine lv_aload_n hx hb dX4_addRoad_36 rfl (lv_at hl 1 rfl) ?_
        refine gX_X_roads C inm4_addRoad_X4 hK I.1 fl4_addRoad_18 dX4_addRoad_37 ?_
        refine lv_iload_n hx hb dX4_addRoad_40 rfl (lv_at hl 0 rfl) ?_
        refine va_new (ci := 3) (fs := wl 0 0 0 0 0 0 0) (C := RX3) (T := TX3) (N := 7) hx hb C.2.2.2.2 inm4_addRoad_X3 tyX3 tyX3_ok C.2.2.2.1 (C.2.2.2.2 _ cl4_addRoad) (C.2.2.2.2 _ is4_addRoad) (C.2.2.2.2 _ ii4_addRoad) hK I.1 (WX_D hD) I.2 hA rfl (fun j hj => by rcases (show j = 0 ∨ j = 1 ∨ j = 2 ∨ j = 3 ∨ j = 4 ∨ j = 5 ∨ j = 6 by omega) with rfl | rfl | rfl | rfl | rfl | rfl | rfl <;> rfl) (Nat.le_of_ble_eq_true rfl) (Nat.le_of_ble_eq_true rfl) dX4_addRoad_41 (fun q H hP hDn hS => ?_)
        refine lv_dup hx hb dX4_addRoad_44 rfl ?_
        refine lv_iload_n hx hb dX4_addRoad_45 rfl (lv_at hl 2 rfl) ?_
        refine lv_iload_n hx hb dX4_addRoad_46 rfl (lv_at hl 3 rfl) ?_
        have e0 : (WX ad fa ca wad cI cR cG v_roadCount v_readings v_psize v_good v_pbits v_letters v_afterLetter v_codes v_disc v_rsize v_cycleCount v_fo v_cy v_s v_closed v_traces v_crossings v_db_bits v_db_size v_db_allBits v_db_a v_db_b v_db_c v_db_d v_dn_bits v_dn_size v_dn_allBits v_dn_a v_dn_b v_dn_c v_dn_d v_wn v_wv) ++ [(q, (Sum.inr (3, wl 0 0 0 0 0 0 0) : va_E))] = wW ((WX ad fa ca wad cI cR cG v_roadCount v_readings v_psize v_good v_pbits v_letters v_afterLetter v_codes v_disc v_rsize v_cycleCount v_fo v_cy v_s v_closed v_traces v_crossings v_db_bits v_db_size v_db_allBits v_db_a v_db_b v_db_c v_db_d v_dn_bits v_dn_size v_dn_allBits v_dn_a v_dn_b v_dn_c v_dn_d v_wn v_wv) ++ [(q, (Sum.inr (3, wl 0 0 0 0 0 0 0) : va_E))]) ((WX ad fa ca wad cI cR cG v_roadCount v_readings v_psize v_good v_pbits v_letters v_afterLetter v_codes v_disc v_rsize v_cycleCount v_fo v_cy v_s v_closed v_traces v_crossings v_db_bits v_db_size v_db_allBits v_db_a v_db_b v_db_c v_db_d v_dn_bits v_dn_size v_dn_allBits v_dn_a v_dn_b v_dn_c v_dn_d v_wn v_wv)).length q 0 0 0 0 0 0 0 := by
          unfold wW
          rw [set_last]
        have hlt : ((WX ad fa ca wad cI cR cG v_roadCount v_readings v_psize v_good v_pbits v_letters v_afterLetter v_codes v_disc v_rsize v_cycleCount v_fo v_cy v_s v_closed v_traces v_crossings v_db_bits v_db_size v_db_allBits v_db_a v_db_b v_db_c v_db_d v_dn_bits v_dn_size v_dn_allBits v_dn_a v_dn_b v_dn_c v_dn_d v_wn v_wv)).length < ((WX ad fa ca wad cI cR cG v_roadCount v_readings v_psize v_good v_pbits v_letters v_afterLetter v_codes v_disc v_rsize v_cycleCount v_fo v_cy v_s v_closed v_traces v_crossings v_db_bits v_db_size v_db_allBits v_db_a v_db_b v_db_c v_db_d v_dn_bits v_dn_size v_dn_allBits v_dn_a v_dn_b v_dn_c v_dn_d v_wn v_wv) ++ [(q, (Sum.inr (3, wl 0 0 0 0 0 0 0) : va_E))]).length := w_lt get_last
        have I2 : IM D (va_A (WX0 ad fa ca wad cI cR cG v_wn) sz) s.heap H [] (wW ((WX ad fa ca wad cI cR cG v_roadCount v_readings v_psize v_good v_pbits v_letters v_afterLetter v_codes v_disc v_rsize v_cycleCount v_fo v_cy v_s v_closed v_traces v_crossings v_db_bits v_db_size v_db_allBits v_db_a v_db_b v_db_c v_db_d v_dn_bits v_dn_size v_dn_allBits v_dn_a v_dn_b v_dn_c v_dn_d v_wn v_wv) ++ [(q, (Sum.inr (3, wl 0 0 0 0 0 0 0) : va_E))]) ((WX ad fa ca wad cI cR cG v_roadCount v_readings v_psize v_good v_pbits v_letters v_afterLetter v_codes v_disc v_rsize v_cycleCount v_fo v_cy v_s v_closed v_traces v_crossings v_db_bits v_db_size v_db_allBits v_db_a v_db_b v_db_c v_db_d v_dn_bits v_dn_size v_dn_allBits v_dn_a v_dn_b v_dn_c v_dn_d v_wn v_wv)).length q 0 0 0 0 0 0 0) := e0 ▸ ⟨hP, hS⟩
        refine jIE_v (rest := [.ref q, .int v_roadCount, .ref (ad 3)]) C (c3_init hlt h_r) gX4_addRoad_X3_init hd3_init ii4_addRoad ml4_addRoad im4_addRoad rfl hK hN (e0 ▸ hDn) hA I2 rfl ⟨rfl, rfl⟩ ⟨Nat.le_of_ble_eq_true rfl, Nat.le_of_ble_eq_true rfl⟩ rfl hl.1 rfl (Nat.le_of_ble_eq_true rfl) ⟨Nat.le_of_ble_eq_true rfl, Nat.le_of_ble_eq_true rfl⟩ dX4_addRoad_47 (fun H locs I => ?_)
        unfold wW at I
        rw [set_last] at I
        refine va_astq (r := (RX3, TX3, 7)) hx hb hK I.1 (va_D_congr (by rw [List.map_append, List.map_append]; rfl) hDn) I.2 3 1 ((WX ad fa ca wad cI cR cG v_roadCount v_readings v_psize v_good v_pbits v_letters v_afterLetter v_codes v_disc v_rsize v_cycleCount v_fo v_cy v_s v_closed v_traces v_crossings v_db_bits v_db_size v_db_allBits v_db_a v_db_b v_db_c v_db_d v_dn_bits v_dn_size v_dn_allBits v_dn_a v_dn_b v_dn_c v_dn_d v_wn v_wv)).length 3 rfl rfl get_last rfl hin dX4_addRoad_50 (fun H locs hP _ hS => ?_)
        have hP := WX_growP hk hP
        have hD := WX_growD hk hDn
        have I : IM D (va_A (WX0 ad fa ca wad cI cR cG v_wn) sz) s.heap H locs _ := ⟨hP, hS⟩
        refine lv_aload_n hx hb dX4_addRoad_51 rfl (lv_at hl 1 rfl) ?_
        refine lv_dup hx hb dX4_addRoad_52 rfl ?_
        refine gX_X_roadCount C inm4_addRoad_X4 hK I.1 fl4_addRoad_148 dX4_addRoad_53 ?_
        refine lv_iconst (v := 1) hx hb dX4_addRoad_56 rfl ?_
        refine lv_iadd hx hb dX4_addRoad_57 ?_
        refine pX_X_roadCount C inm4_addRoad_X4 hK hD I fl4_addRoad_148 dX4_addRoad_58 (fun H locs I => ?_)
        refine lv_iload_n hx hb dX4_addRoad_61 rfl (lv_at hl 0 rfl) ?_
        cases hrun
        exact rG_i (u := fun k => if k = Int32.toNatClampNeg v_roadCount then q else wad k) C hr hlk hQ I hD (nbi _) rfl dX4_addRoad_62
      · have hrun := p_neg hrun c3
        refine lv_ldc (v := (-2000000104)) hx hb C.2.2.2.1 (C.2.2.2.2 _ k4_addRoad_41) dX4_addRoad_28 ?_
        cases hrun
        refine W.widen (k := 1) (n := 7) (Nat.zero_le _) (Nat.zero_le _) ?_
        exact rG_i (u := wad) C hr hlk hQ I hD (nbi _) rfl dX4_addRoad_30
  · have hrun := p_neg hrun c1
    refine lv_ldc (v := (-2000000103)) hx hb C.2.2.2.1 (C.2.2.2.2 _ k4_addRoad_56) dX4_addRoad_6 ?_
    cases hrun
    refine W.widen (k := 1) (n := 7) (Nat.zero_le _) (Nat.zero_le _) ?_
    exact rG_i (u := wad) C hr hlk hQ I hD (nbi _) rfl dX4_addRoad_8
end XA
