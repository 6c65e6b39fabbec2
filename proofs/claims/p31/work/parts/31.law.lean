/-! THE CLAIM OUT OF ONE WALK OF THE LAW'S BODY. Your part is whole_start (and what it stands on); all else here is the same for every law, but numbers. -/
def R_law : String := "RiverWordsLaw"
def lw_P (b : Addr) (xs : List Int32) (args : Array Value) (s : State) : Prop := args = #[.ref b] ∧ s.IntsAt b xs ∧ xs.length ≤ 260 ∧ (Jvm.Cond.and given_1 narrow_1).before args s = true
def lw_Q (_ : Array Value) (s : State) (o : Outcome) (t : State) : Prop := o = .returned (some (.int 1)) ∧ Framed s o t [] 600000 7302250
def lw_Z (below : List Frame) (a : Array Value) (s : State) : State → Prop := fun t => ∃ o, t.status = .running ∧ Ended t below o ∧ lw_Q a s o t
/-- the law's own end, with 1 on the stack, nothing written that was there before, its room as the claim has it -/
theorem lw_ret {p : Program} {l : Launch} {e : Env} {s : State} {m : MethodId} {below : List Frame} {meth : Method} {c : Code} {b : Nat} (hx : p.tables.exec = Jvm.exec) (hb : c.code = code) (hr : meth.sig.returnType = ret) (hlocks : meth.locks = false) {pc : Nat} {H : Heap} {ls : Array Slot} (hdg : decode code pc = .ok (.ireturn, 1)) : W p l e room_1 s m #[Value.ref b] below meth c H [] 600000 7302250 (lw_Z below #[Value.ref b] s) (F0 m pc ls [.int 1]) := by
  intro T hT X
  obtain ⟨fs, hret, hrun, hended, hW, hframe⟩ := X.leave (v := some (.int 1)) (hlocks := hlocks) (fun h => by rw [hr] at h; cases h)
  have hmeth' : T.vm.method? m = some meth := X.method'
  refine ⟨T.setFrames fs, ?_, .returned (some (.int 1)), hrun, hended, rfl, ⟨_, rfl⟩, hW, hframe⟩
  jvm_step X.here [X.here.top, hx, hb, hdg, hmeth', hr, ret, narrow_b1]
  (try refine ⟨rfl, ?_⟩); (try refine ⟨rfl, ?_⟩)
  first | (intro acts; rw [hret _ acts rfl rfl rfl]) | rw [hret _ _ rfl rfl rfl]
  exact Steps.refl _
/-- what holds at the law's entry: the machine, the code, the tables' words (any of lw_tbl by 'hts w (by decide +kernel)'), the script of L ints xs at the cell b, what the Statement gives of the start (any of its parts by flat_of_before) -/
def lw_At (p : Program) (s : State) (m : MethodId) (meth : Method) (c : Code) (b L : Nat) (xs : Nat → Int32) : Prop :=
  p.tables.exec = Jvm.exec ∧ c.code = code ∧ meth.sig.returnType = ret ∧ c.maxLocals = 7 ∧ s.vm.findClass R_law = some m.cls ∧ (∀ w ∈ lw_tbl, w.before #[Value.ref b] s = true) ∧ va_X b L xs s s.heap ∧ b < s.heap.size ∧ meth.locks = false ∧ (Jvm.Cond.and given_1 narrow_1).before #[Value.ref b] s = true
-- ===== YOUR PART BEGINS =====
-- THE SCRIPT'S CELLS, and what the walk of the law takes with it
def P_cell (L : Nat) (xs : Nat → Int32) (k : Int32) : Option Int32 := if Int32.ofNat L ≤ k then some (264347078 * (k + 1)) else if vx k L then some (xs k.toNatClampNeg) else none
def PX (b L : Nat) (xs : Nat → Int32) : State → Prop := fun U => va_X b L xs U U.heap ∧ b < U.heap.size
theorem blindX {b L : Nat} {xs : Nat → Int32} {av : List Value} : FrameBlind (va_Pc av (PX b L xs)) := fun a U g mk q => by
  obtain ⟨q0, qX, qb⟩ := q
  exact ⟨q0, va_X.moved (u := U) (U := U.calling g mk a) (Vm.Alike.refl U.vm) qX, qb⟩
theorem X_in {l : Launch} {y : MethodName} {ws ws' : List Cond} {rm : Room} {cc : ByteArray} {maxL : Nat} {ret : Option FieldType} {b L : Nat} {xs : Nat → Int32} {mc ms : Nat} {av : List Value} {Qc : Array Value → State → Outcome → State → Prop} {free : Addr → Prop} (hy : plainName y.cls = true) (hw : ws = Cond.code y cc maxL ret :: ws') (hlen : (lg_sl av).length ≤ maxL)
    (body : ∀ (p : Program) (e : Env) (s : State) (m : MethodId) (args : Array Value) (below : List Frame) (meth : Method) (c : Code) (ls : Array Slot) (Q : State → Prop), Q = MQ below Qc args s mc ms free → CallFix p m c cc maxL s args ws y.cls → meth.sig.returnType = ret → meth.locks = false → va_X b L xs s s.heap → b < s.heap.size → lv_has ls maxL (lv_args 0 av) → W p l e rm s m args below meth c s.heap [] 0 0 Q (F0 m 0 ls [])) : Met l y ws rm (va_Pc av (PX b L xs)) Qc mc ms free := by
  refine Met.ofW (cc := cc) (maxL := maxL) (ret := ret) hy hw ?_
  intro p e s m args below meth c s₁ B hml hv
  obtain ⟨rfl, hX, hbl⟩ := hv
  have hts := atoms_spec (ws := ws) B.pre
  have hown : s.vm.findClass y.cls = some m.cls := findClass_of_methodNamed B.named
  rw [lg_entry_eq]
  exact body p e s m _ below meth c _ _ rfl ⟨B.exec, B.bytes, hml, hown, hts⟩ B.returns B.notSynchronized hX hbl (lv_entry av hlen)
abbrev rm_cell : Room := { frames := 0, cells := 0, slots := 0, locals := 0 }
theorem k_cell_7 : Cond.constant RL 7 264347078 ∈ wsL_cell := by decide +kernel
theorem hd_cell : okD yL_cell 2 := by decide +kernel
set_option maxHeartbeats 8000000 in
theorem c_cell {l : Launch} {b L : Nat} {xs : Nat → Int32} {x1 : Int32} {res : Int32} (hrun : P_cell L xs x1 = some res) : Met l yL_cell wsL_cell rm_cell (va_Pc [.ref b, .int x1] (PX b L xs)) (vp_Si (fun x => x = res)) 0 0 (fun _ => False) := by
  refine X_in (cc := cL_cell) (maxL := 2) (ret := some .int) (by decide) rfl (Nat.le_of_ble_eq_true rfl) ?_
  intro p e s m args below meth c ls Q hQ C hr hlk hX hbl hl
  have C : CallFix p m c cL_cell 2 s args wsL_cell RL := C
  have hx := C.1
  have hb := C.2.1
  have hl : lv_has ls 2 [(0, .ref b), (1, .int x1)] := hl
  have hbA : ¬ (fun q : Nat => s.heap.size ≤ q) b := Nat.not_le.mpr hbl
  have hS : va_S (fun q : Nat => s.heap.size ≤ q) s.heap s.heap [] := va_S.rf
  unfold P_cell at hrun
  refine lv_iload_n hx hb dL_cell_0 rfl (lv_at hl 1 rfl) ?_
  refine lv_aload_n hx hb dL_cell_1 rfl (lv_at hl 0 rfl) ?_
  refine va_slen hx hb hX hbl hbA hS dL_cell_2 ?_
  refine lv_icmp_ge (tgt := 12) hx hb dL_cell_3 rfl (fun c1 => ?_) (fun c1 => ?_)
  · have hrun := p_pos hrun c1
    refine lv_ldc (v := 264347078) hx hb C.2.2.2.1 (C.2.2.2.2 _ k_cell_7) dL_cell_12 ?_
    refine lv_iload_n hx hb dL_cell_14 rfl (lv_at hl 1 rfl) ?_
    refine lv_iconst (v := 1) hx hb dL_cell_15 rfl ?_
    refine lv_iadd hx hb dL_cell_16 ?_
    refine lv_imul hx hb dL_cell_17 ?_
    cases hrun
    exact rS_i C hr hlk hQ (nbi _) rfl dL_cell_18
  · have hrun := p_neg hrun c1
    obtain ⟨hin, hrun⟩ := p_chk hrun
    refine lv_aload_n hx hb dL_cell_6 rfl (lv_at hl 0 rfl) ?_
    refine lv_iload_n hx hb dL_cell_7 rfl (lv_at hl 1 rfl) ?_
    refine va_sld hx hb hX hbl hbA hS hin dL_cell_8 ?_
    refine lv_goto (tgt := 18) hx hb dL_cell_9 rfl ?_
    cases hrun
    exact rS_i C hr hlk hQ (nbi _) rfl dL_cell_18
section JX
variable {p : Program} {l : Launch} {e : Env} {R : Room} {s : State} {m : MethodId} {args : Array Value} {below : List Frame} {meth : Method} {c : Code} {H : Heap} {locs : List Loc} {cells slots : Nat} {Q : State → Prop}
variable {cc : ByteArray} {pc : Nat} {ls : Array Slot} {rest : List Value} {nL : Nat} {Ts : List Cond} {own : String}
variable {y : MethodName} {bytes : ByteArray} {maxL n index : Nat} {ret : Option FieldType} {ws ws' : List Cond} {rm : Room} {As : List Value} {st0 : List Value} {b L : Nat} {xs : Nat → Int32}
theorem jXS_i {v : Int32} (C : CallFix p m c cc nL s args Ts own) (hM : Met l y ws rm (va_Pc As (PX b L xs)) (vp_Si (fun x => x = v)) 0 0 (fun _ => False)) (G : GoodIn Ts (va_wsS own index y ws)) (hd : okD y n) (hX : va_X b L xs s H) (hbl : b < H.size) (hw : ws = Cond.code y bytes maxL ret :: ws') (hrc : rm.cells = 0 ∧ rm.slots = 0) (hR : rm.frames + 1 ≤ R.frames ∧ 8 + (maxL + 11) + rm.locals ≤ R.locals) (hn : As.length = n) (hls : ls.size = nL) (hst : st0 = As.reverse ++ rest) (hroom : (rest.map fun v => v.category).sum ≤ 8) (hcs : cells ≤ R.cells ∧ slots ≤ R.slots) (hdg : decode cc pc = .ok (.invokestatic index, 3))
    (kk : W p l e R s m args below meth c H locs cells slots Q (F0 m (pc + 3) ls (.int v :: rest))) : W p l e R s m args below meth c H locs cells slots Q (F0 m pc ls st0) :=
  j_runSi (va_runS (As := As) (rest := rest) C hM (va_cwS n C.2.2.2.2 G hw hrc.1 hrc.2 hd hR) ⟨blindX, fun U hU hW => ⟨rfl, by rw [hU]; exact va_X.moved hW.alike hX, by rw [hU]; exact hbl⟩⟩ rfl hn hls hst (lv_room hroom) hdg ⟨hcs.1, hcs.2⟩) (fun r hr => by subst hr; exact kk)
end JX
def AL (s : State) : Nat → Prop := fun q => s.heap.size ≤ q
/-- what stays through the law: the machine, the words, the script -/
def LF (p : Program) (m : MethodId) (c : Code) (s : State) (b L : Nat) (xs : Nat → Int32) (args : Array Value) : Prop := CallFix p m c cL_law 7 s args wsL_law RL ∧ NW s ∧ va_X b L xs s s.heap ∧ b < s.heap.size
theorem LX {s : State} {H : Heap} {locs : List Loc} {b L : Nat} {xs : Nat → Int32} (hX : va_X b L xs s s.heap) (hbl : b < s.heap.size) (hS : va_S (AL s) s.heap H locs) : va_X b L xs s H ∧ b < H.size := ⟨hX.kept (hS.2.1 b hbl (Nat.not_le.mpr hbl)), Nat.lt_of_lt_of_le hbl hS.1⟩
theorem cell_ok (L : Nat) (xs : Nat → Int32) (hL : L ≤ 260) {k : Nat} (hk : k < 1000) : ∃ v, P_cell L xs (nI k) = some v := by
  unfold P_cell
  by_cases h : Int32.ofNat L ≤ nI k
  · exact ⟨_, by rw [if_pos h]⟩
  · rw [if_neg h]
    have h2 : k < L := by
      refine Nat.lt_of_not_le (fun q => h (nI_le (a := L) q (by omega)))
    exact ⟨_, by rw [if_pos (show vx (nI k) L from vp_in_nI h2 (by omega))]⟩
theorem at_ok (x : Int32) : P_at x 40 = some (jrem (jushr x 1) 40) := rfl
theorem lgb {x : Int32} (h : x = 1) : ¬ x = 0 := by
  rw [h]
  decide
theorem law_nw1 : Cond.methodLinkNest RX3 59 yX4_commonDivisor "RiverWords" ∈ lw_tbl := List.mem_append_right _ (List.mem_of_getElem? (i := 324) (by decide +kernel))
theorem law_nw2 : Cond.methodLinkNest RX3 62 yX4_discriminantOf "RiverWords" ∈ lw_tbl := List.mem_append_right _ (List.mem_of_getElem? (i := 333) (by decide +kernel))
theorem law_nw5 : Cond.methodLinkNest RX4 9 yX1_init "RiverWords" ∈ lw_tbl := List.mem_append_right _ (List.mem_of_getElem? (i := 18) (by decide +kernel))
theorem law_nw6 : Cond.methodLinkNest RX4 24 yX2_init "RiverWords" ∈ lw_tbl := List.mem_append_right _ (List.mem_of_getElem? (i := 50) (by decide +kernel))
theorem law_nw7 : Cond.methodLinkNest RX4 31 yX0_init "RiverWords" ∈ lw_tbl := List.mem_append_right _ (List.mem_of_getElem? (i := 73) (by decide +kernel))
theorem law_ao1 : Cond.arrayOver (.object RX3) ∈ lw_tbl := List.mem_append_right _ (List.mem_of_getElem? (i := 47) (by decide +kernel))
theorem law_ao2 : Cond.arrayOver (.array .int) ∈ lw_tbl := List.mem_append_right _ (List.mem_of_getElem? (i := 55) (by decide +kernel))
theorem law_in0 : Cond.instantiable RX0 6 ∈ lw_tbl := List.mem_append_right _ (List.mem_of_getElem? (i := 72) (by decide +kernel))
theorem law_in1 : Cond.instantiable RX1 6 ∈ lw_tbl := List.mem_append_right _ (List.mem_of_getElem? (i := 17) (by decide +kernel))
theorem law_in2 : Cond.instantiable RX2 5 ∈ lw_tbl := List.mem_append_right _ (List.mem_of_getElem? (i := 49) (by decide +kernel))
theorem law_in3 : Cond.instantiable RX3 7 ∈ lw_tbl := List.mem_append_right _ (List.mem_of_getElem? (i := 78) (by decide +kernel))
theorem law_in4 : Cond.instantiable RX4 6 ∈ lw_tbl := List.mem_append_right _ (List.mem_of_getElem? (i := 9) (by decide +kernel))
theorem law_cl40 : Cond.classLink RL 40 RX4 ∈ wsL_law := (List.mem_append_left _ (List.mem_append_left _ (List.mem_append_left _ (List.mem_append_left _ (List.mem_append_left _ (List.mem_append_left _ (List.mem_append_left _ (by decide +kernel))))))))
theorem law_is4 : Cond.instantiable RX4 6 ∈ wsL_law := (List.mem_append_left _ (List.mem_append_left _ (List.mem_append_left _ (List.mem_append_left _ (List.mem_append_left _ (List.mem_append_left _ (List.mem_append_left _ (by decide +kernel))))))))
theorem law_ii4 : Cond.initialized RX4 ∈ wsL_law := (List.mem_append_left _ (List.mem_append_left _ (List.mem_append_left _ (List.mem_append_left _ (List.mem_append_left _ (List.mem_append_left _ (List.mem_append_left _ (by decide +kernel))))))))
theorem law_ml4 : Cond.methodLink RL 164 yX4_init ∈ wsL_law := (List.mem_append_left _ (List.mem_append_left _ (List.mem_append_left _ (List.mem_append_left _ (List.mem_append_left _ (List.mem_append_left _ (List.mem_append_left _ (by decide +kernel))))))))
theorem law_im4 : Cond.instanceMethod yX4_init ∈ wsL_law := (List.mem_append_left _ (List.mem_append_left _ (List.mem_append_left _ (List.mem_append_left _ (List.mem_append_left _ (List.mem_append_left _ (List.mem_append_left _ (by decide +kernel))))))))
theorem law_acI : Cond.arrayClass .int ∈ wsL_law := (List.mem_append_left _ (List.mem_append_left _ (List.mem_append_left _ (List.mem_append_left _ (List.mem_append_left _ (List.mem_append_left _ (List.mem_append_left _ (by decide +kernel))))))))
theorem law_k68 : Cond.constant RL 68 (-2000000102) ∈ wsL_law := (List.mem_append_left _ (List.mem_append_left _ (List.mem_append_left _ (List.mem_append_left _ (List.mem_append_left _ (List.mem_append_left _ (List.mem_append_left _ (by decide +kernel))))))))
theorem law_k180 : Cond.constant RL 180 2147483647 ∈ wsL_law := (List.mem_append_left _ (List.mem_append_left _ (List.mem_append_left _ (List.mem_append_left _ (List.mem_append_left _ (List.mem_append_left _ (List.mem_append_left _ (by decide +kernel))))))))
section LAW31
set_option maxHeartbeats 16000000 in
set_option maxRecDepth 100000 in
theorem law_last {p : Program} {e : Env} {s : State} {m : MethodId} {below : List Frame} {meth : Method} {c : Code} {l : Launch} {D : va_G} {b L : Nat} {xs : Nat → Int32} {az ad fa ca : Nat → Nat} {cI cR cG : ClassId} (hL : L ≤ 260) (F : LF p m c s b L xs #[Value.ref b]) (hr : meth.sig.returnType = ret) (hlocks : meth.locks = false) (hK : va_K D vwCl (tyX cI cR cG) s) {cells slots : Nat} (hcs : cells ≤ room_1.cells ∧ slots ≤ room_1.slots) (v_zw : Nat → Int32) (v_zd : Nat → Int32) (v_zt : Nat → Int32) (v_roadCount : Int32) (v_readings : Int32) (v_psize : Int32) (v_good : Int32) (v_pbits : Int32) (v_letters : Int32) (v_afterLetter : Int32) (v_codes : Nat → Int32) (v_disc : Int32) (v_rsize : Int32) (v_cycleCount : Int32) (v_fo : Nat → Nat → Int32) (v_cy : Nat → Nat → Int32) (v_s : Int64) (v_closed : Int32) (v_traces : Int32) (v_crossings : Int32) (v_db_bits : Int32) (v_db_size : Int32) (v_db_allBits : Int32) (v_db_a : Int32) (v_db_b : Int32) (v_db_c : Int32) (v_db_d : Int32) (v_dn_bits : Int32) (v_dn_size : Int32) (v_dn_allBits : Int32) (v_dn_a : Int32) (v_dn_b : Int32) (v_dn_c : Int32) (v_dn_d : Int32) (v_wn : Nat) (v_wv : Nat → Nat → Int32) (wad : Nat → Nat) (H : Heap) (locs : List Loc) (ls : Array Slot) (hl : lv_has ls 7 [(0, .ref b), (1, .ref (ad 0)), (2, .ref (az 0)), (3, .ref (az 1)), (4, .ref (az 2))]) (I : IM D (AL s) s.heap H locs (WZ az ad fa ca wad cI cR cG v_zw v_zd v_zt v_roadCount v_readings v_psize v_good v_pbits v_letters v_afterLetter v_codes v_disc v_rsize v_cycleCount v_fo v_cy v_s v_closed v_traces v_crossings v_db_bits v_db_size v_db_allBits v_db_a v_db_b v_db_c v_db_d v_dn_bits v_dn_size v_dn_allBits v_dn_a v_dn_b v_dn_c v_dn_d v_wn v_wv)) (hD : va_D (AL s) (WZ0 az ad fa ca wad cI cR cG v_wn)) : W p l e room_1 s m #[Value.ref b] below meth c H locs cells slots (lw_Z below #[Value.ref b] s) (F0 m 110 ls []) := by
  obtain ⟨C, hN, hX, hbl⟩ := F
  have hx := C.1
  have hb := C.2.1
  have hA : ∀ q : Nat, s.heap.size ≤ q → AL s q := fun _ h => h
  obtain ⟨hX1, hb1⟩ := LX hX hbl I.2
  obtain ⟨x, hcx⟩ := cell_ok L xs hL (k := 80) (by omega)
  obtain ⟨y, hcy⟩ := cell_ok L xs hL (k := 81) (by omega)
  obtain ⟨r, hr1, hr2⟩ := law_drawn (v_zt := v_zt) (v_s := v_s) (v_closed := v_closed) (v_traces := v_traces) (v_crossings := v_crossings) (v_db_bits := v_db_bits) (v_db_size := v_db_size) (v_db_allBits := v_db_allBits) (v_db_a := v_db_a) (v_db_b := v_db_b) (v_db_c := v_db_c) (v_db_d := v_db_d) (v_dn_bits := v_dn_bits) (v_dn_size := v_dn_size) (v_dn_allBits := v_dn_allBits) (v_dn_a := v_dn_a) (v_dn_b := v_dn_b) (v_dn_c := v_dn_c) (v_dn_d := v_dn_d) x y
  refine lv_aload_n hx hb dL_law_110 rfl (lv_at hl 1 rfl) ?_
  refine lv_iconst (v := 1) hx hb dL_law_111 rfl ?_
  refine lv_aload_n hx hb dL_law_112 rfl (lv_at hl 0 rfl) ?_
  refine lv_bipush (v := nI 80) hx hb dL_law_113 rfl ?_
  refine jXS_i (rest := [.int 1, .ref (ad 0)]) C (c_cell hcx) gL_law_L_cell hd_cell hX1 hb1 rfl ⟨rfl, rfl⟩ ⟨Nat.le_of_ble_eq_true rfl, Nat.le_of_ble_eq_true rfl⟩ rfl hl.1 rfl (Nat.le_of_ble_eq_true rfl) hcs dL_law_115 ?_
  refine lv_bipush (v := 40) hx hb dL_law_118 rfl ?_
  refine jSS_i (rest := [.int 1, .ref (ad 0)]) C (c_at (at_ok x)) gL_law_L_at hd_at rfl ⟨rfl, rfl⟩ ⟨Nat.le_of_ble_eq_true rfl, Nat.le_of_ble_eq_true rfl⟩ rfl hl.1 rfl (Nat.le_of_ble_eq_true rfl) hcs dL_law_120 ?_
  refine lv_iadd hx hb dL_law_123 ?_
  refine lv_aload_n hx hb dL_law_124 rfl (lv_at hl 0 rfl) ?_
  refine lv_bipush (v := nI 81) hx hb dL_law_125 rfl ?_
  refine jXS_i (rest := [.int (1 + jrem (jushr x 1) 40), .ref (ad 0)]) C (c_cell hcy) gL_law_L_cell hd_cell hX1 hb1 rfl ⟨rfl, rfl⟩ ⟨Nat.le_of_ble_eq_true rfl, Nat.le_of_ble_eq_true rfl⟩ rfl hl.1 rfl (Nat.le_of_ble_eq_true rfl) hcs dL_law_127 ?_
  refine lv_ldc (v := 2147483647) hx hb C.2.2.2.1 (C.2.2.2.2 _ law_k180) dL_law_130 ?_
  refine lv_iand hx hb dL_law_132 ?_
  refine lv_aload hx hb dL_law_133 (lv_at hl 4 rfl) ?_
  refine jTE_i (rest := []) C (c_drawn hr1) gL_law_L_drawn hd_drawn hK hN hD hA I rfl ⟨rfl, rfl⟩ ⟨Nat.le_of_ble_eq_true rfl, Nat.le_of_ble_eq_true rfl⟩ rfl hl.1 rfl (Nat.le_of_ble_eq_true rfl) hcs dL_law_135 (fun H locs I => ?_)
  refine lv_if_eq (tgt := 166) hx hb dL_law_138 rfl (fun q => absurd q (lgb hr2)) (fun _ => ?_)
  refine lv_aload_n hx hb dL_law_141 rfl (lv_at hl 1 rfl) ?_
  refine lv_bipush (v := 7) hx hb dL_law_142 rfl ?_
  refine jVS_i (v := -2000000102) (rest := []) C (c4_count rfl) gL_law_X4_count hd4_count hK hN (P_right I.1) rcX rfl ⟨rfl, rfl⟩ ⟨Nat.le_of_ble_eq_true rfl, Nat.le_of_ble_eq_true rfl⟩ rfl hl.1 rfl (Nat.le_of_ble_eq_true rfl) hcs dL_law_144 ?_
  refine lv_ldc (v := -2000000102) hx hb C.2.2.2.1 (C.2.2.2.2 _ law_k68) dL_law_147 ?_
  refine lv_icmp_ne (tgt := 166) hx hb dL_law_149 rfl (fun q => absurd rfl q) (fun _ => ?_)
  refine lv_aload_n hx hb dL_law_152 rfl (lv_at hl 1 rfl) ?_
  refine lv_iconst (v := -1) hx hb dL_law_153 rfl ?_
  refine jVS_i (v := -2000000102) (rest := []) C (c4_count rfl) gL_law_X4_count hd4_count hK hN (P_right I.1) rcX rfl ⟨rfl, rfl⟩ ⟨Nat.le_of_ble_eq_true rfl, Nat.le_of_ble_eq_true rfl⟩ rfl hl.1 rfl (Nat.le_of_ble_eq_true rfl) hcs dL_law_154 ?_
  refine lv_ldc (v := -2000000102) hx hb C.2.2.2.1 (C.2.2.2.2 _ law_k68) dL_law_157 ?_
  refine lv_icmp_ne (tgt := 166) hx hb dL_law_159 rfl (fun q => absurd rfl q) (fun _ => ?_)
  refine lv_iconst (v := 1) hx hb dL_law_162 rfl ?_
  refine lv_goto (tgt := 167) hx hb dL_law_163 rfl ?_
  refine va_forget (fun q hq => I.2.2.2 q hq) ?_
  refine W.widen (k := 600000) (n := 7302250) hcs.1 hcs.2 ?_
  exact lw_ret hx hb hr hlocks dL_law_167
set_option maxHeartbeats 16000000 in
set_option maxRecDepth 100000 in
theorem law_turn {p : Program} {e : Env} {s : State} {m : MethodId} {below : List Frame} {meth : Method} {c : Code} {l : Launch} {D : va_G} {b L : Nat} {xs : Nat → Int32} {az ad fa ca : Nat → Nat} {cI cR cG : ClassId} (hL : L ≤ 260) (F : LF p m c s b L xs #[Value.ref b]) (hr : meth.sig.returnType = ret) (hlocks : meth.locks = false) (hK : va_K D vwCl (tyX cI cR cG) s) {cells slots : Nat} (hcs : cells + 5 ≤ room_1.cells ∧ slots + 35 ≤ room_1.slots) {k : Nat} (hk : k < 40) {x5 : Int32} (e5 : x5 = nI k) (v_zw : Nat → Int32) (v_zd : Nat → Int32) (v_zt : Nat → Int32) (v_roadCount : Int32) (v_readings : Int32) (v_psize : Int32) (v_good : Int32) (v_pbits : Int32) (v_letters : Int32) (v_afterLetter : Int32) (v_codes : Nat → Int32) (v_disc : Int32) (v_rsize : Int32) (v_cycleCount : Int32) (v_fo : Nat → Nat → Int32) (v_cy : Nat → Nat → Int32) (v_s : Int64) (v_closed : Int32) (v_traces : Int32) (v_crossings : Int32) (v_db_bits : Int32) (v_db_size : Int32) (v_db_allBits : Int32) (v_db_a : Int32) (v_db_b : Int32) (v_db_c : Int32) (v_db_d : Int32) (v_dn_bits : Int32) (v_dn_size : Int32) (v_dn_allBits : Int32) (v_dn_a : Int32) (v_dn_b : Int32) (v_dn_c : Int32) (v_dn_d : Int32) (v_wn : Nat) (v_wv : Nat → Nat → Int32) (wad : Nat → Nat) (H : Heap) (locs : List Loc) (ls : Array Slot) (hl : lv_has ls 7 [(0, .ref b), (1, .ref (ad 0)), (2, .ref (az 0)), (3, .ref (az 1)), (4, .ref (az 2)), (5, .int x5)]) (I : IM D (AL s) s.heap H locs (WZ az ad fa ca wad cI cR cG v_zw v_zd v_zt v_roadCount v_readings v_psize v_good v_pbits v_letters v_afterLetter v_codes v_disc v_rsize v_cycleCount v_fo v_cy v_s v_closed v_traces v_crossings v_db_bits v_db_size v_db_allBits v_db_a v_db_b v_db_c v_db_d v_dn_bits v_dn_size v_dn_allBits v_dn_a v_dn_b v_dn_c v_dn_d v_wn v_wv)) (hD : va_D (AL s) (WZ0 az ad fa ca wad cI cR cG v_wn)) (hV : INV v_zw v_zd v_roadCount v_readings v_psize v_good v_pbits v_letters v_afterLetter v_wn v_wv)
    (K : ∀ (v_zw' : Nat → Int32) (v_zd' : Nat → Int32) (v_zt' : Nat → Int32) (v_roadCount' : Int32) (v_readings' : Int32) (v_psize' : Int32) (v_good' : Int32) (v_pbits' : Int32) (v_letters' : Int32) (v_afterLetter' : Int32) (v_codes' : Nat → Int32) (v_disc' : Int32) (v_rsize' : Int32) (v_cycleCount' : Int32) (v_fo' : Nat → Nat → Int32) (v_cy' : Nat → Nat → Int32) (v_s' : Int64) (v_closed' : Int32) (v_traces' : Int32) (v_crossings' : Int32) (v_db_bits' : Int32) (v_db_size' : Int32) (v_db_allBits' : Int32) (v_db_a' : Int32) (v_db_b' : Int32) (v_db_c' : Int32) (v_db_d' : Int32) (v_dn_bits' : Int32) (v_dn_size' : Int32) (v_dn_allBits' : Int32) (v_dn_a' : Int32) (v_dn_b' : Int32) (v_dn_c' : Int32) (v_dn_d' : Int32) (v_wn' : Nat) (v_wv' : Nat → Nat → Int32) (wad : Nat → Nat) (H : Heap) (locs : List Loc) (ls : Array Slot), lv_has ls 7 [(0, .ref b), (1, .ref (ad 0)), (2, .ref (az 0)), (3, .ref (az 1)), (4, .ref (az 2)), (5, .int (x5 + 1))] → IM D (AL s) s.heap H locs (WZ az ad fa ca wad cI cR cG (v_zw') (v_zd') (v_zt') (v_roadCount') (v_readings') (v_psize') (v_good') (v_pbits') (v_letters') (v_afterLetter') (v_codes') (v_disc') (v_rsize') (v_cycleCount') (v_fo') (v_cy') (v_s') (v_closed') (v_traces') (v_crossings') (v_db_bits') (v_db_size') (v_db_allBits') (v_db_a') (v_db_b') (v_db_c') (v_db_d') (v_dn_bits') (v_dn_size') (v_dn_allBits') (v_dn_a') (v_dn_b') (v_dn_c') (v_dn_d') (v_wn') (v_wv')) → va_D (AL s) (WZ0 az ad fa ca wad cI cR cG (v_wn')) → INV (v_zw') (v_zd') (v_roadCount') (v_readings') (v_psize') (v_good') (v_pbits') (v_letters') (v_afterLetter') (v_wn') (v_wv') → W p l e room_1 s m #[Value.ref b] below meth c H locs (cells + 5) (slots + 35) (lw_Z below #[Value.ref b] s) (F0 m 26 ls [])) : W p l e room_1 s m #[Value.ref b] below meth c H locs cells slots (lw_Z below #[Value.ref b] s) (F0 m 33 ls []) := by
  obtain ⟨C, hN, hX, hbl⟩ := F
  have hx := C.1
  have hb := C.2.1
  have hA : ∀ q : Nat, s.heap.size ≤ q → AL s q := fun _ h => h
  have hcs0 : cells ≤ room_1.cells ∧ slots ≤ room_1.slots := ⟨Nat.le_trans (Nat.le_add_right _ _) hcs.1, Nat.le_trans (Nat.le_add_right _ _) hcs.2⟩
  obtain ⟨hX1, hb1⟩ := LX hX hbl I.2
  obtain ⟨x, hcx⟩ := cell_ok L xs hL (k := 2 * k) (by omega)
  obtain ⟨y, hcy⟩ := cell_ok L xs hL (k := 2 * k + 1) (by omega)
  have ex : nI (2 * k) = 2 * x5 := by rw [e5]; exact (pk_mul 2 k).symm
  have ey : nI (2 * k + 1) = 2 * x5 + 1 := by rw [← ex]; exact (nI_add (2 * k) 1).symm
  rw [ex] at hcx
  rw [ey] at hcy
  obtain ⟨r, hr1, hr2, hV1⟩ := law_does (v_zw := v_zw) (v_zd := v_zd) (v_zt := v_zt) (v_roadCount := v_roadCount) (v_readings := v_readings) (v_psize := v_psize) (v_good := v_good) (v_pbits := v_pbits) (v_letters := v_letters) (v_afterLetter := v_afterLetter) (v_codes := v_codes) (v_rsize := v_rsize) (v_cycleCount := v_cycleCount) (v_wn := v_wn) (v_wv := v_wv) hV x y
  obtain ⟨r2, hr3, hr4⟩ := law_stands (v_zt := r.2.2.2.1) (v_rsize := v_rsize) (v_cycleCount := v_cycleCount) hV1
  have hr5 := law_crosses hV1
  refine lv_aload_n hx hb dL_law_33 rfl (lv_at hl 0 rfl) ?_
  refine lv_iconst (v := 2) hx hb dL_law_34 rfl ?_
  refine lv_iload hx hb dL_law_35 (lv_at hl 5 rfl) ?_
  refine lv_imul hx hb dL_law_37 ?_
  refine jXS_i (rest := []) C (c_cell hcx) gL_law_L_cell hd_cell hX1 hb1 rfl ⟨rfl, rfl⟩ ⟨Nat.le_of_ble_eq_true rfl, Nat.le_of_ble_eq_true rfl⟩ rfl hl.1 rfl (Nat.le_of_ble_eq_true rfl) hcs0 dL_law_38 ?_
  refine lv_istore (lv' := [(6, .int x), (0, .ref b), (1, .ref (ad 0)), (2, .ref (az 0)), (3, .ref (az 1)), (4, .ref (az 2)), (5, .int x5)]) hx hb dL_law_41 hl (by decide) rfl (fun ls hl => ?_)
  refine lv_aload_n hx hb dL_law_43 rfl (lv_at hl 2 rfl) ?_
  refine lv_aload_n hx hb dL_law_44 rfl (lv_at hl 3 rfl) ?_
  refine lv_aload_n hx hb dL_law_45 rfl (lv_at hl 4 rfl) ?_
  refine lv_iload hx hb dL_law_46 (lv_at hl 0 rfl) ?_
  refine lv_aload_n hx hb dL_law_48 rfl (lv_at hl 1 rfl) ?_
  refine lv_iconst (v := 2) hx hb dL_law_49 rfl ?_
  refine lv_iload hx hb dL_law_50 (lv_at hl 6 rfl) ?_
  refine lv_imul hx hb dL_law_52 ?_
  refine lv_iconst (v := 1) hx hb dL_law_53 rfl ?_
  refine lv_iadd hx hb dL_law_54 ?_
  refine jXS_i (rest := [.int x, .ref (az 1), .ref (az 0), .ref (ad 0)]) C (c_cell hcy) gL_law_L_cell hd_cell hX1 hb1 rfl ⟨rfl, rfl⟩ ⟨Nat.le_of_ble_eq_true rfl, Nat.le_of_ble_eq_true rfl⟩ rfl hl.1 rfl (Nat.le_of_ble_eq_true rfl) hcs0 dL_law_55 ?_
  refine lv_aload hx hb dL_law_58 (lv_at hl 5 rfl) ?_
  refine jTG_i (mc := 5) (ms := 35) (rest := []) C (c_does hr1) gL_law_L_does hd_does hK hN hD hA I rfl ⟨rfl, rfl⟩ ⟨Nat.le_of_ble_eq_true rfl, Nat.le_of_ble_eq_true rfl⟩ rfl hl.1 rfl (Nat.le_of_ble_eq_true rfl) hcs dL_law_60 (fun wad H locs hD I => ?_)
  refine lv_if_eq (tgt := 79) hx hb dL_law_63 rfl (fun q => absurd q (lgb hr2)) (fun _ => ?_)
  refine lv_aload_n hx hb dL_law_66 rfl (lv_at hl 2 rfl) ?_
  refine lv_aload_n hx hb dL_law_67 rfl (lv_at hl 3 rfl) ?_
  refine lv_aload_n hx hb dL_law_68 rfl (lv_at hl 4 rfl) ?_
  refine lv_iconst (v := 0) hx hb dL_law_69 rfl ?_
  refine ldZ_zd C hK I.1 (by decide) dL_law_70 ?_
  refine lv_aload hx hb dL_law_71 (lv_at hl 5 rfl) ?_
  refine jTE_i (rest := []) C (c_stands hr3) gL_law_L_stands hd_stands hK hN hD hA I rfl ⟨rfl, rfl⟩ ⟨Nat.le_of_ble_eq_true rfl, Nat.le_of_ble_eq_true rfl⟩ rfl hl.1 rfl (Nat.le_of_ble_eq_true rfl) hcs dL_law_73 (fun H locs I => ?_)
  refine lv_if_ne (tgt := 81) hx hb dL_law_76 rfl (fun _ => ?_) (fun q => absurd q (lgb hr4))
  have e6 : W p l e room_1 s m #[Value.ref b] below meth c H locs (cells + 5) (slots + 35) (lw_Z below #[Value.ref b] s) (F0 m 104 ls []) := by
    refine lv_iinc (v := x5 + 1) (lv' := [(5, .int (x5 + 1)), (6, .int x), (0, .ref b), (1, .ref (ad 0)), (2, .ref (az 0)), (3, .ref (az 1)), (4, .ref (az 2))]) hx hb dL_law_104 hl (k := 6) rfl rfl (by decide) rfl (fun ls hl => ?_)
    refine lv_goto (tgt := 26) hx hb dL_law_107 rfl ?_
    exact K r.2.1 r.2.2.1 r2.2 r.2.2.2.2.1 r.2.2.2.2.2.1 r.2.2.2.2.2.2.1 r.2.2.2.2.2.2.2.1 r.2.2.2.2.2.2.2.2.1 r.2.2.2.2.2.2.2.2.2.1 r.2.2.2.2.2.2.2.2.2.2.1 r.2.2.2.2.2.2.2.2.2.2.2.1 v_disc v_rsize v_cycleCount v_fo v_cy v_s v_closed v_traces v_crossings v_db_bits v_db_size v_db_allBits v_db_a v_db_b v_db_c v_db_d v_dn_bits v_dn_size v_dn_allBits v_dn_a v_dn_b v_dn_c v_dn_d r.2.2.2.2.2.2.2.2.2.2.2.2.1 r.2.2.2.2.2.2.2.2.2.2.2.2.2 wad H locs ls (lv_sub hl [2, 3, 4, 5, 6, 0] rfl) I hD hV1
  refine lv_iload hx hb dL_law_81 (lv_at hl 6 rfl) ?_
  refine lv_bipush (v := 8) hx hb dL_law_83 rfl ?_
  refine j_irem hx hb dL_law_85 (by decide) ?_
  refine lv_bipush (v := 7) hx hb dL_law_86 rfl ?_
  refine lv_icmp_ne (tgt := 104) hx hb dL_law_88 rfl (fun _ => ?_) (fun _ => ?_)
  · exact e6
  · refine lv_aload_n hx hb dL_law_91 rfl (lv_at hl 2 rfl) ?_
    refine lv_aload_n hx hb dL_law_92 rfl (lv_at hl 3 rfl) ?_
    refine lv_aload_n hx hb dL_law_93 rfl (lv_at hl 4 rfl) ?_
    refine lv_iconst (v := 0) hx hb dL_law_94 rfl ?_
    refine ldZ_zd C hK I.1 (by decide) dL_law_95 ?_
    refine jTS_i (rest := []) C (c_crosses hr5) gL_law_L_crosses hd_crosses hK hN I.1 rfl ⟨rfl, rfl⟩ ⟨Nat.le_of_ble_eq_true rfl, Nat.le_of_ble_eq_true rfl⟩ rfl hl.1 rfl (Nat.le_of_ble_eq_true rfl) hcs dL_law_96 ?_
    refine lv_if_ne (tgt := 104) hx hb dL_law_99 rfl (fun _ => ?_) (fun q => absurd q (by decide))
    exact e6
set_option maxHeartbeats 16000000 in
set_option maxRecDepth 100000 in
theorem law_loop {p : Program} {e : Env} {s : State} {m : MethodId} {below : List Frame} {meth : Method} {c : Code} {l : Launch} {D : va_G} {b L : Nat} {xs : Nat → Int32} {az ad fa ca : Nat → Nat} {cI cR cG : ClassId} (hL : L ≤ 260) (F : LF p m c s b L xs #[Value.ref b]) (hr : meth.sig.returnType = ret) (hlocks : meth.locks = false) (hK : va_K D vwCl (tyX cI cR cG) s) : ∀ (j k : Nat) (x5 : Int32), k + j = 40 → x5 = nI k → ∀ (v_zw : Nat → Int32) (v_zd : Nat → Int32) (v_zt : Nat → Int32) (v_roadCount : Int32) (v_readings : Int32) (v_psize : Int32) (v_good : Int32) (v_pbits : Int32) (v_letters : Int32) (v_afterLetter : Int32) (v_codes : Nat → Int32) (v_disc : Int32) (v_rsize : Int32) (v_cycleCount : Int32) (v_fo : Nat → Nat → Int32) (v_cy : Nat → Nat → Int32) (v_s : Int64) (v_closed : Int32) (v_traces : Int32) (v_crossings : Int32) (v_db_bits : Int32) (v_db_size : Int32) (v_db_allBits : Int32) (v_db_a : Int32) (v_db_b : Int32) (v_db_c : Int32) (v_db_d : Int32) (v_dn_bits : Int32) (v_dn_size : Int32) (v_dn_allBits : Int32) (v_dn_a : Int32) (v_dn_b : Int32) (v_dn_c : Int32) (v_dn_d : Int32) (v_wn : Nat) (v_wv : Nat → Nat → Int32) (wad : Nat → Nat) (H : Heap) (locs : List Loc) (ls : Array Slot), lv_has ls 7 [(0, .ref b), (1, .ref (ad 0)), (2, .ref (az 0)), (3, .ref (az 1)), (4, .ref (az 2)), (5, .int x5)] → IM D (AL s) s.heap H locs (WZ az ad fa ca wad cI cR cG v_zw v_zd v_zt v_roadCount v_readings v_psize v_good v_pbits v_letters v_afterLetter v_codes v_disc v_rsize v_cycleCount v_fo v_cy v_s v_closed v_traces v_crossings v_db_bits v_db_size v_db_allBits v_db_a v_db_b v_db_c v_db_d v_dn_bits v_dn_size v_dn_allBits v_dn_a v_dn_b v_dn_c v_dn_d v_wn v_wv) → va_D (AL s) (WZ0 az ad fa ca wad cI cR cG v_wn) → INV v_zw v_zd v_roadCount v_readings v_psize v_good v_pbits v_letters v_afterLetter v_wn v_wv → W p l e room_1 s m #[Value.ref b] below meth c H locs (26 + 5 * k) (2734 + 35 * k) (lw_Z below #[Value.ref b] s) (F0 m 26 ls []) := by
  intro j
  induction j with
  | zero =>
    intro k x5 hk e5 v_zw v_zd v_zt v_roadCount v_readings v_psize v_good v_pbits v_letters v_afterLetter v_codes v_disc v_rsize v_cycleCount v_fo v_cy v_s v_closed v_traces v_crossings v_db_bits v_db_size v_db_allBits v_db_a v_db_b v_db_c v_db_d v_dn_bits v_dn_size v_dn_allBits v_dn_a v_dn_b v_dn_c v_dn_d v_wn v_wv wad H locs ls hl I hD hV
    have F0' := F
    obtain ⟨C, hN, hX, hbl⟩ := F0'
    have hx := C.1
    have hb := C.2.1
    have hk40 : k = 40 := hk
    refine lv_iload hx hb dL_law_26 (lv_at hl 5 rfl) ?_
    refine lv_bipush (v := 40) hx hb dL_law_28 rfl ?_
    refine lv_icmp_ge (tgt := 110) hx hb dL_law_30 rfl (fun _ => ?_) (fun q => absurd (by rw [e5, hk40]; decide) q)
    exact law_last hL F hr hlocks hK ⟨by show _ ≤ 600000; omega, by show _ ≤ 7302250; omega⟩ v_zw v_zd v_zt v_roadCount v_readings v_psize v_good v_pbits v_letters v_afterLetter v_codes v_disc v_rsize v_cycleCount v_fo v_cy v_s v_closed v_traces v_crossings v_db_bits v_db_size v_db_allBits v_db_a v_db_b v_db_c v_db_d v_dn_bits v_dn_size v_dn_allBits v_dn_a v_dn_b v_dn_c v_dn_d v_wn v_wv wad H locs ls (lv_sub hl [0, 1, 2, 3, 4] rfl) I hD
  | succ j ih =>
    intro k x5 hk e5 v_zw v_zd v_zt v_roadCount v_readings v_psize v_good v_pbits v_letters v_afterLetter v_codes v_disc v_rsize v_cycleCount v_fo v_cy v_s v_closed v_traces v_crossings v_db_bits v_db_size v_db_allBits v_db_a v_db_b v_db_c v_db_d v_dn_bits v_dn_size v_dn_allBits v_dn_a v_dn_b v_dn_c v_dn_d v_wn v_wv wad H locs ls hl I hD hV
    have F0' := F
    obtain ⟨C, hN, hX, hbl⟩ := F0'
    have hx := C.1
    have hb := C.2.1
    refine lv_iload hx hb dL_law_26 (lv_at hl 5 rfl) ?_
    refine lv_bipush (v := 40) hx hb dL_law_28 rfl ?_
    refine lv_icmp_ge (tgt := 110) hx hb dL_law_30 rfl (fun q => absurd q (by rw [e5]; exact nI_ge (b := 40) (by omega) (by omega))) (fun _ => ?_)
    refine law_turn hL F hr hlocks hK ⟨by show _ ≤ 600000; omega, by show _ ≤ 7302250; omega⟩ (k := k) (by omega) e5 v_zw v_zd v_zt v_roadCount v_readings v_psize v_good v_pbits v_letters v_afterLetter v_codes v_disc v_rsize v_cycleCount v_fo v_cy v_s v_closed v_traces v_crossings v_db_bits v_db_size v_db_allBits v_db_a v_db_b v_db_c v_db_d v_dn_bits v_dn_size v_dn_allBits v_dn_a v_dn_b v_dn_c v_dn_d v_wn v_wv wad H locs ls hl I hD hV ?_
    intro v_zw v_zd v_zt v_roadCount v_readings v_psize v_good v_pbits v_letters v_afterLetter v_codes v_disc v_rsize v_cycleCount v_fo v_cy v_s v_closed v_traces v_crossings v_db_bits v_db_size v_db_allBits v_db_a v_db_b v_db_c v_db_d v_dn_bits v_dn_size v_dn_allBits v_dn_a v_dn_b v_dn_c v_dn_d v_wn v_wv wad H locs ls hl I hD hV
    refine W.widen (k := 26 + 5 * (k + 1)) (n := 2734 + 35 * (k + 1)) (by omega) (by omega) ?_
    exact ih (k + 1) (x5 + 1) (by omega) (by rw [e5]; exact nI_1 k) v_zw v_zd v_zt v_roadCount v_readings v_psize v_good v_pbits v_letters v_afterLetter v_codes v_disc v_rsize v_cycleCount v_fo v_cy v_s v_closed v_traces v_crossings v_db_bits v_db_size v_db_allBits v_db_a v_db_b v_db_c v_db_d v_dn_bits v_dn_size v_dn_allBits v_dn_a v_dn_b v_dn_c v_dn_d v_wn v_wv wad H locs ls hl I hD hV
set_option maxHeartbeats 16000000 in
set_option maxRecDepth 100000 in
theorem whole_start {p : Program} {e : Env} {s : State} {m : MethodId} {below : List Frame} {meth : Method} {c : Code} (l : Launch) (hflags : l.flags = flags0) {b L : Nat} {xs : Nat → Int32} (hL : L ≤ 260) (C0 : lw_At p s m meth c b L xs) : W p l e room_1 s m #[Value.ref b] below meth c s.heap [] 0 0 (lw_Z below #[Value.ref b] s) (entryFrame m ([Value.ref b] : List Value).toArray 7) := by
  obtain ⟨hx, hb, hr, hml, hown, hts, hX, hbl, hlocks, hgv⟩ := id C0
  have hts2 : ∀ w ∈ wsL_law, w.before #[Value.ref b] s = true := fun w h => hts w (wsL_law_in w h)
  have C : CallFix p m c cL_law 7 s #[Value.ref b] wsL_law RL := ⟨hx, hb, hml, hown, hts2⟩
  have hN : NW s := ⟨va_Nw.of rfl (hts _ law_nw1), va_Nw.of rfl (hts _ law_nw2), va_Nw.of rfl (hts _ law_nw5), va_Nw.of rfl (hts _ law_nw6), va_Nw.of rfl (hts _ law_nw7)⟩
  have hO : va_AO RX3 s := va_AO.of (hts _ law_ao1)
  have hOA : va_AOA .int s := va_AOA.of (hts _ law_ao2)
  obtain ⟨k0, i0, hk0⟩ := u_known (C := RX0) (T := TX0) (N := 6) (n := 6) hts inX0 (hts _ law_in0)
  obtain ⟨k1, i1, hk1⟩ := u_known (C := RX1) (T := TX1) (N := 6) (n := 6) hts inX1 (hts _ law_in1)
  obtain ⟨k2, i2, hk2⟩ := u_known (C := RX2) (T := TX2) (N := 5) (n := 5) hts inX2 (hts _ law_in2)
  obtain ⟨k3, i3, hk3⟩ := u_known (C := RX3) (T := TX3) (N := 7) (n := 7) hts inX3 (hts _ law_in3)
  obtain ⟨k4, i4, hk4⟩ := u_known (C := RX4) (T := TX4) (N := 6) (n := 6) hts inX4 (hts _ law_in4)
  obtain ⟨D, hKc⟩ : ∃ D : va_G, ∀ (k : Nat) (q : vw_C), vwCl[k]? = some q → u_Kn s q.1 q.2.1 q.2.2 (D.1 k) (D.2 k) := by
    refine ⟨(fun k => match k with | 0 => k0 | 1 => k1 | 2 => k2 | 3 => k3 | _ => k4, fun k => match k with | 0 => i0 | 1 => i1 | 2 => i2 | 3 => i3 | _ => i4), ?_⟩
    intro k q hq
    match k, hq with
    | 0, hq => cases hq; exact hk0
    | 1, hq => cases hq; exact hk1
    | 2, hq => cases hq; exact hk2
    | 3, hq => cases hq; exact hk3
    | 4, hq => cases hq; exact hk4
    | k + 5, hq => simp [vwCl] at hq
  have hA : ∀ q : Nat, s.heap.size ≤ q → AL s q := fun _ h => h
  have hS : va_S (AL s) s.heap s.heap [] := va_S.rf
  have hK : va_K D vwCl [] s := ⟨hKc, fun k q h => by simp at h⟩
  have hP : va_P D vwCl [] s.heap := fun k q h => by simp at h
  have hD : va_D (AL s) [] := ⟨fun i j p q h => by simp at h, fun k q h => by simp at h⟩
  obtain ⟨r, hr8⟩ := become8
  have hl := lv_entry ([.ref b]) (n := 7) (Nat.le_of_ble_eq_true rfl)
  rw [lg_entry_eq]
  generalize (lg_sl ([.ref b]) ++ List.replicate (7 - (lg_sl ([.ref b])).length) Slot.unset).toArray = ls at hl ⊢
  have hl : lv_has ls 7 [(0, .ref b)] := hl
  refine va_new (ci := 4) (fs := [.null, .null, .null, .null, .int 0, .int 0]) (C := RX4) (T := TX4) (N := 6) hx hb hts2 inlX4 tyX4 tyX4_ok hown (hts2 _ law_cl40) (hts2 _ law_is4) (hts2 _ law_ii4) hK hP hD hS hA rfl (fun j hj => by rcases (show j = 0 ∨ j = 1 ∨ j = 2 ∨ j = 3 ∨ j = 4 ∨ j = 5 by omega) with rfl | rfl | rfl | rfl | rfl | rfl <;> rfl) (Nat.le_of_ble_eq_true rfl) (Nat.le_of_ble_eq_true rfl) dL_law_0 (fun q4 H hP hD hS => ?_)
  refine lv_dup hx hb dL_law_3 rfl ?_
  refine jPI (wa := []) (wb := wX4 q4) (rest := [.ref q4]) C (c4_init hr8) gL_law_X4_init law_ml4 law_ii4 law_im4 rfl hd4_init hK hN hO hOA hP hD hA hS rfl ⟨rfl, rfl⟩ ⟨Nat.le_of_ble_eq_true rfl, Nat.le_of_ble_eq_true rfl⟩ hl.1 rfl (Nat.le_of_ble_eq_true rfl) ⟨Nat.le_of_ble_eq_true rfl, Nat.le_of_ble_eq_true rfl⟩ dL_law_4 (fun u t H locs hvm hK1 hP hD hS => ?_)
  obtain ⟨ad, fa, ca, cI, cR, cG⟩ := u
  obtain ⟨hK1, hq⟩ := hK1
  have hK : va_K D vwCl (tyX cI cR cG) s := va_K.moved hvm.symm hK1
  have hq : ad 0 = q4 := hq
  rw [← hq]
  refine lv_astore_n (lv' := [(1, .ref (ad 0)), (0, .ref b)]) hx hb dL_law_7 rfl hl (by decide) rfl (fun ls hl => ?_)
  have hP : va_P D vwCl (WX ad fa ca (fun _ => 0) cI cR cG 0 0 0 0 0 0 0 (fun _ => 0) 0 0 0 (fun _ _ => 0) (fun _ _ => 0) 0 0 0 0 r.1 r.2.1 r.2.2.1 r.2.2.2.1 r.2.2.2.2.1 r.2.2.2.2.2.1 r.2.2.2.2.2.2 r.1 r.2.1 r.2.2.1 r.2.2.2.1 r.2.2.2.2.1 r.2.2.2.2.2.1 r.2.2.2.2.2.2 0 (fun _ _ => 0)) H := hP
  have hD : va_D (AL s) (WX ad fa ca (fun _ => 0) cI cR cG 0 0 0 0 0 0 0 (fun _ => 0) 0 0 0 (fun _ _ => 0) (fun _ _ => 0) 0 0 0 0 r.1 r.2.1 r.2.2.1 r.2.2.2.1 r.2.2.2.2.1 r.2.2.2.2.2.1 r.2.2.2.2.2.2 r.1 r.2.1 r.2.2.1 r.2.2.2.1 r.2.2.2.2.1 r.2.2.2.2.2.1 r.2.2.2.2.2.2 0 (fun _ _ => 0)) := va_D_congr (by rfl) hD
  refine lv_bipush (v := 6) hx hb dL_law_8 rfl ?_
  refine va_newa (atype := .int) (ty := .int) (N' := 6) (a0 := (6, .inl (fun _ => 0))) hx hb (hts2 _ law_acI) rfl hK hP hD hS hA (fun _ => rfl) (by decide) rfl (Nat.le_of_ble_eq_true rfl) (Nat.le_of_ble_eq_true rfl) (Nat.le_of_ble_eq_true rfl) dL_law_10 (fun a0 c0 H hK0 hP hD hS => ?_)
  have ec0 : c0 = cI := K_same (k := 0) hK0 rfl
  rw [ec0] at hP hD
  refine lv_astore_n (lv' := [(2, .ref a0), (1, .ref (ad 0)), (0, .ref b)]) hx hb dL_law_12 rfl hl (by decide) rfl (fun ls hl => ?_)
  refine lv_iconst (v := 2) hx hb dL_law_13 rfl ?_
  refine va_newa (atype := .int) (ty := .int) (N' := 2) (a0 := (2, .inl (fun _ => 0))) hx hb (hts2 _ law_acI) rfl hK hP hD hS hA (fun _ => rfl) (by decide) rfl (Nat.le_of_ble_eq_true rfl) (Nat.le_of_ble_eq_true rfl) (Nat.le_of_ble_eq_true rfl) dL_law_14 (fun a1 c1 H hK1 hP hD hS => ?_)
  have ec1 : c1 = cI := K_same (k := 0) hK1 rfl
  rw [ec1] at hP hD
  refine lv_astore_n (lv' := [(3, .ref a1), (2, .ref a0), (1, .ref (ad 0)), (0, .ref b)]) hx hb dL_law_16 rfl hl (by decide) rfl (fun ls hl => ?_)
  refine lv_bipush (v := 40) hx hb dL_law_17 rfl ?_
  refine va_newa (atype := .int) (ty := .int) (N' := 40) (a0 := (40, .inl (fun _ => 0))) hx hb (hts2 _ law_acI) rfl hK hP hD hS hA (fun _ => rfl) (by decide) rfl (Nat.le_of_ble_eq_true rfl) (Nat.le_of_ble_eq_true rfl) (Nat.le_of_ble_eq_true rfl) dL_law_19 (fun a2 c2 H hK2 hP hD hS => ?_)
  have ec2 : c2 = cI := K_same (k := 0) hK2 rfl
  rw [ec2] at hP hD
  refine lv_astore (lv' := [(4, .ref a2), (3, .ref a1), (2, .ref a0), (1, .ref (ad 0)), (0, .ref b)]) hx hb dL_law_21 hl (by decide) rfl (fun ls hl => ?_)
  refine lv_iconst (v := 0) hx hb dL_law_23 rfl ?_
  refine lv_istore (lv' := [(5, .int 0), (4, .ref a2), (3, .ref a1), (2, .ref a0), (1, .ref (ad 0)), (0, .ref b)]) hx hb dL_law_24 hl (by decide) rfl (fun ls hl => ?_)
  have hP : va_P D vwCl (WZ (fun k => match k with | 0 => a0 | 1 => a1 | _ => a2) ad fa ca (fun _ => 0) cI cR cG (fun _ => 0) (fun _ => 0) (fun _ => 0) 0 0 0 0 0 0 0 (fun _ => 0) 0 0 0 (fun _ _ => 0) (fun _ _ => 0) 0 0 0 0 r.1 r.2.1 r.2.2.1 r.2.2.2.1 r.2.2.2.2.1 r.2.2.2.2.2.1 r.2.2.2.2.2.2 r.1 r.2.1 r.2.2.1 r.2.2.2.1 r.2.2.2.2.1 r.2.2.2.2.2.1 r.2.2.2.2.2.2 0 (fun _ _ => 0)) H := by
    have h := va_P_sw (a := (WX ad fa ca (fun _ => 0) cI cR cG 0 0 0 0 0 0 0 (fun _ => 0) 0 0 0 (fun _ _ => 0) (fun _ _ => 0) 0 0 0 0 r.1 r.2.1 r.2.2.1 r.2.2.2.1 r.2.2.2.2.1 r.2.2.2.2.2.1 r.2.2.2.2.2.2 r.1 r.2.1 r.2.2.1 r.2.2.2.1 r.2.2.2.2.1 r.2.2.2.2.2.1 r.2.2.2.2.2.2 0 (fun _ _ => 0))) (b := wA (fun k => match k with | 0 => a0 | 1 => a1 | _ => a2) cI (fun _ => 0) (fun _ => 0) (fun _ => 0)) (by
      have e : ((WX ad fa ca (fun _ => 0) cI cR cG 0 0 0 0 0 0 0 (fun _ => 0) 0 0 0 (fun _ _ => 0) (fun _ _ => 0) 0 0 0 0 r.1 r.2.1 r.2.2.1 r.2.2.2.1 r.2.2.2.2.1 r.2.2.2.2.2.1 r.2.2.2.2.2.2 r.1 r.2.1 r.2.2.1 r.2.2.2.1 r.2.2.2.2.1 r.2.2.2.2.2.1 r.2.2.2.2.2.2 0 (fun _ _ => 0)) ++ [(a0, .inl (cI, 6, .inl (fun _ => 0)))] ++ [(a1, .inl (cI, 2, .inl (fun _ => 0)))] ++ [(a2, .inl (cI, 40, .inl (fun _ => 0)))] : va_W) = (WX ad fa ca (fun _ => 0) cI cR cG 0 0 0 0 0 0 0 (fun _ => 0) 0 0 0 (fun _ _ => 0) (fun _ _ => 0) 0 0 0 0 r.1 r.2.1 r.2.2.1 r.2.2.2.1 r.2.2.2.2.1 r.2.2.2.2.2.1 r.2.2.2.2.2.2 r.1 r.2.1 r.2.2.1 r.2.2.2.1 r.2.2.2.2.1 r.2.2.2.2.2.1 r.2.2.2.2.2.2 0 (fun _ _ => 0)) ++ wA (fun k => match k with | 0 => a0 | 1 => a1 | _ => a2) cI (fun _ => 0) (fun _ => 0) (fun _ => 0) := by
        rw [List.append_assoc, List.append_assoc]
        rfl
      rw [← e]
      exact hP)
    exact h
  have hD : va_D (AL s) (WZ0 (fun k => match k with | 0 => a0 | 1 => a1 | _ => a2) ad fa ca (fun _ => 0) cI cR cG 0) := by
    have h := va_D_sw (a := (WX ad fa ca (fun _ => 0) cI cR cG 0 0 0 0 0 0 0 (fun _ => 0) 0 0 0 (fun _ _ => 0) (fun _ _ => 0) 0 0 0 0 r.1 r.2.1 r.2.2.1 r.2.2.2.1 r.2.2.2.2.1 r.2.2.2.2.2.1 r.2.2.2.2.2.2 r.1 r.2.1 r.2.2.1 r.2.2.2.1 r.2.2.2.2.1 r.2.2.2.2.2.1 r.2.2.2.2.2.2 0 (fun _ _ => 0))) (b := wA (fun k => match k with | 0 => a0 | 1 => a1 | _ => a2) cI (fun _ => 0) (fun _ => 0) (fun _ => 0)) (by
      have e : ((WX ad fa ca (fun _ => 0) cI cR cG 0 0 0 0 0 0 0 (fun _ => 0) 0 0 0 (fun _ _ => 0) (fun _ _ => 0) 0 0 0 0 r.1 r.2.1 r.2.2.1 r.2.2.2.1 r.2.2.2.2.1 r.2.2.2.2.2.1 r.2.2.2.2.2.2 r.1 r.2.1 r.2.2.1 r.2.2.2.1 r.2.2.2.2.1 r.2.2.2.2.2.1 r.2.2.2.2.2.2 0 (fun _ _ => 0)) ++ [(a0, .inl (cI, 6, .inl (fun _ => 0)))] ++ [(a1, .inl (cI, 2, .inl (fun _ => 0)))] ++ [(a2, .inl (cI, 40, .inl (fun _ => 0)))] : va_W) = (WX ad fa ca (fun _ => 0) cI cR cG 0 0 0 0 0 0 0 (fun _ => 0) 0 0 0 (fun _ _ => 0) (fun _ _ => 0) 0 0 0 0 r.1 r.2.1 r.2.2.1 r.2.2.2.1 r.2.2.2.2.1 r.2.2.2.2.2.1 r.2.2.2.2.2.2 r.1 r.2.1 r.2.2.1 r.2.2.2.1 r.2.2.2.2.1 r.2.2.2.2.2.1 r.2.2.2.2.2.2 0 (fun _ _ => 0)) ++ wA (fun k => match k with | 0 => a0 | 1 => a1 | _ => a2) cI (fun _ => 0) (fun _ => 0) (fun _ => 0) := by
        rw [List.append_assoc, List.append_assoc]
        rfl
      rw [← e]
      exact hD)
    exact va_D_congr (by rfl) h
  refine W.widen (k := 26 + 5 * 0) (n := 2734 + 35 * 0) (Nat.le_of_ble_eq_true rfl) (Nat.le_of_ble_eq_true rfl) ?_
  exact law_loop (az := fun k => match k with | 0 => a0 | 1 => a1 | _ => a2) hL ⟨C, hN, hX, hbl⟩ hr hlocks hK 40 0 0 rfl rfl (fun _ => 0) (fun _ => 0) (fun _ => 0) 0 0 0 0 0 0 0 (fun _ => 0) 0 0 0 (fun _ _ => 0) (fun _ _ => 0) 0 0 0 0 r.1 r.2.1 r.2.2.1 r.2.2.2.1 r.2.2.2.2.1 r.2.2.2.2.2.1 r.2.2.2.2.2.2 r.1 r.2.1 r.2.2.1 r.2.2.2.1 r.2.2.2.2.1 r.2.2.2.2.2.1 r.2.2.2.2.2.2 0 (fun _ _ => 0) (fun _ => 0) H _ ls (lv_sub hl [5, 4, 3, 2, 1, 0] rfl) ⟨hP, hS⟩ hD law_init
end LAW31
-- ===== YOUR PART ENDS =====
set_option maxHeartbeats 4000000 in
theorem lw_walk (l : Launch) (hflags : l.flags = flags0) (b : Addr) (xs : List Int32) : MetFree l x (headSpec (Jvm.Cond.code x code maxLocals ret :: tables_1) room_1) (lw_P b xs) (fun _ _ _ _ _ => True) lw_Q := by
  refine MetFree.of_bodyS (code := code) (maxLocals := maxLocals) (ret := ret) (by decide) ?_ ?_
  · intro args s m h hn
    obtain ⟨meth, c, h1, h2, h3, h4, h5, h6, -, -⟩ := Cond.code_spec hn (atoms_spec (ws := Jvm.Cond.code x code maxLocals ret :: tables_1) h _ List.mem_cons_self)
    exact ⟨meth, c, h1, h2, h3, h4, h5, h6⟩
  · intro p e s m args below meth c s₁ B hml0 hP _
    obtain ⟨rfl, hx, hbd, hgv⟩ := hP
    obtain ⟨scr, harrAt, hlist, hof, hsmall⟩ := hx
    obtain ⟨hcb, hkn, -, -⟩ := State.arrayAt?_spec harrAt
    have hown : s.vm.findClass R_law = some m.cls := findClass_of_methodNamed B.named
    have hts0 : ∀ c ∈ (Jvm.Cond.code x code maxLocals ret :: tables_1), c.before #[Value.ref b] s = true := atoms_spec (ws := Jvm.Cond.code x code maxLocals ret :: tables_1) B.pre
    have hts : ∀ w ∈ lw_tbl, w.before #[Value.ref b] s = true := k2_hts_sels lw_privs (fun w hw => hts0 w (List.mem_cons_of_mem _ hw)) lw_privs_ok
    have hml : c.maxLocals = 7 := B.maxLocals_eq (hts0 _ List.mem_cons_self)
    have X₀ : Stand p l e room_1 s m #[Value.ref b] below meth c s₁ [] 0 0 := Stand.of_body B
    have hh0 : s₁.heap = s.heap := by rw [B.state]; rfl
    have hsz : scr.slots.size = xs.length := by rw [← Array.length_toList, hlist, List.length_map]
    have hval : ∀ j : Nat, j < xs.length → scr.slots[j]? = some (.int (xs.getD j 0)) := fun j hj => by
      rw [← Array.getElem?_toList, hlist]
      simp [hj]
    have hbl : b < s.heap.size := (Array.getElem?_eq_some_iff.mp hcb).1
    have hX : va_X b xs.length (fun j => xs.getD j 0) s s.heap := ⟨scr, hcb, hof, hkn, hsz, hval⟩
    have K : W p l e room_1 s m #[Value.ref b] below meth c s₁.heap [] 0 0 (lw_Z below #[Value.ref b] s) (entryFrame m ([Value.ref b] : List Value).toArray 7) := by
      rw [hh0]
      exact whole_start l hflags hbd ⟨B.exec, B.bytes, B.returns, hml, hown, hts, hX, hbl, B.notSynchronized, hgv⟩
    obtain ⟨t, a1, o, b1, b2, b3⟩ := K s₁ rfl X₀
    exact ⟨t, o, a1, b1, b2, b3⟩
theorem lw_pre_spec {args : Array Value} {s : State} (h : (Jvm.Cond.and given_1 narrow_1).before args s = true) (hr : rest_1_c.before args s = true) : ∃ (b : Addr) (xs : List Int32), lw_P b xs args s := by
  have hs := flat_of_before _ h
  have hq := flat_of_before _ hr
  have hc : (Cond.count 1).before args s = true := hs _ (by decide +kernel)
  have harr : (Cond.arrayOf (.arg 0) .int).before args s = true := hs _ (by decide +kernel)
  have hle : (Cond.le (.length (.arg 0)) (.int 260)).before args s = true := hs _ (by decide +kernel)
  have hlen : (Cond.isInt (.length (.arg 0))).before args s = true := hq _ (by decide +kernel)
  have hall : (Cond.all (.arg 0) (.isInt (.elem (.arg 0) (.index 0)))).before args s = true := hq _ (by decide +kernel)
  obtain ⟨b, xs, hb, hx⟩ := State.ints_of_pre rfl harr hlen hall
  have hsm : xs.length < 2 ^ 31 := hx.choose_spec.2.2.2
  have hev : (Term.length (.arg 0)).eval args s none [] s = some (.int xs.length.toInt32) := hx.length_eval hb
  have hv := Cond.le_ints hev (show (Term.int 260).eval args s none [] s = some (.int 260) from rfl)
  have hd : xs.length.toInt32 ≤ 260 := by
    simpa [Cond.before, Cond.holds, hv] using hle
  have hN : xs.length ≤ 260 := (Int32.ofNat_le_ofNat hsm (by decide)).mp (show Int32.ofNat xs.length ≤ Int32.ofNat 260 from hd)
  exact ⟨b, xs, Cond.one_arg hc (show args[0]? = some (.ref b) from hb), hx, hN, h⟩
theorem lw_comes (l : Launch) (hflags : l.flags = flags0) : Comes l x (Jvm.Cond.code x code maxLocals ret :: tables_1) room_1 (fun tb e args s => Calls_1 tb e args s ∧ rest_1 tb e args s ∧ Pre_1 tb e args s)
    (fun _ _ args s o t => lw_Q args s o t) := by
  intro p e ha hc hk s m args below hf hfit hheap happ hpre
  obtain ⟨b, xs, hP⟩ := lw_pre_spec hpre.2.2 hpre.2.1
  obtain ⟨k, o, h1, h2, h3, hQ⟩ := lw_walk l hflags b xs p e ha hc hk s m args below hf ((Spec.applies_iff_loose hf).mp happ).1 hP trivial
  exact ⟨k, o, h1, h2, h3, hQ⟩
theorem lw_frame {s t : State} {o : Outcome} {args : Array Value} (h : Framed s o t [] 600000 7302250) :
    Framed s o t (fieldLocs frame_1_writes args s ++ arrayLocs frame_1_arrays args s ++ staticLocs frame_1_statics s) 600000 7302250 := h
theorem lw_limb (L : Cond) (hL : ∀ (args : Array Value) (s t : State), L.after args s (.returned (some (.int 1))) t = true) :
    ArmFor flags0 classFile x code maxLocals ret World_1 tables_1 room_1 Calls_1 rest_1 Pre_1
      (fun tb e a s o t => postC L tb e a s o t ∧ Framed s o t (fieldLocs frame_1_writes a s ++ arrayLocs frame_1_arrays a s ++ staticLocs frame_1_statics s) 600000 7302250) := by
  intro l hflags _ _ p e ha hc hk s m args below hf hfit hheap happ hpre
  obtain ⟨k, o, h1, h2, h3, rfl, hF⟩ := lw_comes l hflags p e ha hc hk s m args below hf hfit hheap happ hpre
  exact ⟨k, _, h1, h2, h3, hL args s _, lw_frame hF⟩
theorem i_vc : Claimed_1_1 ∧ Claimed_1_2 := ⟨lw_limb limb_1_1 (fun args s t => by simp [limb_1_1, Cond.after, Cond.holds, Cond.value]), lw_limb limb_1_2 (fun args s t => Cond.after_iff.mpr (by
  first | (rw [show limb_1_2 = Cond.eq .result (.int 1) from rfl, Cond.eq_ints (x := 1) (y := 1) rfl rfl]; simp; done) | (simp [limb_1_2, Cond.value, Term.eval]; done)))⟩

