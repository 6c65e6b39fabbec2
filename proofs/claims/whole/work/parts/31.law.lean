/-! THE CLAIM OUT OF ONE WALK OF THE LAW'S BODY. Your part is whole_start (and what it stands on); all else here is the same for every law, but numbers. -/
def R_law : String := "RiverWordsLaw"
def lw_P (b : Addr) (xs : List Int32) (args : Array Value) (s : State) : Prop := args = #[.ref b] ∧ s.IntsAt b xs ∧ xs.length ≤ 2560 ∧ (Jvm.Cond.and given_1 narrow_1).before args s = true
def lw_Q (_ : Array Value) (s : State) (o : Outcome) (t : State) : Prop := o = .returned (some (.int 1)) ∧ Framed s o t [] 600000 7302250
def lw_Z (below : List Frame) (a : Array Value) (s : State) : State → Prop := fun t => ∃ o, t.status = .running ∧ Ended t below o ∧ lw_Q a s o t
/-- the law's own end, with 1 on the stack, nothing written that was there before, its room as the claim has it -/
theorem lw_ret {p : Program} {l : Launch} {e : Env} {s : State} {m : MethodId} {below : List Frame} {meth : Method} {c : Code} {b : Nat} (hx : p.tables.exec = Jvm.exec) (hb : c.code = code) (hr : meth.sig.returnType = ret) (hlocks : meth.locks = false) {pc : Nat} {H : Heap} {ls : Array Slot} (hdg : decode code pc = .ok (.ireturn, 1)) : W p l e room_1 s m #[Value.ref b] below meth c H [] 600000 7302250 (lw_Z below #[Value.ref b] s) (F0 m pc ls [.int 1]) := by
  intro T hT X
  obtain ⟨fs, hret, hrun, hended, hW, hframe⟩ := X.leave (v := some (.int 1)) (hlocks := hlocks) (fun h => by rw [hr] at h; cases h)
  have hmeth' : T.vm.method? m = some meth := X.method'
  refine ⟨T.setFrames fs, ?_, .returned (some (.int 1)), hrun, hended, rfl, ⟨_, rfl⟩, hW, hframe⟩
  jvm_step X.here [X.here.top, hx, hb, hdg, hmeth', hr, ret, narrow_b1]
  (try refine ⟨rfl, ?_⟩); (try refine ⟨rfl, ?_⟩)
  first | (intro acts; rw [hret _ acts rfl rfl rfl]) | rw [hret _ _ rfl rfl rfl]
  exact Steps.refl _
/-- what holds at the law's entry: the machine, the code, the tables' words (any of lw_tbl by 'hts w (by decide +kernel)'), the script of L ints xs at the cell b, what the Statement gives of the start (any of its parts by flat_of_before) -/
def lw_At (p : Program) (s : State) (m : MethodId) (meth : Method) (c : Code) (b L : Nat) (xs : Nat → Int32) : Prop :=
  p.tables.exec = Jvm.exec ∧ c.code = code ∧ meth.sig.returnType = ret ∧ c.maxLocals = 4 ∧ s.vm.findClass R_law = some m.cls ∧ (∀ w ∈ lw_tbl, w.before #[Value.ref b] s = true) ∧ va_X b L xs s s.heap ∧ b < s.heap.size ∧ meth.locks = false ∧ (Jvm.Cond.and given_1 narrow_1).before #[Value.ref b] s = true
-- ===== YOUR PART BEGINS =====
theorem law_nw1 : Cond.methodLinkNest RX3 59 yX4_commonDivisor "RiverWords" ∈ lw_tbl := List.mem_append_right _ (List.mem_of_getElem? (i := 279) (by decide +kernel))
theorem law_nw2 : Cond.methodLinkNest RX3 62 yX4_discriminantOf "RiverWords" ∈ lw_tbl := List.mem_append_right _ (List.mem_of_getElem? (i := 288) (by decide +kernel))
theorem law_nw3 : Cond.methodLinkNest RX2 50 yX4_commonDivisor "RiverWords" ∈ lw_tbl := List.mem_append_right _ (List.mem_of_getElem? (i := 362) (by decide +kernel))
theorem law_nw4 : Cond.methodLinkNest RX1 36 yX4_mix "RiverWords" ∈ lw_tbl := List.mem_append_right _ (List.mem_of_getElem? (i := 563) (by decide +kernel))
theorem law_nw5 : Cond.methodLinkNest RX4 9 yX1_init "RiverWords" ∈ lw_tbl := List.mem_append_right _ (List.mem_of_getElem? (i := 19) (by decide +kernel))
theorem law_nw6 : Cond.methodLinkNest RX4 24 yX2_init "RiverWords" ∈ lw_tbl := List.mem_append_right _ (List.mem_of_getElem? (i := 51) (by decide +kernel))
theorem law_nw7 : Cond.methodLinkNest RX4 31 yX0_init "RiverWords" ∈ lw_tbl := List.mem_append_right _ (List.mem_of_getElem? (i := 78) (by decide +kernel))
theorem law_ao1 : Cond.arrayOver (.object RX3) ∈ lw_tbl := List.mem_append_right _ (List.mem_of_getElem? (i := 48) (by decide +kernel))
theorem law_ao2 : Cond.arrayOver (.array .int) ∈ lw_tbl := List.mem_append_right _ (List.mem_of_getElem? (i := 56) (by decide +kernel))
theorem law_in0 : Cond.instantiable RX0 6 ∈ lw_tbl := List.mem_append_right _ (List.mem_of_getElem? (i := 77) (by decide +kernel))
theorem law_in1 : Cond.instantiable RX1 6 ∈ lw_tbl := List.mem_append_right _ (List.mem_of_getElem? (i := 18) (by decide +kernel))
theorem law_in2 : Cond.instantiable RX2 5 ∈ lw_tbl := List.mem_append_right _ (List.mem_of_getElem? (i := 50) (by decide +kernel))
theorem law_in3 : Cond.instantiable RX3 7 ∈ lw_tbl := List.mem_append_right _ (List.mem_of_getElem? (i := 83) (by decide +kernel))
theorem law_in4 : Cond.instantiable RX4 6 ∈ lw_tbl := List.mem_append_right _ (List.mem_of_getElem? (i := 10) (by decide +kernel))
theorem law_in5 : Cond.instantiable RX5 35 ∈ lw_tbl := List.mem_append_right _ (List.mem_of_getElem? (i := 566) (by decide +kernel))
theorem law_cl7 : Cond.classLink RL 7 RX4 ∈ wsL_law := (List.mem_append_left _ (List.mem_append_left _ (List.mem_append_left _ (List.mem_append_left _ (List.mem_append_left _ (List.mem_append_left _ (List.mem_append_left _ (List.mem_append_left _ (by decide +kernel)))))))))
theorem law_cl10 : Cond.classLink RL 10 RX5 ∈ wsL_law := (List.mem_append_left _ (List.mem_append_left _ (List.mem_append_left _ (List.mem_append_left _ (List.mem_append_left _ (List.mem_append_left _ (List.mem_append_left _ (List.mem_append_left _ (by decide +kernel)))))))))
theorem law_is4 : Cond.instantiable RX4 6 ∈ wsL_law := (List.mem_append_left _ (List.mem_append_left _ (List.mem_append_left _ (List.mem_append_left _ (List.mem_append_left _ (List.mem_append_left _ (List.mem_append_left _ (List.mem_append_left _ (by decide +kernel)))))))))
theorem law_is5 : Cond.instantiable RX5 35 ∈ wsL_law := (List.mem_append_left _ (List.mem_append_left _ (List.mem_append_left _ (List.mem_append_left _ (List.mem_append_left _ (List.mem_append_left _ (List.mem_append_left _ (List.mem_append_left _ (by decide +kernel)))))))))
theorem law_ii4 : Cond.initialized RX4 ∈ wsL_law := (List.mem_append_left _ (List.mem_append_left _ (List.mem_append_left _ (List.mem_append_left _ (List.mem_append_left _ (List.mem_append_left _ (List.mem_append_left _ (List.mem_append_left _ (by decide +kernel)))))))))
theorem law_ii5 : Cond.initialized RX5 ∈ wsL_law := (List.mem_append_left _ (List.mem_append_left _ (List.mem_append_left _ (List.mem_append_left _ (List.mem_append_left _ (List.mem_append_left _ (List.mem_append_left _ (List.mem_append_left _ (by decide +kernel)))))))))
theorem law_ml4 : Cond.methodLink RL 9 yX4_init ∈ wsL_law := (List.mem_append_left _ (List.mem_append_left _ (List.mem_append_left _ (List.mem_append_left _ (List.mem_append_left _ (List.mem_append_left _ (List.mem_append_left _ (List.mem_append_left _ (by decide +kernel)))))))))
theorem law_ml5 : Cond.methodLink RL 12 yX5_init ∈ wsL_law := (List.mem_append_left _ (List.mem_append_left _ (List.mem_append_left _ (List.mem_append_left _ (List.mem_append_left _ (List.mem_append_left _ (List.mem_append_left _ (List.mem_append_right _ (List.mem_append_right _ (List.mem_append_left _ (by decide +kernel)))))))))))
theorem law_im4 : Cond.instanceMethod yX4_init ∈ wsL_law := (List.mem_append_left _ (List.mem_append_left _ (List.mem_append_left _ (List.mem_append_left _ (List.mem_append_left _ (List.mem_append_left _ (List.mem_append_left _ (List.mem_append_left _ (by decide +kernel)))))))))
theorem law_im5 : Cond.instanceMethod yX5_init ∈ wsL_law := (List.mem_append_left _ (List.mem_append_left _ (List.mem_append_left _ (List.mem_append_left _ (List.mem_append_left _ (List.mem_append_left _ (List.mem_append_left _ (List.mem_append_right _ (List.mem_append_right _ (List.mem_append_left _ (by decide +kernel)))))))))))
set_option maxHeartbeats 16000000 in
set_option maxRecDepth 100000 in
theorem law_loop {p : Program} {e : Env} {s : State} {m : MethodId} {below : List Frame} {meth : Method} {c : Code} {l : Launch} {D : va_G} {b L h5 : Nat} {xs : Nat → Int32} {ad fa ca am : Nat → Nat} {cI cR cG cA : ClassId} (hL : L ≤ 2560) (F : LF p m c s b L xs #[Value.ref b]) (hr : meth.sig.returnType = ret) (hlocks : meth.locks = false) (hKx : va_K D vwCl (tyX cI cR cG) s) (hKm : va_K D vwCl [(cA, .int)] s) : ∀ (n k : Nat) (x3 : Int32), 5 * k ≤ L → L < 5 * k + n → x3 = nI (5 * k) → ∀ (v_roadCount : Int32) (v_readings : Int32) (v_psize : Int32) (v_good : Int32) (v_pbits : Int32) (v_letters : Int32) (v_afterLetter : Int32) (v_codes : Nat → Int32) (v_disc : Int32) (v_rsize : Int32) (v_cycleCount : Int32) (v_fo : Nat → Nat → Int32) (v_cy : Nat → Nat → Int32) (v_s : Int64) (v_closed : Int32) (v_traces : Int32) (v_crossings : Int32) (v_db_bits : Int32) (v_db_size : Int32) (v_db_allBits : Int32) (v_db_a : Int32) (v_db_b : Int32) (v_db_c : Int32) (v_db_d : Int32) (v_dn_bits : Int32) (v_dn_size : Int32) (v_dn_allBits : Int32) (v_dn_a : Int32) (v_dn_b : Int32) (v_dn_c : Int32) (v_dn_d : Int32) (v_wn : Nat) (v_wv : Nat → Nat → Int32) (m_pageLength : Int32) (m_page : Nat → Int32) (m_roads : Int32) (m_lengths : Nat → Int32) (m_signs : Nat → Int32) (m_wordsRead : Int32) (m_disc : Int32) (m_forms : Int32) (m_formA : Nat → Int32) (m_formB : Nat → Int32) (m_formC : Nat → Int32) (m_nextOf : Nat → Int32) (m_cycleOf : Nat → Int32) (m_cycles : Int32) (m_firstOf : Nat → Int32) (m_newLength : Int32) (m_newSigns : Nat → Int32) (m_mayRun : Int32) (m_size : Int32) (m_at : Nat → Int32) (m_otherSize : Int32) (m_other : Nat → Int32) (m_tableA : Int32) (m_tableB : Int32) (m_tableC : Int32) (m_tableD : Int32) (m_a : Int32) (m_b : Int32) (m_c : Int32) (m_grade : Int32) (m_flowA : Int32) (m_flowB : Int32) (m_flowC : Int32) (m_seedNow : Int64) (m_h : Int64) (wad : Nat → Nat) (H : Heap) (locs : List Loc) (ls : Array Slot), lv_has ls 4 [(0, .ref b), (1, .ref (ad 0)), (2, .ref h5), (3, .int x3)] → LI D s H locs ((WX ad fa ca wad cI cR cG v_roadCount v_readings v_psize v_good v_pbits v_letters v_afterLetter v_codes v_disc v_rsize v_cycleCount v_fo v_cy v_s v_closed v_traces v_crossings v_db_bits v_db_size v_db_allBits v_db_a v_db_b v_db_c v_db_d v_dn_bits v_dn_size v_dn_allBits v_dn_a v_dn_b v_dn_c v_dn_d v_wn v_wv) ++ (WM h5 am cA m_pageLength m_page m_roads m_lengths m_signs m_wordsRead m_disc m_forms m_formA m_formB m_formC m_nextOf m_cycleOf m_cycles m_firstOf m_newLength m_newSigns m_mayRun m_size m_at m_otherSize m_other m_tableA m_tableB m_tableC m_tableD m_a m_b m_c m_grade m_flowA m_flowB m_flowC m_seedNow m_h)) → LD s (WX0 ad fa ca wad cI cR cG v_wn) (WM0 h5 am cA) → SIM v_roadCount v_readings v_psize v_good v_pbits v_letters v_afterLetter v_codes v_disc v_rsize v_cycleCount v_fo v_cy v_wn v_wv m_pageLength m_page m_roads m_lengths m_signs m_wordsRead m_disc m_forms m_formA m_formB m_formC m_nextOf m_cycleOf m_cycles m_firstOf m_size → W p l e room_1 s m #[Value.ref b] below meth c H locs (36 + k) (11327 + 7 * k) (lw_Z below #[Value.ref b] s) (F0 m 18 ls []) := by
  intro n
  induction n with
  | zero =>
    intro k x3 h1 h2
    exact absurd h2 (by omega)
  | succ n ih =>
    intro k x3 h1 h2 ex3 v_roadCount v_readings v_psize v_good v_pbits v_letters v_afterLetter v_codes v_disc v_rsize v_cycleCount v_fo v_cy v_s v_closed v_traces v_crossings v_db_bits v_db_size v_db_allBits v_db_a v_db_b v_db_c v_db_d v_dn_bits v_dn_size v_dn_allBits v_dn_a v_dn_b v_dn_c v_dn_d v_wn v_wv m_pageLength m_page m_roads m_lengths m_signs m_wordsRead m_disc m_forms m_formA m_formB m_formC m_nextOf m_cycleOf m_cycles m_firstOf m_newLength m_newSigns m_mayRun m_size m_at m_otherSize m_other m_tableA m_tableB m_tableC m_tableD m_a m_b m_c m_grade m_flowA m_flowB m_flowC m_seedNow m_h wad H locs ls hl hI hD hSIM
    have F0' := F
    obtain ⟨C, hN, hX, hbl⟩ := F0'
    have hx := C.1
    have hb := C.2.1
    have hbA : ¬ AL s b := Nat.not_le.mpr hbl
    refine lv_iload_n hx hb dL_law_18 rfl (lv_at hl 3 rfl) ?_
    refine lv_aload_n hx hb dL_law_19 rfl (lv_at hl 0 rfl) ?_
    refine va_slen hx hb hX hbl hbA hI.2 dL_law_20 ?_
    refine lv_iconst (v := 5) hx hb dL_law_21 rfl ?_
    refine lv_isub hx hb dL_law_22 ?_
    refine lv_icmp_gt (tgt := 987) hx hb dL_law_23 rfl (fun c1 => ?_) (fun c1 => ?_)
    · refine lv_iconst (v := 1) hx hb dL_law_987 rfl ?_
      refine va_forget (fun q hq => hI.2.2.2 q hq) ?_
      refine W.widen (k := 600000) (n := 7302250) (by omega) (by omega) ?_
      exact lw_ret hx hb hr hlocks dL_law_988
    · have hk5 : 5 * k + 5 ≤ L := by
        have h3 : (nI L - nI 5).toInt = (L : Int) - (5 : Nat) := pk_sub_toInt (by omega) (by omega)
        have h4 : ¬ (nI L - nI 5) < x3 := c1
        rw [Int32.lt_iff_toInt_lt, h3, ex3, nI_toInt (by omega)] at h4
        omega
      have hi0 : vp_in x3 L := by rw [ex3]; exact vp_in_nI (by omega) (by omega)
      have hin : ∀ j : Nat, j ≤ 4 → vp_in (x3 + nI j) L := fun j hj => by rw [ex3, nI_add]; exact vp_in_nI (by omega) (by omega)
      have hcs2 : 36 + k + 1 ≤ room_1.cells ∧ 11327 + 7 * k + 7 ≤ room_1.slots := ⟨by show _ ≤ 600000; omega, by show _ ≤ 7302250; omega⟩
      have K : ∀ (v_roadCount : Int32) (v_readings : Int32) (v_psize : Int32) (v_good : Int32) (v_pbits : Int32) (v_letters : Int32) (v_afterLetter : Int32) (v_codes : Nat → Int32) (v_disc : Int32) (v_rsize : Int32) (v_cycleCount : Int32) (v_fo : Nat → Nat → Int32) (v_cy : Nat → Nat → Int32) (v_s : Int64) (v_closed : Int32) (v_traces : Int32) (v_crossings : Int32) (v_db_bits : Int32) (v_db_size : Int32) (v_db_allBits : Int32) (v_db_a : Int32) (v_db_b : Int32) (v_db_c : Int32) (v_db_d : Int32) (v_dn_bits : Int32) (v_dn_size : Int32) (v_dn_allBits : Int32) (v_dn_a : Int32) (v_dn_b : Int32) (v_dn_c : Int32) (v_dn_d : Int32) (v_wn : Nat) (v_wv : Nat → Nat → Int32) (m_pageLength : Int32) (m_page : Nat → Int32) (m_roads : Int32) (m_lengths : Nat → Int32) (m_signs : Nat → Int32) (m_wordsRead : Int32) (m_disc : Int32) (m_forms : Int32) (m_formA : Nat → Int32) (m_formB : Nat → Int32) (m_formC : Nat → Int32) (m_nextOf : Nat → Int32) (m_cycleOf : Nat → Int32) (m_cycles : Int32) (m_firstOf : Nat → Int32) (m_newLength : Int32) (m_newSigns : Nat → Int32) (m_mayRun : Int32) (m_size : Int32) (m_at : Nat → Int32) (m_otherSize : Int32) (m_other : Nat → Int32) (m_tableA : Int32) (m_tableB : Int32) (m_tableC : Int32) (m_tableD : Int32) (m_a : Int32) (m_b : Int32) (m_c : Int32) (m_grade : Int32) (m_flowA : Int32) (m_flowB : Int32) (m_flowC : Int32) (m_seedNow : Int64) (m_h : Int64) (wad : Nat → Nat) (H : Heap) (locs : List Loc), LI D s H locs ((WX ad fa ca wad cI cR cG v_roadCount v_readings v_psize v_good v_pbits v_letters v_afterLetter v_codes v_disc v_rsize v_cycleCount v_fo v_cy v_s v_closed v_traces v_crossings v_db_bits v_db_size v_db_allBits v_db_a v_db_b v_db_c v_db_d v_dn_bits v_dn_size v_dn_allBits v_dn_a v_dn_b v_dn_c v_dn_d v_wn v_wv) ++ (WM h5 am cA m_pageLength m_page m_roads m_lengths m_signs m_wordsRead m_disc m_forms m_formA m_formB m_formC m_nextOf m_cycleOf m_cycles m_firstOf m_newLength m_newSigns m_mayRun m_size m_at m_otherSize m_other m_tableA m_tableB m_tableC m_tableD m_a m_b m_c m_grade m_flowA m_flowB m_flowC m_seedNow m_h)) → LD s (WX0 ad fa ca wad cI cR cG v_wn) (WM0 h5 am cA) → SIM v_roadCount v_readings v_psize v_good v_pbits v_letters v_afterLetter v_codes v_disc v_rsize v_cycleCount v_fo v_cy v_wn v_wv m_pageLength m_page m_roads m_lengths m_signs m_wordsRead m_disc m_forms m_formA m_formB m_formC m_nextOf m_cycleOf m_cycles m_firstOf m_size → W p l e room_1 s m #[Value.ref b] below meth c H locs (36 + k + 1) (11327 + 7 * k + 7) (lw_Z below #[Value.ref b] s) (F0 m 981 ls []) := by
        intro v_roadCount v_readings v_psize v_good v_pbits v_letters v_afterLetter v_codes v_disc v_rsize v_cycleCount v_fo v_cy v_s v_closed v_traces v_crossings v_db_bits v_db_size v_db_allBits v_db_a v_db_b v_db_c v_db_d v_dn_bits v_dn_size v_dn_allBits v_dn_a v_dn_b v_dn_c v_dn_d v_wn v_wv m_pageLength m_page m_roads m_lengths m_signs m_wordsRead m_disc m_forms m_formA m_formB m_formC m_nextOf m_cycleOf m_cycles m_firstOf m_newLength m_newSigns m_mayRun m_size m_at m_otherSize m_other m_tableA m_tableB m_tableC m_tableD m_a m_b m_c m_grade m_flowA m_flowB m_flowC m_seedNow m_h wad H locs hI hD hSIM
        refine lv_iinc (v := x3 + 5) (lv' := [(3, .int (x3 + 5)), (0, .ref b), (1, .ref (ad 0)), (2, .ref h5)]) hx hb dL_law_981 hl (k := 3) rfl rfl (by decide) rfl (fun ls hl => ?_)
        refine lv_goto (tgt := 18) hx hb dL_law_984 rfl ?_
        refine W.widen (k := 36 + (k + 1)) (n := 11327 + 7 * (k + 1)) (by omega) (by omega) ?_
        exact ih (k + 1) (x3 + 5) (by omega) (by omega) (by rw [ex3]; exact nI_add (5 * k) 5) v_roadCount v_readings v_psize v_good v_pbits v_letters v_afterLetter v_codes v_disc v_rsize v_cycleCount v_fo v_cy v_s v_closed v_traces v_crossings v_db_bits v_db_size v_db_allBits v_db_a v_db_b v_db_c v_db_d v_dn_bits v_dn_size v_dn_allBits v_dn_a v_dn_b v_dn_c v_dn_d v_wn v_wv m_pageLength m_page m_roads m_lengths m_signs m_wordsRead m_disc m_forms m_formA m_formB m_formC m_nextOf m_cycleOf m_cycles m_firstOf m_newLength m_newSigns m_mayRun m_size m_at m_otherSize m_other m_tableA m_tableB m_tableC m_tableD m_a m_b m_c m_grade m_flowA m_flowB m_flowC m_seedNow m_h wad H locs ls (lv_sub hl [1, 2, 3, 0] rfl) hI hD hSIM
      refine lv_aload_n hx hb dL_law_26 rfl (lv_at hl 0 rfl) ?_
      refine lv_iload_n hx hb dL_law_27 rfl (lv_at hl 3 rfl) ?_
      refine va_sld hx hb hX hbl hbA hI.2 hi0 dL_law_28 ?_
      refine lv_bipush (v := 31) hx hb dL_law_29 rfl ?_
      refine lv_iand hx hb dL_law_31 ?_
      generalize (xs x3.toNatClampNeg &&& 31) = z
      by_cases z0 : z = 0
      · refine j_tswIn (tgt := 160) hx hb 0 z0 dL_law_32 (by decide) (by decide) rfl rfl ?_
        exact law_letter F hKx hKm hcs2 (hin 1 (by decide)) hl hI hD hSIM K
      by_cases z1 : z = 1
      · refine j_tswIn (tgt := 183) hx hb 1 z1 dL_law_32 (by decide) (by decide) rfl rfl ?_
        exact law_blank F hKx hKm hcs2 hl hI hD hSIM K
      by_cases z2 : z = 2
      · refine j_tswIn (tgt := 196) hx hb 2 z2 dL_law_32 (by decide) (by decide) rfl rfl ?_
        exact law_fault F hKx hKm hcs2 hl hI hD hSIM K
      by_cases z3 : z = 3
      · refine j_tswIn (tgt := 209) hx hb 3 z3 dL_law_32 (by decide) (by decide) rfl rfl ?_
        exact law_word F hKx hKm hcs2 hl hI hD hSIM K
      by_cases z4 : z = 4
      · refine j_tswIn (tgt := 222) hx hb 4 z4 dL_law_32 (by decide) (by decide) rfl rfl ?_
        exact law_road F hKx hKm hcs2 (hin 1 (by decide)) (hin 2 (by decide)) hl hI hD hSIM K
      by_cases z5 : z = 5
      · refine j_tswIn (tgt := 255) hx hb 5 z5 dL_law_32 (by decide) (by decide) rfl rfl ?_
        exact law_sign F hKx hKm hcs2 (hin 1 (by decide)) (hin 2 (by decide)) hl hI hD hSIM K
      by_cases z6 : z = 6
      · refine j_tswIn (tgt := 288) hx hb 6 z6 dL_law_32 (by decide) (by decide) rfl rfl ?_
        exact law_table F hKx hKm hcs2 (hin 1 (by decide)) (hin 2 (by decide)) hl hI hD hSIM K
      by_cases z7 : z = 7
      · refine j_tswIn (tgt := 321) hx hb 7 z7 dL_law_32 (by decide) (by decide) rfl rfl ?_
        exact law_form F hKx hKm hcs2 (hin 1 (by decide)) (hin 2 (by decide)) hl hI hD hSIM K
      by_cases z8 : z = 8
      · refine j_tswIn (tgt := 354) hx hb 8 z8 dL_law_32 (by decide) (by decide) rfl rfl ?_
        exact law_end F hKx hKm hcs2 (hin 1 (by decide)) (hin 2 (by decide)) hl hI hD hSIM K
      by_cases z9 : z = 9
      · refine j_tswIn (tgt := 387) hx hb 9 z9 dL_law_32 (by decide) (by decide) rfl rfl ?_
        exact law_alike F hKx hKm hcs2 (hin 1 (by decide)) (hin 2 (by decide)) hl hI hD hSIM K
      by_cases z10 : z = 10
      · refine j_tswIn (tgt := 420) hx hb 10 z10 dL_law_32 (by decide) (by decide) rfl rfl ?_
        exact law_cross F hKx hKm hcs2 (hin 1 (by decide)) (hin 2 (by decide)) hl hI hD hSIM K
      by_cases z11 : z = 11
      · refine j_tswIn (tgt := 453) hx hb 11 z11 dL_law_32 (by decide) (by decide) rfl rfl ?_
        exact law_turn F hKx hKm hcs2 (hin 1 (by decide)) (hin 2 (by decide)) hl hI hD hSIM K
      by_cases z12 : z = 12
      · refine j_tswIn (tgt := 486) hx hb 12 z12 dL_law_32 (by decide) (by decide) rfl rfl ?_
        exact law_change F hKx hKm hcs2 (hin 1 (by decide)) (hin 2 (by decide)) hl hI hD hSIM K
      by_cases z13 : z = 13
      · refine j_tswIn (tgt := 519) hx hb 13 z13 dL_law_32 (by decide) (by decide) rfl rfl ?_
        exact law_join F hKx hKm hcs2 (hin 1 (by decide)) (hin 2 (by decide)) hl hI hD hSIM K
      by_cases z14 : z = 14
      · refine j_tswIn (tgt := 552) hx hb 14 z14 dL_law_32 (by decide) (by decide) rfl rfl ?_
        exact law_times F hKx hKm hcs2 (hin 1 (by decide)) (hin 2 (by decide)) hl hI hD hSIM K
      by_cases z15 : z = 15
      · refine j_tswIn (tgt := 585) hx hb 15 z15 dL_law_32 (by decide) (by decide) rfl rfl ?_
        exact law_cut F hKx hKm hcs2 (hin 1 (by decide)) (hin 2 (by decide)) hl hI hD hSIM K
      by_cases z16 : z = 16
      · refine j_tswIn (tgt := 618) hx hb 16 z16 dL_law_32 (by decide) (by decide) rfl rfl ?_
        exact law_drop F hKx hKm hcs2 hl hI hD hSIM K
      by_cases z17 : z = 17
      · refine j_tswIn (tgt := 631) hx hb 17 z17 dL_law_32 (by decide) (by decide) rfl rfl ?_
        exact law_river F hKx hKm hcs2 (hin 1 (by decide)) hl hI hD hSIM K
      by_cases z18 : z = 18
      · refine j_tswIn (tgt := 654) hx hb 18 z18 dL_law_32 (by decide) (by decide) rfl rfl ?_
        exact law_simple F hKx hKm hcs2 (hin 1 (by decide)) (hin 2 (by decide)) hl hI hD hSIM K
      by_cases z19 : z = 19
      · refine j_tswIn (tgt := 687) hx hb 19 z19 dL_law_32 (by decide) (by decide) rfl rfl ?_
        exact law_cycle F hKx hKm hcs2 (hin 1 (by decide)) (hin 2 (by decide)) hl hI hD hSIM K
      by_cases z20 : z = 20
      · refine j_tswIn (tgt := 720) hx hb 20 z20 dL_law_32 (by decide) (by decide) rfl rfl ?_
        exact law_step F hKx hKm hcs2 (hin 1 (by decide)) (hin 2 (by decide)) hl hI hD hSIM K
      by_cases z21 : z = 21
      · refine j_tswIn (tgt := 753) hx hb 21 z21 dL_law_32 (by decide) (by decide) rfl rfl ?_
        exact law_trace F hKx hKm hcs2 (hin 1 (by decide)) (hin 2 (by decide)) hl hI hD hSIM K
      by_cases z22 : z = 22
      · refine j_tswIn (tgt := 786) hx hb 22 z22 dL_law_32 (by decide) (by decide) rfl rfl ?_
        exact law_flow F hKx hKm hcs2 (hin 1 (by decide)) (hin 2 (by decide)) (hin 3 (by decide)) (hin 4 (by decide)) hl hI hD hSIM K
      by_cases z23 : z = 23
      · refine j_tswIn (tgt := 855) hx hb 23 z23 dL_law_32 (by decide) (by decide) rfl rfl ?_
        exact law_lay F hKx hKm hcs2 (hin 1 (by decide)) hl hI hD hSIM K
      by_cases z24 : z = 24
      · refine j_tswIn (tgt := 878) hx hb 24 z24 dL_law_32 (by decide) (by decide) rfl rfl ?_
        exact law_where F hKx hKm hcs2 (hin 1 (by decide)) hl hI hD hSIM K
      by_cases z25 : z = 25
      · refine j_tswIn (tgt := 901) hx hb 25 z25 dL_law_32 (by decide) (by decide) rfl rfl ?_
        exact law_drawn F hKx hKm hcs2 (hin 1 (by decide)) (hin 2 (by decide)) (hin 3 (by decide)) hl hI hD hSIM K
      by_cases z26 : z = 26
      · refine j_tswIn (tgt := 944) hx hb 26 z26 dL_law_32 (by decide) (by decide) rfl rfl ?_
        exact law_count F hKx hKm hcs2 (hin 1 (by decide)) hl hI hD hSIM K
      by_cases z27 : z = 27
      · refine j_tswIn (tgt := 967) hx hb 27 z27 dL_law_32 (by decide) (by decide) rfl rfl ?_
        exact law_digest F hKx hKm hcs2 hl hI hD hSIM K
      refine lv_tableOut (tgt := 981) hx hb dL_law_32 (j_tswOut (lo := 0) (hi := 27) [0, 1, 2, 3, 4, 5, 6, 7, 8, 9, 10, 11, 12, 13, 14, 15, 16, 17, 18, 19, 20, 21, 22, 23, 24, 25, 26, 27] (by decide) (fun k hk => by simp only [List.mem_cons, List.not_mem_nil, or_false] at hk; rcases hk with rfl | rfl | rfl | rfl | rfl | rfl | rfl | rfl | rfl | rfl | rfl | rfl | rfl | rfl | rfl | rfl | rfl | rfl | rfl | rfl | rfl | rfl | rfl | rfl | rfl | rfl | rfl | rfl <;> assumption)) rfl ?_
      refine W.widen (k := 36 + k + 1) (n := 11327 + 7 * k + 7) (by omega) (by omega) ?_
      exact K v_roadCount v_readings v_psize v_good v_pbits v_letters v_afterLetter v_codes v_disc v_rsize v_cycleCount v_fo v_cy v_s v_closed v_traces v_crossings v_db_bits v_db_size v_db_allBits v_db_a v_db_b v_db_c v_db_d v_dn_bits v_dn_size v_dn_allBits v_dn_a v_dn_b v_dn_c v_dn_d v_wn v_wv m_pageLength m_page m_roads m_lengths m_signs m_wordsRead m_disc m_forms m_formA m_formB m_formC m_nextOf m_cycleOf m_cycles m_firstOf m_newLength m_newSigns m_mayRun m_size m_at m_otherSize m_other m_tableA m_tableB m_tableC m_tableD m_a m_b m_c m_grade m_flowA m_flowB m_flowC m_seedNow m_h wad H locs hI hD hSIM
set_option maxHeartbeats 16000000 in
set_option maxRecDepth 100000 in
theorem whole_start {p : Program} {e : Env} {s : State} {m : MethodId} {below : List Frame} {meth : Method} {c : Code} (l : Launch) (hflags : l.flags = flags0) {b L : Nat} {xs : Nat → Int32} (hL : L ≤ 2560) (C0 : lw_At p s m meth c b L xs) : W p l e room_1 s m #[Value.ref b] below meth c s.heap [] 0 0 (lw_Z below #[Value.ref b] s) (entryFrame m ([Value.ref b] : List Value).toArray 4) := by
  obtain ⟨hx, hb, hr, hml, hown, hts, hX, hbl, hlocks, hgv⟩ := id C0
  have hts2 : ∀ w ∈ wsL_law, w.before #[Value.ref b] s = true := fun w h => hts w (wsL_law_in w h)
  have C : CallFix p m c cL_law 4 s #[Value.ref b] wsL_law RL := ⟨hx, hb, hml, hown, hts2⟩
  have hN : NW s := ⟨va_Nw.of rfl (hts _ law_nw1), va_Nw.of rfl (hts _ law_nw2), va_Nw.of rfl (hts _ law_nw3), va_Nw.of rfl (hts _ law_nw4), va_Nw.of rfl (hts _ law_nw5), va_Nw.of rfl (hts _ law_nw6), va_Nw.of rfl (hts _ law_nw7)⟩
  have hO : va_AO RX3 s := va_AO.of (hts _ law_ao1)
  have hOA : va_AOA .int s := va_AOA.of (hts _ law_ao2)
  obtain ⟨k0, i0, hk0⟩ := u_known (C := RX0) (T := TX0) (N := 6) (n := 6) hts inX0 (hts _ law_in0)
  obtain ⟨k1, i1, hk1⟩ := u_known (C := RX1) (T := TX1) (N := 6) (n := 6) hts inX1 (hts _ law_in1)
  obtain ⟨k2, i2, hk2⟩ := u_known (C := RX2) (T := TX2) (N := 5) (n := 5) hts inX2 (hts _ law_in2)
  obtain ⟨k3, i3, hk3⟩ := u_known (C := RX3) (T := TX3) (N := 7) (n := 7) hts inX3 (hts _ law_in3)
  obtain ⟨k4, i4, hk4⟩ := u_known (C := RX4) (T := TX4) (N := 6) (n := 6) hts inX4 (hts _ law_in4)
  obtain ⟨k5, i5, hk5⟩ := u_known (C := RX5) (T := TX5) (N := 35) (n := 35) hts inX5 (hts _ law_in5)
  obtain ⟨D, hKc⟩ : ∃ D : va_G, ∀ (k : Nat) (q : vw_C), vwCl[k]? = some q → u_Kn s q.1 q.2.1 q.2.2 (D.1 k) (D.2 k) := by
    refine ⟨(fun k => match k with | 0 => k0 | 1 => k1 | 2 => k2 | 3 => k3 | 4 => k4 | _ => k5, fun k => match k with | 0 => i0 | 1 => i1 | 2 => i2 | 3 => i3 | 4 => i4 | _ => i5), ?_⟩
    intro k q hq
    match k, hq with
    | 0, hq => cases hq; exact hk0
    | 1, hq => cases hq; exact hk1
    | 2, hq => cases hq; exact hk2
    | 3, hq => cases hq; exact hk3
    | 4, hq => cases hq; exact hk4
    | 5, hq => cases hq; exact hk5
    | k + 6, hq => simp [vwCl] at hq
  have hA : ∀ q : Nat, s.heap.size ≤ q → AL s q := fun _ h => h
  have hS : va_S (AL s) s.heap s.heap [] := va_S.rf
  have hK : va_K D vwCl [] s := ⟨hKc, fun k q h => by simp at h⟩
  have hP : va_P D vwCl [] s.heap := fun k q h => by simp at h
  have hD : va_D (AL s) [] := ⟨fun i j p q h => by simp at h, fun k q h => by simp at h⟩
  obtain ⟨r, hr8⟩ := become8
  have hl := lv_entry ([.ref b]) (n := 4) (Nat.le_of_ble_eq_true rfl)
  rw [lg_entry_eq]
  generalize (lg_sl ([.ref b]) ++ List.replicate (4 - (lg_sl ([.ref b])).length) Slot.unset).toArray = ls at hl ⊢
  have hl : lv_has ls 4 [(0, .ref b)] := hl
  refine va_new (ci := 4) (fs := [.null, .null, .null, .null, .int 0, .int 0]) (C := RX4) (T := TX4) (N := 6) hx hb hts2 inlX4 tyX4 tyX4_ok hown (hts2 _ law_cl7) (hts2 _ law_is4) (hts2 _ law_ii4) hK hP hD hS hA rfl (fun j hj => by rcases (show j = 0 ∨ j = 1 ∨ j = 2 ∨ j = 3 ∨ j = 4 ∨ j = 5 by omega) with rfl | rfl | rfl | rfl | rfl | rfl <;> rfl) (Nat.le_of_ble_eq_true rfl) (Nat.le_of_ble_eq_true rfl) dL_law_0 (fun q4 H hP hD hS => ?_)
  refine lv_dup hx hb dL_law_3 rfl ?_
  refine jPI (wa := []) (wb := wX4 q4) (rest := [.ref q4]) C (c4_init hr8) gL_law_X4_init law_ml4 law_ii4 law_im4 rfl hd4_init hK hN hO hOA hP hD hA hS rfl ⟨rfl, rfl⟩ ⟨Nat.le_of_ble_eq_true rfl, Nat.le_of_ble_eq_true rfl⟩ hl.1 rfl (Nat.le_of_ble_eq_true rfl) ⟨Nat.le_of_ble_eq_true rfl, Nat.le_of_ble_eq_true rfl⟩ dL_law_4 (fun u t H2 locs2 hvm hK1 hP2 hD2 hS2 => ?_)
  obtain ⟨ad, fa, ca, cI, cR, cG⟩ := u
  obtain ⟨hK1, hq⟩ := hK1
  have hKx : va_K D vwCl (tyX cI cR cG) s := va_K.moved hvm.symm hK1
  have hq : ad 0 = q4 := hq
  rw [← hq]
  refine lv_astore_n (lv' := [(1, .ref (ad 0)), (0, .ref b)]) hx hb dL_law_7 rfl hl (by decide) rfl (fun ls hl => ?_)
  refine va_new (ci := 5) (fs := [.int 0, .null, .int 0, .null, .null, .int 0, .int 0, .int 0, .null, .null, .null, .null, .null, .int 0, .null, .int 0, .null, .int 0, .int 0, .null, .int 0, .null, .int 0, .int 0, .int 0, .int 0, .int 0, .int 0, .int 0, .int 0, .int 0, .int 0, .int 0, .long 0, .long 0]) (C := RX5) (T := TX5) (N := 35) hx hb hts2 inlX5 tyX5 tyX5_ok hown (hts2 _ law_cl10) (hts2 _ law_is5) (hts2 _ law_ii5) hKx hP2 hD2 hS2 hA rfl (fun j hj => by rcases (show j = 0 ∨ j = 1 ∨ j = 2 ∨ j = 3 ∨ j = 4 ∨ j = 5 ∨ j = 6 ∨ j = 7 ∨ j = 8 ∨ j = 9 ∨ j = 10 ∨ j = 11 ∨ j = 12 ∨ j = 13 ∨ j = 14 ∨ j = 15 ∨ j = 16 ∨ j = 17 ∨ j = 18 ∨ j = 19 ∨ j = 20 ∨ j = 21 ∨ j = 22 ∨ j = 23 ∨ j = 24 ∨ j = 25 ∨ j = 26 ∨ j = 27 ∨ j = 28 ∨ j = 29 ∨ j = 30 ∨ j = 31 ∨ j = 32 ∨ j = 33 ∨ j = 34 by omega) with rfl | rfl | rfl | rfl | rfl | rfl | rfl | rfl | rfl | rfl | rfl | rfl | rfl | rfl | rfl | rfl | rfl | rfl | rfl | rfl | rfl | rfl | rfl | rfl | rfl | rfl | rfl | rfl | rfl | rfl | rfl | rfl | rfl | rfl | rfl <;> rfl) (Nat.le_of_ble_eq_true rfl) (Nat.le_of_ble_eq_true rfl) dL_law_8 (fun h5 H hP hD hS => ?_)
  refine lv_dup hx hb dL_law_11 rfl ?_
  refine jPI (wa := WX ad fa ca (fun _ => 0) cI cR cG 0 0 0 0 0 0 0 (fun _ => 0) 0 0 0 (fun _ _ => 0) (fun _ _ => 0) 0 0 0 0 r.1 r.2.1 r.2.2.1 r.2.2.2.1 r.2.2.2.2.1 r.2.2.2.2.2.1 r.2.2.2.2.2.2 r.1 r.2.1 r.2.2.1 r.2.2.2.1 r.2.2.2.2.1 r.2.2.2.2.2.1 r.2.2.2.2.2.2 0 (fun _ _ => 0)) (wb := wM5 h5) (rest := [.ref h5]) C c5_init gL_law_X5_init law_ml5 law_ii5 law_im5 rfl hd5_init hK hN hO hOA hP hD hA hS rfl ⟨rfl, rfl⟩ ⟨Nat.le_of_ble_eq_true rfl, Nat.le_of_ble_eq_true rfl⟩ hl.1 rfl (Nat.le_of_ble_eq_true rfl) ⟨Nat.le_of_ble_eq_true rfl, Nat.le_of_ble_eq_true rfl⟩ dL_law_12 (fun u t H locs hvm hK1 hP hD hS => ?_)
  obtain ⟨am, cA⟩ := u
  have hKm : va_K D vwCl [(cA, .int)] s := va_K.moved hvm.symm hK1
  refine lv_astore_n (lv' := [(2, .ref h5), (1, .ref (ad 0)), (0, .ref b)]) hx hb dL_law_15 rfl hl (by decide) rfl (fun ls hl => ?_)
  refine lv_iconst (v := 0) hx hb dL_law_16 rfl ?_
  refine lv_istore_n (lv' := [(3, .int 0), (2, .ref h5), (1, .ref (ad 0)), (0, .ref b)]) hx hb dL_law_17 rfl hl (by decide) rfl (fun ls hl => ?_)
  have hLD : LD s (WX0 ad fa ca (fun _ => 0) cI cR cG 0) (WM0 h5 am cA) := va_D_congr (by rw [List.map_append, List.map_append, WX_map]; rfl) hD
  refine W.widen (k := 36 + 0) (n := 11327 + 7 * 0) (Nat.le_of_ble_eq_true rfl) (Nat.le_of_ble_eq_true rfl) ?_
  exact law_loop hL ⟨C, hN, hX, hbl⟩ hr hlocks hKx hKm (L + 1) 0 0 (by omega) (by omega) rfl 0 0 0 0 0 0 0 (fun _ => 0) 0 0 0 (fun _ _ => 0) (fun _ _ => 0) 0 0 0 0 r.1 r.2.1 r.2.2.1 r.2.2.2.1 r.2.2.2.2.1 r.2.2.2.2.2.1 r.2.2.2.2.2.2 r.1 r.2.1 r.2.2.1 r.2.2.2.1 r.2.2.2.2.1 r.2.2.2.2.2.1 r.2.2.2.2.2.2 0 (fun _ _ => 0) 0 (fun _ => 0) 0 (fun _ => 0) (fun _ => 0) 0 0 0 (fun _ => 0) (fun _ => 0) (fun _ => 0) (fun _ => 0) (fun _ => 0) 0 (fun _ => 0) 0 (fun _ => 0) 0 0 (fun _ => 0) 0 (fun _ => 0) 0 0 0 0 0 0 0 0 0 0 0 0 0 (fun _ => 0) H locs ls (lv_sub hl [3, 2, 1, 0] rfl) ⟨hP, hS⟩ hLD sim_init
-- ===== YOUR PART ENDS =====
set_option maxHeartbeats 4000000 in
theorem lw_walk (l : Launch) (hflags : l.flags = flags0) (b : Addr) (xs : List Int32) : MetFree l x (headSpec (Jvm.Cond.code x code maxLocals ret :: tables_1) room_1) (lw_P b xs) (fun _ _ _ _ _ => True) lw_Q := by
  refine MetFree.of_bodyS (code := code) (maxLocals := maxLocals) (ret := ret) (by decide) ?_ ?_
  · intro args s m h hn
    obtain ⟨meth, c, h1, h2, h3, h4, h5, h6, -, -⟩ := Cond.code_spec hn (atoms_spec (ws := Jvm.Cond.code x code maxLocals ret :: tables_1) h _ List.mem_cons_self)
    exact ⟨meth, c, h1, h2, h3, h4, h5, h6⟩
  · intro p e s m args below meth c s₁ B hml0 hP _
    obtain ⟨rfl, hx, hbd, hgv⟩ := hP
    obtain ⟨scr, harrAt, hlist, hof, hsmall⟩ := hx
    obtain ⟨hcb, hkn, -, -⟩ := State.arrayAt?_spec harrAt
    have hown : s.vm.findClass R_law = some m.cls := findClass_of_methodNamed B.named
    have hts0 : ∀ c ∈ (Jvm.Cond.code x code maxLocals ret :: tables_1), c.before #[Value.ref b] s = true := atoms_spec (ws := Jvm.Cond.code x code maxLocals ret :: tables_1) B.pre
    have hts : ∀ w ∈ lw_tbl, w.before #[Value.ref b] s = true := k2_hts_sels lw_privs (fun w hw => hts0 w (List.mem_cons_of_mem _ hw)) lw_privs_ok
    have hml : c.maxLocals = 4 := B.maxLocals_eq (hts0 _ List.mem_cons_self)
    have X₀ : Stand p l e room_1 s m #[Value.ref b] below meth c s₁ [] 0 0 := Stand.of_body B
    have hh0 : s₁.heap = s.heap := by rw [B.state]; rfl
    have hsz : scr.slots.size = xs.length := by rw [← Array.length_toList, hlist, List.length_map]
    have hval : ∀ j : Nat, j < xs.length → scr.slots[j]? = some (.int (xs.getD j 0)) := fun j hj => by
      rw [← Array.getElem?_toList, hlist]
      simp [hj]
    have hbl : b < s.heap.size := (Array.getElem?_eq_some_iff.mp hcb).1
    have hX : va_X b xs.length (fun j => xs.getD j 0) s s.heap := ⟨scr, hcb, hof, hkn, hsz, hval⟩
    have K : W p l e room_1 s m #[Value.ref b] below meth c s₁.heap [] 0 0 (lw_Z below #[Value.ref b] s) (entryFrame m ([Value.ref b] : List Value).toArray 4) := by
      rw [hh0]
      exact whole_start l hflags hbd ⟨B.exec, B.bytes, B.returns, hml, hown, hts, hX, hbl, B.notSynchronized, hgv⟩
    obtain ⟨t, a1, o, b1, b2, b3⟩ := K s₁ rfl X₀
    exact ⟨t, o, a1, b1, b2, b3⟩
theorem lw_pre_spec {args : Array Value} {s : State} (h : (Jvm.Cond.and given_1 narrow_1).before args s = true) (hr : rest_1_c.before args s = true) : ∃ (b : Addr) (xs : List Int32), lw_P b xs args s := by
  have hs := flat_of_before _ h
  have hq := flat_of_before _ hr
  have hc : (Cond.count 1).before args s = true := hs _ (by decide +kernel)
  have harr : (Cond.arrayOf (.arg 0) .int).before args s = true := hs _ (by decide +kernel)
  have hle : (Cond.le (.length (.arg 0)) (.int 2560)).before args s = true := hs _ (by decide +kernel)
  have hlen : (Cond.isInt (.length (.arg 0))).before args s = true := hq _ (by decide +kernel)
  have hall : (Cond.all (.arg 0) (.isInt (.elem (.arg 0) (.index 0)))).before args s = true := hq _ (by decide +kernel)
  obtain ⟨b, xs, hb, hx⟩ := State.ints_of_pre rfl harr hlen hall
  have hsm : xs.length < 2 ^ 31 := hx.choose_spec.2.2.2
  have hev : (Term.length (.arg 0)).eval args s none [] s = some (.int xs.length.toInt32) := hx.length_eval hb
  have hv := Cond.le_ints hev (show (Term.int 2560).eval args s none [] s = some (.int 2560) from rfl)
  have hd : xs.length.toInt32 ≤ 2560 := by
    simpa [Cond.before, Cond.holds, hv] using hle
  have hN : xs.length ≤ 2560 := (Int32.ofNat_le_ofNat hsm (by decide)).mp (show Int32.ofNat xs.length ≤ Int32.ofNat 2560 from hd)
  exact ⟨b, xs, Cond.one_arg hc (show args[0]? = some (.ref b) from hb), hx, hN, h⟩
theorem lw_comes (l : Launch) (hflags : l.flags = flags0) : Comes l x (Jvm.Cond.code x code maxLocals ret :: tables_1) room_1 (fun tb e args s => Calls_1 tb e args s ∧ rest_1 tb e args s ∧ Pre_1 tb e args s)
    (fun _ _ args s o t => lw_Q args s o t) := by
  intro p e ha hc hk s m args below hf hfit hheap happ hpre
  obtain ⟨b, xs, hP⟩ := lw_pre_spec hpre.2.2 hpre.2.1
  obtain ⟨k, o, h1, h2, h3, hQ⟩ := lw_walk l hflags b xs p e ha hc hk s m args below hf ((Spec.applies_iff_loose hf).mp happ).1 hP trivial
  exact ⟨k, o, h1, h2, h3, hQ⟩
theorem lw_frame {s t : State} {o : Outcome} {args : Array Value} (h : Framed s o t [] 600000 7302250) :
    Framed s o t (fieldLocs frame_1_writes args s ++ arrayLocs frame_1_arrays args s ++ staticLocs frame_1_statics s) 600000 7302250 := h
theorem lw_limb (L : Cond) (hL : ∀ (args : Array Value) (s t : State), L.after args s (.returned (some (.int 1))) t = true) :
    ArmFor flags0 classFile x code maxLocals ret World_1 tables_1 room_1 Calls_1 rest_1 Pre_1
      (fun tb e a s o t => postC L tb e a s o t ∧ Framed s o t (fieldLocs frame_1_writes a s ++ arrayLocs frame_1_arrays a s ++ staticLocs frame_1_statics s) 600000 7302250) := by
  intro l hflags _ _ p e ha hc hk s m args below hf hfit hheap happ hpre
  obtain ⟨k, o, h1, h2, h3, rfl, hF⟩ := lw_comes l hflags p e ha hc hk s m args below hf hfit hheap happ hpre
  exact ⟨k, _, h1, h2, h3, hL args s _, lw_frame hF⟩
theorem i_vc : Claimed_1_1 ∧ Claimed_1_2 := ⟨lw_limb limb_1_1 (fun args s t => by simp [limb_1_1, Cond.after, Cond.holds, Cond.value]), lw_limb limb_1_2 (fun args s t => Cond.after_iff.mpr (by
  first | (rw [show limb_1_2 = Cond.eq .result (.int 1) from rfl, Cond.eq_ints (x := 1) (y := 1) rfl rfl]; simp; done) | (simp [limb_1_2, Cond.value, Term.eval]; done)))⟩

