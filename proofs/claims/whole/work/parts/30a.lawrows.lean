def AL (s : State) : Nat → Prop := fun q => s.heap.size ≤ q
def LI (D : va_G) (s : State) (H : Heap) (locs : List Loc) (w : va_W) : Prop := va_P D vwCl w H ∧ va_S (AL s) s.heap H locs
def LD (s : State) (wa wb : va_W) : Prop := va_D (AL s) (wa ++ wb)
/-- what stays through the law: the machine, the words, the script -/
def LF (p : Program) (m : MethodId) (c : Code) (s : State) (b L : Nat) (xs : Nat → Int32) (args : Array Value) : Prop := CallFix p m c cL_law 4 s args wsL_law RL ∧ NW s ∧ va_X b L xs s s.heap ∧ b < s.heap.size
theorem hb_na {A : Nat → Prop} {D : va_G} {wz wy wb : va_W} {H : Heap} (hP : va_P D vwCl wb H) (hD : va_D A (wz ++ wy)) (e : wy.map (fun q => q.1) = wb.map (fun q => q.1)) : ∀ (i : Nat) (x : Nat × va_E), wy[i]? = some x → x.1 < H.size ∧ ¬ va_A wz H.size x.1 := fun i x hx => by
  have h1 : (wb.map (fun q => q.1))[i]? = some x.1 := by rw [← e, List.getElem?_map, hx]; rfl
  rw [List.getElem?_map] at h1
  cases hw : wb[i]? with
  | none => rw [hw] at h1; cases h1
  | some z =>
    rw [hw] at h1
    have h2 : z.1 = x.1 := Option.some.inj h1
    have hl : x.1 < H.size := by rw [← h2]; exact (hP i z hw).lt
    refine ⟨hl, fun q => ?_⟩
    rcases q with ⟨j, e2, hj⟩ | q
    · exact D_dis hD j i _ x hj hx rfl
    · omega
theorem hb_keep {A : Nat → Prop} {D : va_G} {wz wy wb : va_W} {H H1 : Heap} (hP : va_P D vwCl wb H) (hD : va_D A (wz ++ wy)) (e : wy.map (fun q => q.1) = wb.map (fun q => q.1)) (hk : ∀ q : Nat, q < H.size → ¬ va_A wz H.size q → H1[q]? = H[q]?) : va_P D vwCl wb H1 := fun i x hx => by
  have h1 : (wy.map (fun q => q.1))[i]? = some x.1 := by rw [e, List.getElem?_map, hx]; rfl
  rw [List.getElem?_map] at h1
  cases hw : wy[i]? with
  | none => rw [hw] at h1; cases h1
  | some z =>
    rw [hw] at h1
    have h2 : z.1 = x.1 := Option.some.inj h1
    obtain ⟨a1, a2⟩ := hb_na hP hD e i z hw
    rw [h2] at a1 a2
    exact (hP i x hx).kept (hk x.1 a1 a2)
section JL
variable {p : Program} {l : Launch} {e : Env} {R : Room} {s : State} {m : MethodId} {args : Array Value} {below : List Frame} {meth : Method} {c : Code} {H : Heap} {locs : List Loc} {cells slots : Nat} {Q : State → Prop}
variable {cc : ByteArray} {pc : Nat} {ls : Array Slot} {rest : List Value} {D : va_G} {nL : Nat} {Ts : List Cond} {own : String}
variable {y : MethodName} {bytes : ByteArray} {maxL n index : Nat} {ret : Option FieldType} {ws ws' : List Cond} {rm : Room} {As : List Value} {st0 : List Value} {tys : List (ClassId × FieldType)} {w0 w1 wz wb wy : va_W} {b : Addr}
theorem jLE_i {v : Int32} (C : CallFix p m c cc nL s args Ts own) (hM : Met l y ws rm (va_Pc (.ref b :: As) (PE D tys H.size wz w0)) (va_Qi (fun (x : Int32) (_ : Unit) => x = v) (fun _ t => va_P D vwCl w1 t.heap) (va_A wz H.size)) 0 0 (va_A wz H.size)) (G : GoodIn Ts (wsV own index y.cls y ws)) (hd : okD y n) (hK : va_K D vwCl tys s) (hN : NW s) (hD : LD s wz wy) (hy : wy.map (fun q => q.1) = wb.map (fun q => q.1)) (hI : LI D s H locs (w0 ++ wb)) (hrv : Recv w0 b y.cls) (hw : ws = Cond.code y bytes maxL ret :: ws') (hrc : rm.cells = 0 ∧ rm.slots = 0) (hR : rm.frames + 1 ≤ R.frames ∧ 8 + (maxL + 11) + rm.locals ≤ R.locals) (hn : As.length = n) (hls : ls.size = nL) (hst : st0 = As.reverse ++ .ref b :: rest) (hroom : (rest.map fun v => v.category).sum ≤ 8) (hcs : cells ≤ R.cells ∧ slots ≤ R.slots) (hdg : decode cc pc = .ok (.invokevirtual index, 3))
    (kk : ∀ (H1 : Heap) (locs1 : List Loc), LI D s H1 locs1 (w1 ++ wb) → W p l e R s m args below meth c H1 locs1 cells slots Q (F0 m (pc + 3) ls (.int v :: rest))) : W p l e R s m args below meth c H locs cells slots Q (F0 m pc ls st0) :=
  va_calli (va_runV (As := As) (rest := rest) C hM (cwV n C.2.2.2.2 G hw hrc.1 hrc.2 ⟨rfl, hd⟩ hR) ⟨blindE, j_recv hK (P_left hI.1) hrv, fun U hU hW => ⟨rfl, by rw [hU], by rw [hU]; exact P_left hI.1, va_K.moved hW.alike hK, hN.warm hW, (D_left hD).weaken (fun _ _ _ _ => trivial)⟩⟩ rfl hn hls hst (lv_room hroom) hdg ⟨hcs.1, hcs.2⟩) hI.2 (fun q _ h => j_freeE (D_left hD) (fun _ h => h) hI.2 q h) (j_freeE (D_left hD) (fun _ h => h) hI.2) (fun r _ t H1 locs1 ht _ hv hB _ hk hS => by subst hv; exact kk H1 locs1 ⟨va_P.app (by rw [← ht]; exact hB) (hb_keep (P_right hI.1) hD hy hk), hS⟩)
theorem jLE_l {v : Int64} (C : CallFix p m c cc nL s args Ts own) (hM : Met l y ws rm (va_Pc (.ref b :: As) (PE D tys H.size wz w0)) (va_Ql (fun (x : Int64) (_ : Unit) => x = v) (fun _ t => va_P D vwCl w1 t.heap) (va_A wz H.size)) 0 0 (va_A wz H.size)) (G : GoodIn Ts (wsV own index y.cls y ws)) (hd : okD y n) (hK : va_K D vwCl tys s) (hN : NW s) (hD : LD s wz wy) (hy : wy.map (fun q => q.1) = wb.map (fun q => q.1)) (hI : LI D s H locs (w0 ++ wb)) (hrv : Recv w0 b y.cls) (hw : ws = Cond.code y bytes maxL ret :: ws') (hrc : rm.cells = 0 ∧ rm.slots = 0) (hR : rm.frames + 1 ≤ R.frames ∧ 8 + (maxL + 11) + rm.locals ≤ R.locals) (hn : As.length = n) (hls : ls.size = nL) (hst : st0 = As.reverse ++ .ref b :: rest) (hroom : (rest.map fun v => v.category).sum ≤ 8) (hcs : cells ≤ R.cells ∧ slots ≤ R.slots) (hdg : decode cc pc = .ok (.invokevirtual index, 3))
    (kk : ∀ (H1 : Heap) (locs1 : List Loc), LI D s H1 locs1 (w1 ++ wb) → W p l e R s m args below meth c H1 locs1 cells slots Q (F0 m (pc + 3) ls (.long v :: rest))) : W p l e R s m args below meth c H locs cells slots Q (F0 m pc ls st0) :=
  va_calll (va_runV (As := As) (rest := rest) C hM (cwV n C.2.2.2.2 G hw hrc.1 hrc.2 ⟨rfl, hd⟩ hR) ⟨blindE, j_recv hK (P_left hI.1) hrv, fun U hU hW => ⟨rfl, by rw [hU], by rw [hU]; exact P_left hI.1, va_K.moved hW.alike hK, hN.warm hW, (D_left hD).weaken (fun _ _ _ _ => trivial)⟩⟩ rfl hn hls hst (lv_room hroom) hdg ⟨hcs.1, hcs.2⟩) hI.2 (fun q _ h => j_freeE (D_left hD) (fun _ h => h) hI.2 q h) (j_freeE (D_left hD) (fun _ h => h) hI.2) (fun r _ t H1 locs1 ht _ hv hB _ hk hS => by subst hv; exact kk H1 locs1 ⟨va_P.app (by rw [← ht]; exact hB) (hb_keep (P_right hI.1) hD hy hk), hS⟩)
theorem jRE_i {v : Int32} (C : CallFix p m c cc nL s args Ts own) (hM : Met l y ws rm (va_Pc (.ref b :: As) (PE D tys H.size wz w0)) (va_Qi (fun (x : Int32) (_ : Unit) => x = v) (fun _ t => va_P D vwCl w1 t.heap) (va_A wz H.size)) 0 0 (va_A wz H.size)) (G : GoodIn Ts (wsV own index y.cls y ws)) (hd : okD y n) (hK : va_K D vwCl tys s) (hN : NW s) (hD : LD s wy wz) (hy : wy.map (fun q => q.1) = wb.map (fun q => q.1)) (hI : LI D s H locs (wb ++ w0)) (hrv : Recv w0 b y.cls) (hw : ws = Cond.code y bytes maxL ret :: ws') (hrc : rm.cells = 0 ∧ rm.slots = 0) (hR : rm.frames + 1 ≤ R.frames ∧ 8 + (maxL + 11) + rm.locals ≤ R.locals) (hn : As.length = n) (hls : ls.size = nL) (hst : st0 = As.reverse ++ .ref b :: rest) (hroom : (rest.map fun v => v.category).sum ≤ 8) (hcs : cells ≤ R.cells ∧ slots ≤ R.slots) (hdg : decode cc pc = .ok (.invokevirtual index, 3))
    (kk : ∀ (H1 : Heap) (locs1 : List Loc), LI D s H1 locs1 (wb ++ w1) → W p l e R s m args below meth c H1 locs1 cells slots Q (F0 m (pc + 3) ls (.int v :: rest))) : W p l e R s m args below meth c H locs cells slots Q (F0 m pc ls st0) :=
  va_calli (va_runV (As := As) (rest := rest) C hM (cwV n C.2.2.2.2 G hw hrc.1 hrc.2 ⟨rfl, hd⟩ hR) ⟨blindE, j_recv hK (P_right hI.1) hrv, fun U hU hW => ⟨rfl, by rw [hU], by rw [hU]; exact P_right hI.1, va_K.moved hW.alike hK, hN.warm hW, (D_right hD).weaken (fun _ _ _ _ => trivial)⟩⟩ rfl hn hls hst (lv_room hroom) hdg ⟨hcs.1, hcs.2⟩) hI.2 (fun q _ h => j_freeE (D_right hD) (fun _ h => h) hI.2 q h) (j_freeE (D_right hD) (fun _ h => h) hI.2) (fun r _ t H1 locs1 ht _ hv hB _ hk hS => by subst hv; exact kk H1 locs1 ⟨va_P.app (hb_keep (P_left hI.1) (va_D_sw hD) hy hk) (by rw [← ht]; exact hB), hS⟩)
theorem jRE_l {v : Int64} (C : CallFix p m c cc nL s args Ts own) (hM : Met l y ws rm (va_Pc (.ref b :: As) (PE D tys H.size wz w0)) (va_Ql (fun (x : Int64) (_ : Unit) => x = v) (fun _ t => va_P D vwCl w1 t.heap) (va_A wz H.size)) 0 0 (va_A wz H.size)) (G : GoodIn Ts (wsV own index y.cls y ws)) (hd : okD y n) (hK : va_K D vwCl tys s) (hN : NW s) (hD : LD s wy wz) (hy : wy.map (fun q => q.1) = wb.map (fun q => q.1)) (hI : LI D s H locs (wb ++ w0)) (hrv : Recv w0 b y.cls) (hw : ws = Cond.code y bytes maxL ret :: ws') (hrc : rm.cells = 0 ∧ rm.slots = 0) (hR : rm.frames + 1 ≤ R.frames ∧ 8 + (maxL + 11) + rm.locals ≤ R.locals) (hn : As.length = n) (hls : ls.size = nL) (hst : st0 = As.reverse ++ .ref b :: rest) (hroom : (rest.map fun v => v.category).sum ≤ 8) (hcs : cells ≤ R.cells ∧ slots ≤ R.slots) (hdg : decode cc pc = .ok (.invokevirtual index, 3))
    (kk : ∀ (H1 : Heap) (locs1 : List Loc), LI D s H1 locs1 (wb ++ w1) → W p l e R s m args below meth c H1 locs1 cells slots Q (F0 m (pc + 3) ls (.long v :: rest))) : W p l e R s m args below meth c H locs cells slots Q (F0 m pc ls st0) :=
  va_calll (va_runV (As := As) (rest := rest) C hM (cwV n C.2.2.2.2 G hw hrc.1 hrc.2 ⟨rfl, hd⟩ hR) ⟨blindE, j_recv hK (P_right hI.1) hrv, fun U hU hW => ⟨rfl, by rw [hU], by rw [hU]; exact P_right hI.1, va_K.moved hW.alike hK, hN.warm hW, (D_right hD).weaken (fun _ _ _ _ => trivial)⟩⟩ rfl hn hls hst (lv_room hroom) hdg ⟨hcs.1, hcs.2⟩) hI.2 (fun q _ h => j_freeE (D_right hD) (fun _ h => h) hI.2 q h) (j_freeE (D_right hD) (fun _ h => h) hI.2) (fun r _ t H1 locs1 ht _ hv hB _ hk hS => by subst hv; exact kk H1 locs1 ⟨va_P.app (hb_keep (P_left hI.1) (va_D_sw hD) hy hk) (by rw [← ht]; exact hB), hS⟩)
theorem jLG_i {w1 wz1 : (Nat → Nat) → va_W} {v : Int32} (C : CallFix p m c cc nL s args Ts own) (hM : Met l y ws rm (va_Pc (.ref b :: As) (PE D tys H.size wz w0)) (va_Qi (fun (x : Int32) (_ : Nat → Nat) => x = v) (fun u t => va_P D vwCl (w1 u) t.heap ∧ va_D (va_A wz H.size) (wz1 u)) (va_A wz H.size)) 1 7 (va_A wz H.size)) (G : GoodIn Ts (wsV own index y.cls y ws)) (hd : okD y n) (hK : va_K D vwCl tys s) (hN : NW s) (hD : LD s wz wy) (hy : wy.map (fun q => q.1) = wb.map (fun q => q.1)) (hI : LI D s H locs (w0 ++ wb)) (hrv : Recv w0 b y.cls) (hw : ws = Cond.code y bytes maxL ret :: ws') (hrc : rm.cells = 1 ∧ rm.slots = 7) (hR : rm.frames + 1 ≤ R.frames ∧ 8 + (maxL + 11) + rm.locals ≤ R.locals) (hn : As.length = n) (hls : ls.size = nL) (hst : st0 = As.reverse ++ .ref b :: rest) (hroom : (rest.map fun v => v.category).sum ≤ 8) (hcs : cells + 1 ≤ R.cells ∧ slots + 7 ≤ R.slots) (hdg : decode cc pc = .ok (.invokevirtual index, 3))
    (kk : ∀ (u : Nat → Nat) (H1 : Heap) (locs1 : List Loc), LD s (wz1 u) wy → LI D s H1 locs1 (w1 u ++ wb) → W p l e R s m args below meth c H1 locs1 (cells + 1) (slots + 7) Q (F0 m (pc + 3) ls (.int v :: rest))) : W p l e R s m args below meth c H locs cells slots Q (F0 m pc ls st0) :=
  va_calli (va_runV (As := As) (rest := rest) C hM (cwV n C.2.2.2.2 G hw hrc.1 hrc.2 ⟨rfl, hd⟩ hR) ⟨blindE, j_recv hK (P_left hI.1) hrv, fun U hU hW => ⟨rfl, by rw [hU], by rw [hU]; exact P_left hI.1, va_K.moved hW.alike hK, hN.warm hW, (D_left hD).weaken (fun _ _ _ _ => trivial)⟩⟩ rfl hn hls hst (lv_room hroom) hdg hcs) hI.2 (fun q _ h => j_freeE (D_left hD) (fun _ h => h) hI.2 q h) (j_freeE (D_left hD) (fun _ h => h) hI.2) (fun r u t H1 locs1 ht _ hv hB _ hk hS => by
    subst hv
    refine kk u H1 locs1 (va_D.app (hB.2.weaken (fun _ q _ h => j_freeE (D_left hD) (fun _ h => h) hI.2 q.1 h)) (D_right hD) (fun i j x y hx hy2 hxy => ?_)) ⟨va_P.app (by rw [← ht]; exact hB.1) (hb_keep (P_right hI.1) hD hy hk), hS⟩
    exact (hb_na (P_right hI.1) hD hy j y hy2).2 (by rw [← hxy]; exact hB.2.2 i x hx))
end JL
theorem lgc_self (x : Int64) : lg_cmp x x = 0 := by
  unfold lg_cmp
  simp
section LM
variable {ad fa ca wad : Nat → Nat} {cI cR cG : ClassId}
variable {v_roadCount v_readings v_psize v_good v_pbits v_letters v_afterLetter v_disc v_rsize v_cycleCount v_closed v_traces v_crossings v_db_bits v_db_size v_db_allBits v_db_a v_db_b v_db_c v_db_d v_dn_bits v_dn_size v_dn_allBits v_dn_a v_dn_b v_dn_c v_dn_d : Int32}
variable {v_s : Int64}
variable {v_codes : Nat → Int32}
variable {v_fo v_cy v_wv : Nat → Nat → Int32}
variable {v_wn : Nat}
theorem WX_map : (WX0 ad fa ca wad cI cR cG v_wn).map (fun q => q.1) = (WX ad fa ca wad cI cR cG v_roadCount v_readings v_psize v_good v_pbits v_letters v_afterLetter v_codes v_disc v_rsize v_cycleCount v_fo v_cy v_s v_closed v_traces v_crossings v_db_bits v_db_size v_db_allBits v_db_a v_db_b v_db_c v_db_d v_dn_bits v_dn_size v_dn_allBits v_dn_a v_dn_b v_dn_c v_dn_d v_wn v_wv).map (fun q => q.1) := by
  simp [WX0, WX, WXh, irow, wrow, Function.comp_def]
end LM
