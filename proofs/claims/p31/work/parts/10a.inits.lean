/-- an array class whose components are arrays, by the tables -/
def va_AOA (t : FieldType) (U : State) : Prop := (Cond.arrayOver (.array t)).before #[] U = true
theorem va_AOA.of {t : FieldType} {A : Array Value} {U : State} (h : (Cond.arrayOver (.array t)).before A U = true) : va_AOA t U := h
theorem va_AOA.use {t : FieldType} {A : Array Value} {U : State} (h : va_AOA t U) : (Cond.arrayOver (.array t)).before A U = true := h
/-! ===== BEGIN new T[n][m]: the outer array a place, the inner ones among the pooled ===== -/
/-- f, but v at every address of l -/
def vr_up {α : Type} (f : Nat → α) (l : List Nat) (v : α) : Nat → α := fun a => if a ∈ l then v else f a
theorem vr_up_in {α : Type} {f : Nat → α} {l : List Nat} {v : α} {a : Nat} (h : a ∈ l) : vr_up f l v a = v := if_pos h
theorem vr_up_ne {α : Type} {f : Nat → α} {l : List Nat} {v : α} {a : Nat} (h : a ∉ l) : vr_up f l v a = f a := if_neg h
theorem vr_rows {L l : List Nat} {f : Nat → va_E} {e : va_E} (h : ∀ a, a ∈ l → a ∉ L) : va_pl L f ++ l.map (fun a => (a, e)) = va_pl (L ++ l) (vr_up f l e) := by
  unfold va_pl
  rw [List.map_append]
  congr 1
  · apply List.map_congr_left
    intro a ha
    rw [vr_up_ne (fun q => h a q ha)]
  · apply List.map_congr_left
    intro a ha
    rw [vr_up_in ha]
theorem vr_lay {X rows : va_W} {x : Nat × va_E} {pl : va_W} {D : va_G} {cl : List vw_C} {H : Heap} (hP : va_P D cl (((X ++ pl) ++ [x]) ++ rows) H) : va_P D cl ((X ++ [x]) ++ (pl ++ rows)) H := by
  rw [List.append_assoc (X ++ pl)] at hP
  have h := va_P.swap hP
  rw [← List.append_assoc X] at h
  have h2 := va_P.swap h
  rw [List.append_assoc (X ++ [x])] at h2
  exact h2
theorem vr_layD {X rows : va_W} {x : Nat × va_E} {pl : va_W} {A : Nat → Prop} (hD : va_D A (((X ++ pl) ++ [x]) ++ rows)) : va_D A ((X ++ [x]) ++ (pl ++ rows)) := by
  rw [List.append_assoc (X ++ pl)] at hD
  have h := va_D.swap hD
  rw [← List.append_assoc X] at h
  have h2 := va_D.swap h
  rw [List.append_assoc (X ++ [x])] at h2
  exact h2
theorem vr_outer (c : ClassId) (N h0 : Nat) : ∀ i : Nat, Jvm.Free.Multi.outerC c N h0 i = arrV c N (fun j => va_rf (if j < i then some (h0 + 1 + j) else none))
  | 0 => by
    show ({ cls := c, slots := Array.replicate N .null, vm := .none } : Cell) = _
    rw [arrV_new]
    refine congrArg (arrV c N) (funext fun j => ?_)
    simp [va_rf]
  | i + 1 => by
    show (Jvm.Free.Multi.outerC c N h0 i).setSlot i (.ref (h0 + 1 + i)) = _
    rw [vr_outer c N h0 i, arrV_store]
    refine congrArg (arrV c N) (funext fun j => ?_)
    by_cases e : j = i
    · subst e
      simp [updV, va_rf]
    · by_cases h : j < i
      · simp [updV, e, h, Nat.lt_succ_of_lt h]
      · simp [updV, e, h, show ¬ j < i + 1 by omega]
section VGM
variable {p : Program} {l : Launch} {e : Env} {R : Room} {s : State} {m : MethodId} {args : Array Value} {below : List Frame} {meth : Method} {c : Code} {H : Heap} {locs : List Loc} {cells slots : Nat} {Q : State → Prop}
variable {cc : ByteArray} {pc : Nat} {ls : Array Slot} {rest : List Value} {D : va_G} {cl : List vw_C} {A : Nat → Prop} {a : Nat} {tys : List (ClassId × FieldType)} {ws : va_W} {H0 : Heap}
theorem va_mna {X : va_W} {L : List Nat} {f : Nat → va_E} {cc : ByteArray} (hexec : p.tables.exec = Jvm.exec) (hb : c.code = cc) {own : String} {index : Nat} {ty : FieldType} {cy : ClassId} (hown : s.vm.findClass own = some m.cls) (hclink : (Cond.classLink own index ("[" ++ (FieldType.array ty).toString)).before args s = true) (hover : va_AOA ty s) (harr : (Cond.arrayClass ty).before args s = true) (hcy : s.vm.findClass (FieldType.array ty).toString = some cy)
    (hK : va_K D cl tys s) (hP : va_P D cl (X ++ va_pl L f) H) (hD : va_D A (X ++ va_pl L f)) (hS : va_S A H0 H locs) (hA : ∀ q, H0.size ≤ q → A q) {n k : Int32} {N' K' : Nat} {z : vp_A} (hn : ¬ n < 0) (hk : ¬ k < 0) (hN : n.toNatClampNeg = N') (hM : k.toNatClampNeg = K')
    (hb1 : N' * 4 ≤ 536870912) (hb2 : K' * componentBytes ty ≤ 536870912) (hb3 : K' ≤ 536870912) (hdf : fits ty (defaultValue ty) = true) (hdd : (defaultValue ty).isDefault = true) (hcells : cells + (1 + N') ≤ R.cells) (hslots : slots + (N' + N' * K') ≤ R.slots) (hz : ∀ c : ClassId, Jvm.Free.Multi.innerC c K' (defaultValue ty) = vp_cell c z) (hdg : decode cc pc = .ok (.multianewarray index 2, 4))
    (kk : ∀ (q : Nat) (r : Nat → Nat) (cA : ClassId) (H1 : Heap), (∀ i j : Nat, i < N' → j < N' → r i = r j → i = j) → (∀ i : Nat, i < N' → r i ∉ L) → va_K D cl (tys ++ [(cA, .array ty)]) s →
      va_P D cl ((X ++ [(q, .inl (cA, N', .inr (.inr (.inr (.inr (fun i => if i < N' then some (r i) else none))))))]) ++ va_pl (L ++ (List.range N').map r) (vr_up f ((List.range N').map r) (.inl (cy, z)))) H1 → va_D A ((X ++ [(q, .inl (cA, N', .inr (.inr (.inr (.inr (fun i => if i < N' then some (r i) else none))))))]) ++ va_pl (L ++ (List.range N').map r) (vr_up f ((List.range N').map r) (.inl (cy, z)))) → va_S A H0 H1 locs →
      W p l e R s m args below meth c H1 locs (cells + 1 + N') (slots + N' + N' * K') Q (F0 m (pc + 4) ls (.ref q :: rest))) : W p l e R s m args below meth c H locs cells slots Q (F0 m pc ls (.int k :: .int n :: rest)) := by
  subst hN
  subst hM
  intro T hT Xs
  obtain ⟨vm₁, cA, comp, -, fA, fC, hO, -, X', step⟩ := Xs.multianewarray2F hexec hown hclink (va_AOA.use hover) harr (g := F0 m pc ls (.int k :: .int n :: rest)) rfl (by rw [hb]; exact hdg) rfl hn hk hb1 hb2 hb3 hdf hdd hcells hslots
  have ec : some cy = some comp := hcy.symm.trans fC
  cases ec
  generalize hF : Jvm.Free.Multi.fill (T.setVm vm₁) cA cy n.toNatClampNeg k.toNatClampNeg (defaultValue ty) n.toNatClampNeg = F at X' step
  have hTh : (T.setVm vm₁).heap = H := hT
  obtain ⟨f1, f2, -, -⟩ := Jvm.Free.Multi.fill_facts (T.setVm vm₁) cA cy n.toNatClampNeg k.toNatClampNeg (defaultValue ty) n.toNatClampNeg
  rw [hF, hTh] at f1 f2
  have hold : ∀ x : Nat, x < H.size → F.heap[x]? = H[x]? := fun x hx => by
    have := Jvm.Free.Multi.fill_old (T.setVm vm₁) cA cy n.toNatClampNeg k.toNatClampNeg (defaultValue ty) (a := x) (by rw [hTh]; exact hx) n.toNatClampNeg
    rw [hF, hTh] at this
    exact this
  have hrow : ∀ j : Nat, j < n.toNatClampNeg → F.heap[H.size + 1 + j]? = some (vp_cell cy z) := fun j hj => by
    have := Jvm.Free.Multi.fill_inner (T.setVm vm₁) cA cy n.toNatClampNeg k.toNatClampNeg (defaultValue ty) n.toNatClampNeg j hj
    rw [hF, hTh, hz] at this
    exact this
  have hout : Jvm.Free.Multi.outerC cA n.toNatClampNeg H.size n.toNatClampNeg = vp_cell cA (n.toNatClampNeg, .inr (.inr (.inr (.inr (fun i => if i < n.toNatClampNeg then some (H.size + 1 + i) else none))))) := by
    rw [vp_cell_q]
    exact vr_outer cA n.toNatClampNeg H.size n.toNatClampNeg
  rw [hout] at f2
  have hlt : ∀ a, a ∈ L → a < H.size := fun a ha => by
    obtain ⟨k9, hk9⟩ := va_pl_get (X := X) (f := f) ha
    exact (hP k9 _ hk9).lt
  have hnl : ∀ i : Nat, i < n.toNatClampNeg → H.size + 1 + i ∉ L := fun i _ h => by
    have := hlt _ h
    omega
  have hnm : ∀ a, a ∈ (List.range n.toNatClampNeg).map (fun i => H.size + 1 + i) → a ∉ L := fun a ha h => by
    obtain ⟨i, -, rfl⟩ := List.mem_map.mp ha
    have := hlt _ h
    omega
  have hP0 : va_P D cl (X ++ va_pl L f) F.heap := hP.kept (fun k9 x hx => hold x.1 ((hP k9 x hx).lt))
  have hP1 : va_P D cl ((X ++ va_pl L f) ++ [(H.size, .inl (cA, n.toNatClampNeg, .inr (.inr (.inr (.inr (fun i => if i < n.toNatClampNeg then some (H.size + 1 + i) else none))))))]) F.heap := hP0.app (fun k9 x hx => by
    have h0 : k9 < 1 := (List.getElem?_eq_some_iff.mp hx).1
    rw [show k9 = 0 by omega] at hx
    cases hx
    exact f2)
  have hP2 : va_P D cl (((X ++ va_pl L f) ++ [(H.size, .inl (cA, n.toNatClampNeg, .inr (.inr (.inr (.inr (fun i => if i < n.toNatClampNeg then some (H.size + 1 + i) else none))))))]) ++ ((List.range n.toNatClampNeg).map (fun i => H.size + 1 + i)).map (fun a => (a, .inl (cy, z)))) F.heap := hP1.app (fun k9 x hx => by
    obtain ⟨a, ha, rfl⟩ := List.mem_map.mp (List.mem_of_getElem? hx)
    obtain ⟨i, hi, rfl⟩ := List.mem_map.mp ha
    exact hrow i (List.mem_range.mp hi))
  have hD2 : va_D A (((X ++ va_pl L f) ++ [(H.size, .inl (cA, n.toNatClampNeg, .inr (.inr (.inr (.inr (fun i => if i < n.toNatClampNeg then some (H.size + 1 + i) else none))))))]) ++ ((List.range n.toNatClampNeg).map (fun i => H.size + 1 + i)).map (fun a => (a, .inl (cy, z)))) := by
    have hD1 := hD.push (e := .inl (cA, n.toNatClampNeg, .inr (.inr (.inr (.inr (fun i => if i < n.toNatClampNeg then some (H.size + 1 + i) else none)))))) hP rfl (hA _ hS.1)
    generalize hW1 : (X ++ va_pl L f) ++ [(H.size, .inl (cA, n.toNatClampNeg, .inr (.inr (.inr (.inr (fun i => if i < n.toNatClampNeg then some (H.size + 1 + i) else none))))))] = W1 at hD1 hP1 ⊢
    have hle : ∀ (k9 : Nat) (x : Nat × va_E), W1[k9]? = some x → x.1 ≤ H.size := fun k9 x hx => by
      rw [← hW1] at hx
      by_cases hl : k9 < (X ++ va_pl L f).length
      · rw [List.getElem?_append_left hl] at hx
        exact Nat.le_of_lt ((hP k9 x hx).lt)
      · rw [List.getElem?_append_right (by omega)] at hx
        have h0 : k9 - (X ++ va_pl L f).length < 1 := (List.getElem?_eq_some_iff.mp hx).1
        rw [show k9 - (X ++ va_pl L f).length = 0 by omega] at hx
        cases hx
        exact Nat.le_refl _
    have hr : ∀ (k9 : Nat) (x : Nat × va_E), (((List.range n.toNatClampNeg).map (fun i => H.size + 1 + i)).map (fun a => ((a, .inl (cy, z)) : Nat × va_E)))[k9]? = some x → x.1 = H.size + 1 + k9 := fun k9 x hx => by
      rw [List.getElem?_map, List.getElem?_map] at hx
      by_cases h9 : k9 < n.toNatClampNeg
      · rw [List.getElem?_range h9] at hx
        cases hx
        rfl
      · have hn0 : (List.range n.toNatClampNeg)[k9]? = none := List.getElem?_eq_none (by rw [List.length_range]; omega)
        rw [hn0] at hx
        cases hx
    refine ⟨fun i j x y hi hj hxy => ?_, fun k9 x hx => ?_⟩
    · by_cases h1 : i < W1.length <;> by_cases h2 : j < W1.length
      · rw [List.getElem?_append_left h1] at hi
        rw [List.getElem?_append_left h2] at hj
        exact hD1.1 i j x y hi hj hxy
      · rw [List.getElem?_append_left h1] at hi
        rw [List.getElem?_append_right (by omega)] at hj
        have := hle _ _ hi
        have := hr _ _ hj
        omega
      · rw [List.getElem?_append_right (by omega)] at hi
        rw [List.getElem?_append_left h2] at hj
        have := hle _ _ hj
        have := hr _ _ hi
        omega
      · rw [List.getElem?_append_right (by omega)] at hi hj
        have := hr _ _ hi
        have := hr _ _ hj
        omega
    · by_cases h1 : k9 < W1.length
      · rw [List.getElem?_append_left h1] at hx
        exact hD1.2 k9 x hx
      · rw [List.getElem?_append_right (by omega)] at hx
        have := hr _ _ hx
        exact hA _ (by have := hS.1; omega)
  have hAr : ArrOfT s cA (.array ty) := fun N9 z9 => by
    obtain ⟨-, k9, hk9, cm9, hkk9⟩ := (hO 0 0 0).1
    exact ⟨(fun q hq => by cases hq), k9, hk9, cm9, hkk9⟩
  have hK2 : va_K D cl (tys ++ [(cA, .array ty)]) s := ⟨hK.1, fun k9 x hx => by
    by_cases hl : k9 < tys.length
    · rw [List.getElem?_append_left hl] at hx
      exact hK.2 k9 x hx
    · rw [List.getElem?_append_right (by omega)] at hx
      have h0 : k9 - tys.length < 1 := (List.getElem?_eq_some_iff.mp hx).1
      rw [show k9 - tys.length = 0 by omega] at hx
      cases hx
      exact ⟨hAr, fA⟩⟩
  obtain ⟨t, a1, b1⟩ := kk H.size (fun i => H.size + 1 + i) cA F.heap (fun i j _ _ h => by have h9 : H.size + 1 + i = H.size + 1 + j := h; omega) hnl hK2 (by rw [← vr_rows hnm]; exact vr_lay hP2) (by rw [← vr_rows hnm]; exact vr_layD hD2) ⟨by rw [f1]; have := hS.1; omega, fun x h1 h2 => (hold x (Nat.lt_of_lt_of_le h1 hS.1)).trans (hS.2.1 x h1 h2), hS.2.2⟩ F rfl X'
  refine ⟨t, step t ?_, b1⟩
  have e : T.heap.size = H.size := by rw [hT]
  rw [e]
  exact a1
end VGM
/-! ===== END ===== -/

-- CONSTRUCTORS: starts that know of the tables' arrays too; what is made comes with its class
def PI (D : va_G) (tys : List (ClassId × FieldType)) (sz : Nat) (w : va_W) : State → Prop := fun U => U.heap.size = sz ∧ va_P D vwCl w U.heap ∧ va_K D vwCl tys U ∧ NW U ∧ va_AO RX3 U ∧ va_AOA .int U ∧ va_D (fun _ => True) w
theorem aoa_moved {t : FieldType} {u U : State} (h : u.vm.Alike U.vm) (hz : va_AOA t u) : va_AOA t U := over_moved h hz
theorem blindI {D : va_G} {tys : List (ClassId × FieldType)} {sz : Nat} {w : va_W} {av : List Value} : FrameBlind (va_Pc av (PI D tys sz w)) := fun a U g mk q => by
  obtain ⟨q0, q1, qP, qK, qN, qo, qa, qD⟩ := q
  exact ⟨q0, q1, qP, va_K.moved (u := U) (U := U.calling g mk a) (Vm.Alike.refl U.vm) qK, NW.same rfl qN, va_AO.moved (u := U) (U := U.calling g mk a) (Vm.Alike.refl U.vm) qo, aoa_moved (u := U) (U := U.calling g mk a) (Vm.Alike.refl U.vm) qa, qD⟩
theorem I_in {l : Launch} {y : MethodName} {ws ws' : List Cond} {rm : Room} {cc : ByteArray} {maxL : Nat} {D : va_G} {tys : List (ClassId × FieldType)} {w0 : va_W} {sz mc ms : Nat} {av : List Value} {Qc : Array Value → State → Outcome → State → Prop} {free : Addr → Prop} (hy : plainName y.cls = true) (hw : ws = Cond.code y cc maxL none :: ws') (hlen : (lg_sl av).length ≤ maxL)
    (body : ∀ (p : Program) (e : Env) (s : State) (m : MethodId) (args : Array Value) (below : List Frame) (meth : Method) (c : Code) (ls : Array Slot) (Q : State → Prop), Q = MQ below Qc args s mc ms free → CallFix p m c cc maxL s args ws y.cls → meth.name = y.name → meth.sig.returnType = none → meth.locks = false → va_K D vwCl tys s → NW s → va_AO RX3 s → va_AOA .int s → va_D (va_A w0 sz) w0 → (∀ q : Nat, s.heap.size ≤ q → va_A w0 sz q) → va_P D vwCl w0 s.heap → va_S (va_A w0 sz) s.heap s.heap [] → lv_has ls maxL (lv_args 0 av) → W p l e rm s m args below meth c s.heap [] 0 0 Q (F0 m 0 ls [])) : Met l y ws rm (va_Pc av (PI D tys sz w0)) Qc mc ms free := by
  refine Met.ofW (cc := cc) (maxL := maxL) (ret := none) hy hw ?_
  intro p e s m args below meth c s₁ B hml hv
  obtain ⟨rfl, hsz, hP, hK, hN, hO, hOA, hD0⟩ := hv
  have hts := atoms_spec (ws := ws) B.pre
  have hown : s.vm.findClass y.cls = some m.cls := findClass_of_methodNamed B.named
  rw [lg_entry_eq]
  exact body p e s m _ below meth c _ _ rfl ⟨B.exec, B.bytes, hml, hown, hts⟩ (name_of_methodNamed B.named B.method).1 B.returns B.notSynchronized hK hN hO hOA hD0.self (fun q h => Or.inr (by rw [← hsz]; exact h)) hP va_S.rf (lv_entry av hlen)
/-- an array class is one: two that the tables name alike are the same -/
theorem K_same {D : va_G} {cl : List vw_C} {tys : List (ClassId × FieldType)} {cA cB : ClassId} {s : State} {k : Nat} (hK : va_K D cl (tys ++ [(cB, .int)]) s) (hk : tys[k]? = some (cA, .int)) : cB = cA := by
  have h1 : s.vm.findClass ("[" ++ FieldType.int.toString) = some cB := (hK.2 tys.length (cB, .int) get_last).2
  have h2 : s.vm.findClass ("[" ++ FieldType.int.toString) = some cA := (hK.2 k (cA, .int) (by rw [List.getElem?_append_left (List.getElem?_eq_some_iff.mp hk).1]; exact hk)).2
  rw [h1] at h2
  exact Option.some.inj h2
theorem K_same2 {D : va_G} {cl : List vw_C} {tys : List (ClassId × FieldType)} {cA cB : ClassId} {s : State} {k : Nat} (hK : va_K D cl (tys ++ [(cB, .array .int)]) s) (hk : tys[k]? = some (cA, .array .int)) : cB = cA := by
  have h1 : s.vm.findClass ("[" ++ (FieldType.array .int).toString) = some cB := (hK.2 tys.length (cB, .array .int) get_last).2
  have h2 : s.vm.findClass ("[" ++ (FieldType.array .int).toString) = some cA := (hK.2 k (cA, .array .int) (by rw [List.getElem?_append_left (List.getElem?_eq_some_iff.mp hk).1]; exact hk)).2
  rw [h1] at h2
  exact Option.some.inj h2
theorem K_left {D : va_G} {cl : List vw_C} {t1 t2 : List (ClassId × FieldType)} {s : State} (hK : va_K D cl (t1 ++ t2) s) : va_K D cl t1 s := ⟨hK.1, fun k q h => hK.2 k q (by rw [List.getElem?_append_left (List.getElem?_eq_some_iff.mp h).1]; exact h)⟩
/-- a callee's world beside another one -/
theorem two_R {D : va_G} {cl : List vw_C} {A : Nat → Prop} {wa wb wb' : va_W} {H H1 : Heap} (hP : va_P D cl (wa ++ wb) H) (hD : va_D A (wa ++ wb)) (hF : ∀ q : Nat, va_A wb H.size q → A q) (hk : ∀ q : Nat, q < H.size → ¬ va_A wb H.size q → H1[q]? = H[q]?) (hP1 : va_P D cl wb' H1) (hD1 : va_D (va_A wb H.size) wb') : va_P D cl (wa ++ wb') H1 ∧ va_D A (wa ++ wb') := by
  have ga : ∀ (i : Nat) (x : Nat × va_E), wa[i]? = some x → (wa ++ wb)[i]? = some x := fun i x h => by
    rw [List.getElem?_append_left (List.getElem?_eq_some_iff.mp h).1]
    exact h
  have gb : ∀ (i : Nat) (x : Nat × va_E), wb[i]? = some x → (wa ++ wb)[wa.length + i]? = some x := fun i x h => by
    rw [List.getElem?_append_right (Nat.le_add_right _ _), Nat.add_sub_cancel_left]
    exact h
  have na : ∀ (i : Nat) (x : Nat × va_E), wa[i]? = some x → x.1 < H.size ∧ ¬ va_A wb H.size x.1 := fun i x h => by
    have hl := (hP i x (ga i x h)).lt
    refine ⟨hl, fun q => ?_⟩
    rcases q with ⟨j, e, hj⟩ | q
    · have h1 := hD.1 i (wa.length + j) x (x.1, e) (ga i x h) (gb j _ hj) rfl
      have h2 := (List.getElem?_eq_some_iff.mp h).1
      omega
    · omega
  refine ⟨va_P.app (fun k x hx => ?_) hP1, va_D.app ⟨fun i j x y hx hy hxy => hD.1 i j x y (ga i x hx) (ga j y hy) hxy, fun k x hx => hD.2 k x (ga k x hx)⟩ (hD1.weaken (fun k x _ h => hF x.1 h)) (fun i j x y hx hy hxy => ?_)⟩
  · exact (hP k x (ga k x hx)).kept (hk x.1 (na k x hx).1 (na k x hx).2)
  · exact (na i x hx).2 (by rw [hxy]; exact hD1.2 j y hy)
theorem va_P_sw {D : va_G} {cl : List vw_C} {a b : va_W} {H : Heap} (h : va_P D cl (a ++ b) H) : va_P D cl (b ++ a) H := va_P_mem (fun e he => List.mem_append.mpr ((List.mem_append.mp he).symm)) h
theorem va_D_sw {A : Nat → Prop} {a b : va_W} (h : va_D A (a ++ b)) : va_D A (b ++ a) := by
  have f : ∀ (i : Nat) (x : Nat × va_E), (b ++ a)[i]? = some x → ∃ j, (a ++ b)[j]? = some x ∧ ((i < b.length ∧ j = a.length + i) ∨ (b.length ≤ i ∧ j + b.length = i ∧ j < a.length)) := fun i x hx => by
    by_cases hi : i < b.length
    · rw [List.getElem?_append_left hi] at hx
      exact ⟨a.length + i, by rw [List.getElem?_append_right (Nat.le_add_right _ _), Nat.add_sub_cancel_left]; exact hx, Or.inl ⟨hi, rfl⟩⟩
    · rw [List.getElem?_append_right (Nat.le_of_not_lt hi)] at hx
      have h2 := (List.getElem?_eq_some_iff.mp hx).1
      exact ⟨i - b.length, by rw [List.getElem?_append_left h2]; exact hx, Or.inr ⟨by omega, by omega, h2⟩⟩
  refine ⟨fun i j x y hx hy hxy => ?_, fun k x hx => ?_⟩
  · obtain ⟨i2, h1, h2⟩ := f i x hx
    obtain ⟨j2, h3, h4⟩ := f j y hy
    have := h.1 i2 j2 x y h1 h3 hxy
    omega
  · obtain ⟨k2, h1, -⟩ := f k x hx
    exact h.2 k2 x h1
theorem two_L {D : va_G} {cl : List vw_C} {A : Nat → Prop} {wa wb wa' : va_W} {H H1 : Heap} (hP : va_P D cl (wa ++ wb) H) (hD : va_D A (wa ++ wb)) (hF : ∀ q : Nat, va_A wa H.size q → A q) (hk : ∀ q : Nat, q < H.size → ¬ va_A wa H.size q → H1[q]? = H[q]?) (hP1 : va_P D cl wa' H1) (hD1 : va_D (va_A wa H.size) wa') : va_P D cl (wa' ++ wb) H1 ∧ va_D A (wa' ++ wb) := by
  obtain ⟨h1, h2⟩ := two_R (va_P_sw hP) (va_D_sw hD) hF hk hP1 hD1
  exact ⟨va_P_sw h1, va_D_sw h2⟩
theorem P_left {D : va_G} {cl : List vw_C} {a b : va_W} {H : Heap} (h : va_P D cl (a ++ b) H) : va_P D cl a H := va_P_mem (fun _ he => List.mem_append_left _ he) h
theorem P_right {D : va_G} {cl : List vw_C} {a b : va_W} {H : Heap} (h : va_P D cl (a ++ b) H) : va_P D cl b H := va_P_mem (fun _ he => List.mem_append_right _ he) h
theorem D_left {A : Nat → Prop} {a b : va_W} (h : va_D A (a ++ b)) : va_D A a := ⟨fun i j x y hx hy hxy => h.1 i j x y (by rw [List.getElem?_append_left (w_lt hx)]; exact hx) (by rw [List.getElem?_append_left (w_lt hy)]; exact hy) hxy, fun k x hx => h.2 k x (by rw [List.getElem?_append_left (w_lt hx)]; exact hx)⟩
theorem D_right {A : Nat → Prop} {a b : va_W} (h : va_D A (a ++ b)) : va_D A b := D_left (va_D_sw h)
abbrev rm1_init : Room := { frames := 1, cells := 1, slots := 20, locals := 12 }
theorem hd1_init : okD yX1_init 0 := by decide +kernel
theorem ml1_init : Cond.methodLink RX1 3 objectInit ∈ wsX1_init := by decide +kernel
theorem im1_init : Cond.instanceMethod objectInit ∈ wsX1_init := by decide +kernel
theorem oc1_init : Cond.code objectInit ⟨#[0xb1]⟩ 1 none ∈ wsX1_init := by decide +kernel
theorem ac1_init : Cond.arrayClass .int ∈ wsX1_init := by decide +kernel
theorem inm1_init : ∀ w ∈ wsX10, w ∈ wsX1_init := by decide +kernel
theorem fl1_init_9 : Cond.fieldLink RX1 9 "RiverWords$Page" "codes" "[I" ∈ wsX1_init := by decide +kernel
abbrev wX1 (h : Nat) : va_W := [(h, .inr (1, [.null, .int 0, .int 0, .int 0, .int 0, .int 0]))]
abbrev rm0_init : Room := { frames := 3, cells := 2, slots := 14, locals := 66 }
theorem hd0_init : okD yX0_init 0 := by decide +kernel
theorem ml0_init : Cond.methodLink RX0 1 objectInit ∈ wsX0_init := by decide +kernel
theorem im0_init : Cond.instanceMethod objectInit ∈ wsX0_init := by decide +kernel
theorem oc0_init : Cond.code objectInit ⟨#[0xb1]⟩ 1 none ∈ wsX0_init := by decide +kernel
theorem inm0_init : ∀ w ∈ wsX00, w ∈ wsX0_init := by decide +kernel
theorem inm0_init3 : ∀ w ∈ wsX30, w ∈ wsX0_init := by decide +kernel
theorem fl0_init_14 : Cond.fieldLink RX0 14 "RiverWords$Draw" "before" "LRiverWords$Word;" ∈ wsX0_init := by decide +kernel
theorem fl0_init_18 : Cond.fieldLink RX0 18 "RiverWords$Draw" "now" "LRiverWords$Word;" ∈ wsX0_init := by decide +kernel
theorem cl0_init : Cond.classLink RX0 7 RX3 ∈ wsX0_init := by decide +kernel
theorem is0_init : Cond.instantiable RX3 7 ∈ wsX0_init := by decide +kernel
theorem ii0_init : Cond.initialized RX3 ∈ wsX0_init := by decide +kernel
theorem mw0_init : Cond.methodLink RX0 11 yX3_init ∈ wsX0_init := by decide +kernel
theorem iw0_init : Cond.instanceMethod yX3_init ∈ wsX0_init := by decide +kernel
abbrev wX0 (h : Nat) : va_W := [(h, .inr (0, [.null, .null, .long 0, .int 0, .int 0, .int 0]))]
abbrev wl7 (r : Int32 × Int32 × Int32 × Int32 × Int32 × Int32 × Int32) : List Value := wl r.1 r.2.1 r.2.2.1 r.2.2.2.1 r.2.2.2.2.1 r.2.2.2.2.2.1 r.2.2.2.2.2.2
section PI1
variable {l : Launch} {D : va_G} {sz h : Nat} {tys : List (ClassId × FieldType)}
set_option maxHeartbeats 16000000 in
set_option maxRecDepth 100000 in
theorem c1_init : Met l yX1_init wsX1_init rm1_init (va_Pc [.ref h] (PI D [] sz (wX1 h))) (va_Qv (fun _ : Nat × ClassId => True) (fun u t => va_P D vwCl [(h, .inr (1, [.ref u.1, .int 0, .int 0, .int 0, .int 0, .int 0])), (u.1, .inl (u.2, 20, .inl (fun _ => 0)))] t.heap ∧ va_K D vwCl [(u.2, .int)] t ∧ va_D (va_A (wX1 h) sz) [(h, .inr (1, [.ref u.1, .int 0, .int 0, .int 0, .int 0, .int 0])), (u.1, .inl (u.2, 20, .inl (fun _ => 0)))]) (va_A (wX1 h) sz)) 1 20 (va_A (wX1 h) sz) := by
  refine I_in (cc := cX1_init) (maxL := 1) (by decide) rfl (Nat.le_of_ble_eq_true rfl) ?_
  intro p e s m args below meth c ls Q hQ C hin hr hlk hK hN hO hOA hD hA hP hS hl
  have C : CallFix p m c cX1_init 1 s args wsX1_init RX1 := C
  have hx := C.1
  have hb := C.2.1
  have hl : lv_has ls 1 [(0, .ref h)] := hl
  refine lv_aload_n hx hb dX1_init_0 rfl (lv_at hl 0 rfl) ?_
  refine W.objInit hx hb C.2.2.2.1 (C.2.2.2.2 _ ml1_init) (C.2.2.2.2 _ im1_init) (C.2.2.2.2 _ oc1_init) rfl (by rw [C.2.2.1]; exact hl.1) rfl dX1_init_1 (Nat.le_of_ble_eq_true rfl) (Nat.le_of_ble_eq_true rfl) ?_
  refine W.eq (g2 := F0 m 4 ls []) rfl ?_
  refine lv_aload_n hx hb dX1_init_4 rfl (lv_at hl 0 rfl) ?_
  refine lv_bipush (v := 20) hx hb dX1_init_5 rfl ?_
  refine va_newa (atype := .int) (ty := .int) (N' := 20) (a0 := (20, .inl (fun _ => 0))) hx hb (C.2.2.2.2 _ ac1_init) rfl hK hP hD hS hA (fun _ => rfl) (by decide) rfl (Nat.le_of_ble_eq_true rfl) (Nat.le_of_ble_eq_true rfl) (Nat.le_of_ble_eq_true rfl) dX1_init_7 (fun q1 c1 H hK hP hD hS => ?_)
  have hK : va_K D vwCl [(c1, .int)] s := hK
  refine va_putF (D := D) (ci := 1) (v := .ref q1) (ty := .array .int) (C := RX1) (T := TX1) (N := 6) hx hb C.2.2.2.2 inm1_init tyX1 tyX1_ok nmX1 C.2.2.2.1 hK hP hD hS 0 rfl rfl 0 (by decide) (C.2.2.2.2 _ fl1_init_9) (fun _ h9 => h9) rfl hin rfl (by decide +kernel) rfl rfl (Nat.le_of_ble_eq_true rfl) dX1_init_9 (fun H locs hP hD hS => ?_)
  subst hQ
  exact W.vret hx hb hr (fun t ht hW => ⟨⟨(q1, c1), rfl, trivial, by show va_P D vwCl _ t.heap; rw [ht]; exact hP, va_K.moved hW.alike hK, hD⟩, hS.F ht⟩) hS.2.2 dX1_init_12 hlk
set_option maxHeartbeats 16000000 in
set_option maxRecDepth 100000 in
theorem c0_init {r : Int32 × Int32 × Int32 × Int32 × Int32 × Int32 × Int32} (hrun : P3_become 0 8 = some r) : Met l yX0_init wsX0_init rm0_init (va_Pc [.ref h] (PI D tys sz (wX0 h))) (va_Qv (fun _ : Nat × Nat => True) (fun u t => va_P D vwCl [(h, .inr (0, [.ref u.1, .ref u.2, .long 0, .int 0, .int 0, .int 0])), (u.1, .inr (3, wl7 r)), (u.2, .inr (3, wl7 r))] t.heap ∧ True ∧ va_D (va_A (wX0 h) sz) [(h, .inr (0, [.ref u.1, .ref u.2, .long 0, .int 0, .int 0, .int 0])), (u.1, .inr (3, wl7 r)), (u.2, .inr (3, wl7 r))]) (va_A (wX0 h) sz)) 2 14 (va_A (wX0 h) sz) := by
  refine I_in (cc := cX0_init) (maxL := 1) (by decide) rfl (Nat.le_of_ble_eq_true rfl) ?_
  intro p e s m args below meth c ls Q hQ C hin hr hlk hK hN hO hOA hD hA hP hS hl
  have C : CallFix p m c cX0_init 1 s args wsX0_init RX0 := C
  have hx := C.1
  have hb := C.2.1
  have hl : lv_has ls 1 [(0, .ref h)] := hl
  refine lv_aload_n hx hb dX0_init_0 rfl (lv_at hl 0 rfl) ?_
  refine W.objInit hx hb C.2.2.2.1 (C.2.2.2.2 _ ml0_init) (C.2.2.2.2 _ im0_init) (C.2.2.2.2 _ oc0_init) rfl (by rw [C.2.2.1]; exact hl.1) rfl dX0_init_1 (Nat.le_of_ble_eq_true rfl) (Nat.le_of_ble_eq_true rfl) ?_
  refine W.eq (g2 := F0 m 4 ls []) rfl ?_
  refine lv_aload_n hx hb dX0_init_4 rfl (lv_at hl 0 rfl) ?_
  refine va_new (ci := 3) (fs := wl 0 0 0 0 0 0 0) (C := RX3) (T := TX3) (N := 7) hx hb C.2.2.2.2 inm0_init3 tyX3 tyX3_ok C.2.2.2.1 (C.2.2.2.2 _ cl0_init) (C.2.2.2.2 _ is0_init) (C.2.2.2.2 _ ii0_init) hK hP hD hS hA rfl (fun j hj => by rcases (show j = 0 ∨ j = 1 ∨ j = 2 ∨ j = 3 ∨ j = 4 ∨ j = 5 ∨ j = 6 by omega) with rfl | rfl | rfl | rfl | rfl | rfl | rfl <;> rfl) (Nat.le_of_ble_eq_true rfl) (Nat.le_of_ble_eq_true rfl) dX0_init_5 (fun q1 H hP hD hS => ?_)
  refine lv_dup hx hb dX0_init_8 rfl ?_
  refine lv_iconst (v := 0) hx hb dX0_init_9 rfl ?_
  refine lv_bipush (v := 8) hx hb dX0_init_10 rfl ?_
  have hP : va_P D vwCl (wW (([(h, .inr (0, [.null, .null, .long 0, .int 0, .int 0, .int 0]))] : va_W) ++ [(q1, .inr (3, wl 0 0 0 0 0 0 0))]) 1 q1 0 0 0 0 0 0 0) H := hP
  have hD : va_D (va_A (wX0 h) sz) (wW (([(h, .inr (0, [.null, .null, .long 0, .int 0, .int 0, .int 0]))] : va_W) ++ [(q1, .inr (3, wl 0 0 0 0 0 0 0))]) 1 q1 0 0 0 0 0 0 0) := hD
  refine jIE_v (rest := [.ref q1, .ref h]) C (c3_init (i := 1) (by simp) hrun) gX0_init_X3_init hd3_init ii0_init mw0_init iw0_init rfl hK hN hD hA ⟨hP, hS⟩ rfl ⟨rfl, rfl⟩ ⟨Nat.le_of_ble_eq_true rfl, Nat.le_of_ble_eq_true rfl⟩ rfl hl.1 rfl (Nat.le_of_ble_eq_true rfl) ⟨Nat.le_of_ble_eq_true rfl, Nat.le_of_ble_eq_true rfl⟩ dX0_init_12 (fun H locs I => ?_)
  have hP : va_P D vwCl (([(h, .inr (0, [.null, .null, .long 0, .int 0, .int 0, .int 0]))] : va_W) ++ [(q1, .inr (3, wl7 r))]) H := I.1
  have hD : va_D (va_A (wX0 h) sz) (([(h, .inr (0, [.null, .null, .long 0, .int 0, .int 0, .int 0]))] : va_W) ++ [(q1, .inr (3, wl7 r))]) := va_D_congr (by rfl) hD
  have hS := I.2
  refine va_putF (D := D) (ci := 0) (v := .ref q1) (ty := .object RX3) (C := RX0) (T := TX0) (N := 6) hx hb C.2.2.2.2 inm0_init tyX0 tyX0_ok nmX0 C.2.2.2.1 hK hP hD hS 0 rfl rfl 0 (by decide) (C.2.2.2.2 _ fl0_init_14) (fun _ h9 => h9) rfl hin rfl (by decide +kernel) rfl rfl (Nat.le_of_ble_eq_true rfl) dX0_init_15 (fun H locs hP hD hS => ?_)
  have hP : va_P D vwCl ([(h, .inr (0, [.ref q1, .null, .long 0, .int 0, .int 0, .int 0])), (q1, .inr (3, wl7 r))] : va_W) H := hP
  have hD : va_D (va_A (wX0 h) sz) ([(h, .inr (0, [.ref q1, .null, .long 0, .int 0, .int 0, .int 0])), (q1, .inr (3, wl7 r))] : va_W) := hD
  refine lv_aload_n hx hb dX0_init_18 rfl (lv_at hl 0 rfl) ?_
  refine va_new (ci := 3) (fs := wl 0 0 0 0 0 0 0) (C := RX3) (T := TX3) (N := 7) hx hb C.2.2.2.2 inm0_init3 tyX3 tyX3_ok C.2.2.2.1 (C.2.2.2.2 _ cl0_init) (C.2.2.2.2 _ is0_init) (C.2.2.2.2 _ ii0_init) hK hP hD hS hA rfl (fun j hj => by rcases (show j = 0 ∨ j = 1 ∨ j = 2 ∨ j = 3 ∨ j = 4 ∨ j = 5 ∨ j = 6 by omega) with rfl | rfl | rfl | rfl | rfl | rfl | rfl <;> rfl) (Nat.le_of_ble_eq_true rfl) (Nat.le_of_ble_eq_true rfl) dX0_init_19 (fun q2 H hP hD hS => ?_)
  refine lv_dup hx hb dX0_init_22 rfl ?_
  refine lv_iconst (v := 0) hx hb dX0_init_23 rfl ?_
  refine lv_bipush (v := 8) hx hb dX0_init_24 rfl ?_
  have hP : va_P D vwCl (wW (([(h, .inr (0, [.ref q1, .null, .long 0, .int 0, .int 0, .int 0])), (q1, .inr (3, wl7 r))] : va_W) ++ [(q2, .inr (3, wl 0 0 0 0 0 0 0))]) 2 q2 0 0 0 0 0 0 0) H := hP
  have hD : va_D (va_A (wX0 h) sz) (wW (([(h, .inr (0, [.ref q1, .null, .long 0, .int 0, .int 0, .int 0])), (q1, .inr (3, wl7 r))] : va_W) ++ [(q2, .inr (3, wl 0 0 0 0 0 0 0))]) 2 q2 0 0 0 0 0 0 0) := hD
  refine jIE_v (rest := [.ref q2, .ref h]) C (c3_init (i := 2) (by simp) hrun) gX0_init_X3_init hd3_init ii0_init mw0_init iw0_init rfl hK hN hD hA ⟨hP, hS⟩ rfl ⟨rfl, rfl⟩ ⟨Nat.le_of_ble_eq_true rfl, Nat.le_of_ble_eq_true rfl⟩ rfl hl.1 rfl (Nat.le_of_ble_eq_true rfl) ⟨Nat.le_of_ble_eq_true rfl, Nat.le_of_ble_eq_true rfl⟩ dX0_init_26 (fun H locs I => ?_)
  have hP : va_P D vwCl (([(h, .inr (0, [.ref q1, .null, .long 0, .int 0, .int 0, .int 0])), (q1, .inr (3, wl7 r))] : va_W) ++ [(q2, .inr (3, wl7 r))]) H := I.1
  have hD : va_D (va_A (wX0 h) sz) (([(h, .inr (0, [.ref q1, .null, .long 0, .int 0, .int 0, .int 0])), (q1, .inr (3, wl7 r))] : va_W) ++ [(q2, .inr (3, wl7 r))]) := va_D_congr (by rfl) hD
  have hS := I.2
  refine va_putF (D := D) (ci := 0) (v := .ref q2) (ty := .object RX3) (C := RX0) (T := TX0) (N := 6) hx hb C.2.2.2.2 inm0_init tyX0 tyX0_ok nmX0 C.2.2.2.1 hK hP hD hS 0 rfl rfl 1 (by decide) (C.2.2.2.2 _ fl0_init_18) (fun _ h9 => h9) rfl hin rfl (by decide +kernel) rfl rfl (Nat.le_of_ble_eq_true rfl) dX0_init_29 (fun H locs hP hD hS => ?_)
  subst hQ
  refine W.widen (k := 2) (n := 14) (Nat.le_of_ble_eq_true rfl) (Nat.le_of_ble_eq_true rfl) ?_
  exact W.vret hx hb hr (fun t ht hW => ⟨⟨(q1, q2), rfl, trivial, by show va_P D vwCl _ t.heap; rw [ht]; exact hP, trivial, hD⟩, hS.F ht⟩) hS.2.2 dX0_init_32 hlk
end PI1
