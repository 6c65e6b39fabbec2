-- THE PURE SIDE'S WORDS: what the decompiled functions (P..) are made of
abbrev vx (i : Int32) (n : Nat) : Prop := ¬ (i < 0 ∨ n ≤ i.toNatClampNeg)
theorem p_chk {α : Type} {c : Prop} [Decidable c] {a : Option α} {r : α} (h : (if c then a else none) = some r) : c ∧ a = some r := by
  by_cases hc : c
  · rw [if_pos hc] at h
    exact ⟨hc, h⟩
  · rw [if_neg hc] at h
    cases h
theorem p_bnd {α β : Type} {a : Option α} {f : α → Option β} {r : β} (h : a.bind f = some r) : ∃ x, a = some x ∧ f x = some r := by
  cases a with
  | none => cases h
  | some x => exact ⟨x, rfl, h⟩
theorem p_pos {α : Type} {c : Prop} [Decidable c] {a b r : α} (h : (if c then a else b) = r) (hc : c) : a = r := by
  rw [if_pos hc] at h
  exact h
theorem p_neg {α : Type} {c : Prop} [Decidable c] {a b r : α} (h : (if c then a else b) = r) (hc : ¬ c) : b = r := by
  rw [if_neg hc] at h
  exact h
theorem p_tru {P : Prop} (h : P) : P := h
def jrem (x y : Int32) : Int32 := x - x / y * y
def jlrem (x y : Int64) : Int64 := x - x / y * y
def jshl (x y : Int32) : Int32 := x <<< (y &&& 31)
def jshr (x y : Int32) : Int32 := x >>> (y &&& 31)
def jushr (x y : Int32) : Int32 := (x.toUInt32 >>> (y.toUInt32 &&& Int32.toUInt32 31)).toInt32
def jbc1 (x : Int32) : Int32 := x - (jushr x 1 &&& 1431655765)
def jbc2 (x : Int32) : Int32 := (x &&& 858993459) + (jushr x 2 &&& 858993459)
def jbc3 (x : Int32) : Int32 := (x + jushr x 4) &&& 252645135
def jbc4 (x : Int32) : Int32 := x + jushr x 8
def jbc5 (x : Int32) : Int32 := x + jushr x 16
/-- Integer.bitCount, as the JDK's bytecode has it -/
def jbitCount (x : Int32) : Int32 := jbc5 (jbc4 (jbc3 (jbc2 (jbc1 x)))) &&& 63
def jabs (x : Int32) : Int32 := if 0 ≤ x then x else 0 - x
def jmax (x y : Int32) : Int32 := if x < y then y else x
/-- more steps than any loop of the class or the reference takes -/
def FU : Nat := 4000
theorem j_mapif {α β : Type} {c : Prop} [Decidable c] (f : α → β) (a : α) : (if c then some (f a) else none) = Option.map f (if c then some a else none) := by
  by_cases h : c <;> simp [h]
/-- one place of one row of a table -/
def upd2 (f : Nat → Nat → Int32) (j i : Nat) (x : Int32) : Nat → Nat → Int32 := fun k => if k = j then upd (f j) i x else f k
/-- a word's seven numbers, all written -/
def wvset (f : Nat → Nat → Int32) (j : Nat) (b s al a bb c d : Int32) : Nat → Nat → Int32 := fun k => if k = j then (fun t => match t with | 0 => b | 1 => s | 2 => al | 3 => a | 4 => bb | 5 => c | _ => d) else f k
/-- a loop that may also be left by the method's end: left by the end, or gone through -/
def sK {α β : Type} (o : α ⊕ β) (f : α → Prop) (g : β → Prop) : Prop := match o with
  | .inl a => f a
  | .inr b => g b
def sb0 {α β : Type} (x : Option (α ⊕ β)) (f : β → Option α) : Option α := match x with
  | none => none
  | some (.inl r) => some r
  | some (.inr o) => f o
def sb1 {α β γ : Type} (x : Option (α ⊕ β)) (f : β → Option (α ⊕ γ)) : Option (α ⊕ γ) := match x with
  | none => none
  | some (.inl r) => some (.inl r)
  | some (.inr o) => f o
theorem p_sb0 {α β : Type} {x : Option (α ⊕ β)} {f : β → Option α} {res : α} (h : sb0 x f = some res) : ∃ o, x = some o ∧ sK o (fun r => r = res) (fun b => f b = some res) := by
  cases x with
  | none => cases h
  | some o =>
    refine ⟨o, rfl, ?_⟩
    cases o with
    | inl r => exact Option.some.inj h
    | inr b => exact h
theorem p_sb1 {α β γ : Type} {x : Option (α ⊕ β)} {f : β → Option (α ⊕ γ)} {out : α ⊕ γ} (h : sb1 x f = some out) : ∃ o, x = some o ∧ sK o (fun r => out = .inl r) (fun b => f b = some out) := by
  cases x with
  | none => cases h
  | some o =>
    refine ⟨o, rfl, ?_⟩
    cases o with
    | inl r => exact (Option.some.inj h).symm
    | inr b => exact h
-- THE MACHINE'S SIDE
/-- the heap holds the world, and nothing outside A has changed -/
def IM (D : va_G) (A : Nat → Prop) (H0 H : Heap) (locs : List Loc) (ws : va_W) : Prop := va_P D vwCl ws H ∧ va_S A H0 H locs
/-- the words of the tables that no list of words carries: calls of nest mates' private methods -/
def NW (U : State) : Prop := va_Nw (.methodLinkNest RX3 59 yX4_commonDivisor "RiverWords") U ∧ va_Nw (.methodLinkNest RX3 62 yX4_discriminantOf "RiverWords") U ∧ va_Nw (.methodLinkNest RX4 9 yX1_init "RiverWords") U ∧ va_Nw (.methodLinkNest RX4 24 yX2_init "RiverWords") U ∧ va_Nw (.methodLinkNest RX4 31 yX0_init "RiverWords") U
theorem NW.same {u U : State} (h : u.vm = U.vm) (hN : NW u) : NW U := ⟨hN.1.same rfl h, hN.2.1.same rfl h, hN.2.2.1.same rfl h, hN.2.2.2.1.same rfl h, hN.2.2.2.2.same rfl h⟩
theorem NW.warm {s U : State} (hW : s.WarmedH U.vm) (hN : NW s) : NW U := ⟨hN.1.warmM hW, hN.2.1.warmM hW, hN.2.2.1.warmM hW, hN.2.2.2.1.warmM hW, hN.2.2.2.2.warmM hW⟩
/-- a start: the world (in its cells wz), the tables, the size of the heap -/
def PE (D : va_G) (tys : List (ClassId × FieldType)) (sz : Nat) (wz w : va_W) : State → Prop := fun U => U.heap.size = sz ∧ va_P D vwCl w U.heap ∧ va_K D vwCl tys U ∧ NW U ∧ va_D (fun _ => True) wz
/-- a start of a method that only reads -/
def PS (D : va_G) (tys : List (ClassId × FieldType)) (w : va_W) : State → Prop := fun U => va_P D vwCl w U.heap ∧ va_K D vwCl tys U ∧ NW U
/-- a start that asks nothing -/
def PN : State → Prop := fun _ => True
theorem va_D_congr {A : Nat → Prop} {w1 w2 : va_W} (h : w1.map (fun q => q.1) = w2.map (fun q => q.1)) (hD : va_D A w1) : va_D A w2 := by
  have back : ∀ (i : Nat) (q : Nat × va_E), w2[i]? = some q → ∃ e, w1[i]? = some (q.1, e) := by
    intro i q hq
    have h1 : (w2.map (fun q => q.1))[i]? = some q.1 := by rw [List.getElem?_map, hq]; rfl
    rw [← h, List.getElem?_map] at h1
    cases hw : w1[i]? with
    | none => rw [hw] at h1; cases h1
    | some z =>
      rw [hw] at h1
      obtain ⟨z1, z2⟩ := z
      have h2 : z1 = q.1 := Option.some.inj h1
      subst h2
      exact ⟨z2, rfl⟩
  refine ⟨fun i j p q hp hq hpq => ?_, fun k q hq => ?_⟩
  · obtain ⟨e1, h1⟩ := back i p hp
    obtain ⟨e2, h2⟩ := back j q hq
    exact hD.1 i j _ _ h1 h2 hpq
  · obtain ⟨e1, h1⟩ := back k q hq
    exact hD.2 k (q.1, e1) h1
theorem blindE {D : va_G} {tys : List (ClassId × FieldType)} {sz : Nat} {wz w : va_W} {av : List Value} : FrameBlind (va_Pc av (PE D tys sz wz w)) := fun a U g mk q => by
  obtain ⟨q0, q1, qP, qK, qN, qD⟩ := q
  exact ⟨q0, q1, qP, va_K.moved (u := U) (U := U.calling g mk a) (Vm.Alike.refl U.vm) qK, NW.same rfl qN, qD⟩
theorem blindS {D : va_G} {tys : List (ClassId × FieldType)} {w : va_W} {av : List Value} : FrameBlind (va_Pc av (PS D tys w)) := fun a U g mk q => by
  obtain ⟨q0, qP, qK, qN⟩ := q
  exact ⟨q0, qP, va_K.moved (u := U) (U := U.calling g mk a) (Vm.Alike.refl U.vm) qK, NW.same rfl qN⟩
theorem blindN {av : List Value} : FrameBlind (va_Pc av PN) := fun _ _ _ _ q => ⟨q.1, trivial⟩
abbrev okD (y : MethodName) (n : Nat) : Prop := y.cls ≠ "java/lang/invoke/MethodHandle" ∧ y.cls ≠ "java/lang/invoke/VarHandle" ∧ (parseMethodDescriptor y.desc).map (fun d => d.parameters.length) = some n
theorem nb01 {v : Int32} (h : v = 0 ∨ v = 1) : narrow .boolean (.int v) = .int v := by
  rcases h with rfl | rfl <;> rfl
theorem fb01 {v : Int32} (h : v = 0 ∨ v = 1) : fits .boolean (.int v) = true := by
  rcases h with rfl | rfl <;> rfl
theorem nbi (v : Int32) : narrow .int (.int v) = .int v := rfl
/-- no case of a table: by the cases, one by one -/
theorem j_tswOut {x : Int32} {lo hi : Int} (ks : List Int32) (hc : (List.range (hi - lo + 1).toNat).all (fun j => ks.any (fun k => decide (k.toInt = lo + (j : Int)))) = true) (hn : ∀ k ∈ ks, ¬ x = k) : x.toInt < lo ∨ hi < x.toInt := by
  rcases Int.lt_or_le x.toInt lo with h | h
  · exact Or.inl h
  · rcases Int.lt_or_le hi x.toInt with h2 | h2
    · exact Or.inr h2
    · exfalso
      have hj := List.all_eq_true.mp hc (x.toInt - lo).toNat (List.mem_range.mpr (by omega))
      obtain ⟨k, hk, he⟩ := List.any_eq_true.mp hj
      have he2 := of_decide_eq_true he
      exact hn k hk (Int32.toInt_inj.mp (by rw [he2]; omega))
section JB
variable {p : Program} {l : Launch} {e : Env} {R : Room} {s : State} {m : MethodId} {args : Array Value} {below : List Frame} {meth : Method} {c : Code} {H : Heap} {locs : List Loc} {cells slots : Nat} {Q : State → Prop}
variable {cc : ByteArray} {pc : Nat} {ls : Array Slot} {rest : List Value} {D : va_G} {A : Nat → Prop} {H0 : Heap} {nL : Nat} {Ts : List Cond} {own : String}
theorem va_aldA {cl : List vw_C} {a : Nat} {tys : List (ClassId × FieldType)} {ws : va_W} (hexec : p.tables.exec = Jvm.exec) (hb : c.code = cc) (hK : va_K D cl tys s) (hP : va_P D cl ws H) (q0 t0 : Nat) {cA : ClassId} {t : FieldType} {n : Nat} {f : Nat → Option Nat} (ha : ws[q0]? = some (a, .inl (cA, n, .inr (.inr (.inr (.inr f)))))) (ht : tys[t0]? = some (cA, .array t)) {i : Int32} (hin : vp_in i n) (hdg : decode cc pc = .ok (.aaload, 1))
    (kk : W p l e R s m args below meth c H locs cells slots Q (F0 m (pc + 1) ls (va_rf (f i.toNatClampNeg) :: rest))) : W p l e R s m args below meth c H locs cells slots Q (F0 m pc ls (.int i :: .ref a :: rest)) := by
  have hlt : i.toNatClampNeg < n := Nat.not_le.mp fun q => hin (Or.inr q)
  exact W.aald (v := va_rf (f i.toNatClampNeg)) (ty := .array t) hexec hb (hP q0 _ ha) ((hK.2 t0 _ ht).1 n (fun j => va_rf (f j))) rfl (fun q => by cases q) (by show ¬ (i < 0 ∨ (arrV _ _ _).slots.size ≤ _); rw [arrV_size]; exact hin) (by show (arrV _ _ _).slots[_]? = _; rw [arrV_read _ _ hlt]) rfl rfl hdg kk
theorem j_iushr (hexec : p.tables.exec = Jvm.exec) (hb : c.code = cc) {x y : Int32} (hdg : decode cc pc = .ok (.iushr, 1))
    (k : W p l e R s m args below meth c H locs cells slots Q (F0 m (pc + 1) ls (.int (jushr x y) :: rest))) : W p l e R s m args below meth c H locs cells slots Q (F0 m pc ls (.int y :: .int x :: rest)) := lv_iushr hexec hb hdg rfl k
theorem j_irem (hexec : p.tables.exec = Jvm.exec) (hb : c.code = cc) {x y : Int32} (hdg : decode cc pc = .ok (.irem, 1)) (hne : ¬ y = 0)
    (k : W p l e R s m args below meth c H locs cells slots Q (F0 m (pc + 1) ls (.int (jrem x y) :: rest))) : W p l e R s m args below meth c H locs cells slots Q (F0 m pc ls (.int y :: .int x :: rest)) := lv_irem hexec hb hdg hne k
theorem j_lrem (hexec : p.tables.exec = Jvm.exec) (hb : c.code = cc) {x y : Int64} (hdg : decode cc pc = .ok (.lrem, 1)) (hne : ¬ y = 0)
    (k : W p l e R s m args below meth c H locs cells slots Q (F0 m (pc + 1) ls (.long (jlrem x y) :: rest))) : W p l e R s m args below meth c H locs cells slots Q (F0 m pc ls (.long y :: .long x :: rest)) := lv_lrem hexec hb hdg hne k
theorem j_ishl (hexec : p.tables.exec = Jvm.exec) (hb : c.code = cc) {x y : Int32} (hdg : decode cc pc = .ok (.ishl, 1))
    (k : W p l e R s m args below meth c H locs cells slots Q (F0 m (pc + 1) ls (.int (jshl x y) :: rest))) : W p l e R s m args below meth c H locs cells slots Q (F0 m pc ls (.int y :: .int x :: rest)) := lv_ishl hexec hb hdg k
theorem j_ishr (hexec : p.tables.exec = Jvm.exec) (hb : c.code = cc) {x y : Int32} (hdg : decode cc pc = .ok (.ishr, 1))
    (k : W p l e R s m args below meth c H locs cells slots Q (F0 m (pc + 1) ls (.int (jshr x y) :: rest))) : W p l e R s m args below meth c H locs cells slots Q (F0 m pc ls (.int y :: .int x :: rest)) := lv_ishr hexec hb hdg k
theorem j_tswIn (hexec : p.tables.exec = Jvm.exec) (hb : c.code = cc) {dflt lo hi : Int} {offs : Array Int} {len : Nat} {x : Int32} (k : Int32) {off : Int} {tgt : Nat} (hx : x = k) (hdg : decode cc pc = .ok (.tableswitch dflt lo hi offs, len)) (h1 : ¬ k.toInt < lo) (h2 : ¬ hi < k.toInt) (ho : offs[(k.toInt - lo).toNat]? = some off) (ht : (pc : Int) + off = (tgt : Int))
    (kk : W p l e R s m args below meth c H locs cells slots Q (F0 m tgt ls rest)) : W p l e R s m args below meth c H locs cells slots Q (F0 m pc ls (.int x :: rest)) := by
  subst hx
  exact lv_tableIn hexec hb hdg h1 h2 ho ht kk
theorem j_lswIn (hexec : p.tables.exec = Jvm.exec) (hb : c.code = cc) {dflt : Int} {ps : Array (Int × Int)} {len : Nat} {x : Int32} {off : Int} {tgt : Nat} (hdg : decode cc pc = .ok (.lookupswitch dflt ps, len)) (k : Int32) (hx : x = k) (hp : (ps.toList.zip (ps.toList.drop 1)).all (fun (a, next) => a.1 < next.1) = true) (ho : Op.lookupswitch.offset ps.toList dflt k.toInt = off) (ht : (pc : Int) + off = (tgt : Int))
    (kk : W p l e R s m args below meth c H locs cells slots Q (F0 m tgt ls rest)) : W p l e R s m args below meth c H locs cells slots Q (F0 m pc ls (.int x :: rest)) := by
  subst hx
  exact lv_lookup hexec hb hdg hp ho ht kk
theorem j_lswOut (hexec : p.tables.exec = Jvm.exec) (hb : c.code = cc) {dflt a b : Int} {len : Nat} {x : Int32} {tgt : Nat} (hdg : decode cc pc = .ok (.lookupswitch dflt #[(0, a), (1, b)], len)) (h0 : ¬ x = 0) (h1 : ¬ x = 1) (ht : (pc : Int) + dflt = (tgt : Int))
    (kk : W p l e R s m args below meth c H locs cells slots Q (F0 m tgt ls rest)) : W p l e R s m args below meth c H locs cells slots Q (F0 m pc ls (.int x :: rest)) := by
  refine lv_lookup (off := dflt) hexec hb hdg rfl ?_ ht kk
  show (if (0 : Int) = x.toInt then a else if (1 : Int) = x.toInt then b else dflt) = dflt
  rw [if_neg (fun q => h0 (Int32.toInt_inj.mp (by rw [← q]; rfl))), if_neg (fun q => h1 (Int32.toInt_inj.mp (by rw [← q]; rfl)))]
/-- a call that leaves the heap as it is -/
theorem j_runSi {post : Int32 → Prop} {a : Array Value} {st0 : List Value} (hr : va_Run p l e R s m args below meth c H locs cells slots 0 0 (F0 m pc ls st0) rest (vp_Si post a) (fun _ => False))
    (kk : ∀ r : Int32, post r → W p l e R s m args below meth c H locs cells slots Q (F0 m (pc + 3) ls (.int r :: rest))) : W p l e R s m args below meth c H locs cells slots Q (F0 m pc ls st0) := by
  intro T hT X
  obtain ⟨v, st₀, t, T', L, h0, X', hL, e1, e2, ⟨r, hv, hp, hh⟩, st⟩ := hr T hT X
  cases hv
  have hL0 : L = [] := by
    cases L with
    | nil => rfl
    | cons q _ => exact absurd (hL q List.mem_cons_self) id
  subst hL0
  rw [List.append_nil] at X'
  obtain ⟨t2, a1, b1⟩ := kk r hp T' (by rw [e1, hh, h0]) X'
  exact ⟨t2, st t2 a1, b1⟩
theorem j_runSl {post : Int64 → Prop} {a : Array Value} {st0 : List Value} (hr : va_Run p l e R s m args below meth c H locs cells slots 0 0 (F0 m pc ls st0) rest (vp_Sl post a) (fun _ => False))
    (kk : ∀ r : Int64, post r → W p l e R s m args below meth c H locs cells slots Q (F0 m (pc + 3) ls (.long r :: rest))) : W p l e R s m args below meth c H locs cells slots Q (F0 m pc ls st0) := by
  intro T hT X
  obtain ⟨v, st₀, t, T', L, h0, X', hL, e1, e2, ⟨r, hv, hp, hh⟩, st⟩ := hr T hT X
  cases hv
  have hL0 : L = [] := by
    cases L with
    | nil => rfl
    | cons q _ => exact absurd (hL q List.mem_cons_self) id
  subst hL0
  rw [List.append_nil] at X'
  obtain ⟨t2, a1, b1⟩ := kk r hp T' (by rw [e1, hh, h0]) X'
  exact ⟨t2, st t2 a1, b1⟩
/-- a call whose answer is a reference or null, and that leaves the heap as it is -/
theorem j_runSq {post : Option Nat → Prop} {a : Array Value} {st0 : List Value} (hr : va_Run p l e R s m args below meth c H locs cells slots 0 0 (F0 m pc ls st0) rest (va_Sq post a) (fun _ => False))
    (kk : ∀ r : Option Nat, post r → W p l e R s m args below meth c H locs cells slots Q (F0 m (pc + 3) ls (va_rf r :: rest))) : W p l e R s m args below meth c H locs cells slots Q (F0 m pc ls st0) := by
  intro T hT X
  obtain ⟨v, st₀, t, T', L, h0, X', hL, e1, e2, ⟨r, hv, hp, hh⟩, st⟩ := hr T hT X
  cases hv
  have hL0 : L = [] := by
    cases L with
    | nil => rfl
    | cons q _ => exact absurd (hL q List.mem_cons_self) id
  subst hL0
  rw [List.append_nil] at X'
  obtain ⟨t2, a1, b1⟩ := kk r hp T' (by rw [e1, hh, h0]) X'
  exact ⟨t2, st t2 a1, b1⟩
theorem j_freeE {wz : va_W} (hD : va_D A wz) (hA : ∀ q : Nat, H0.size ≤ q → A q) (hS : va_S A H0 H locs) : ∀ q : Nat, va_A wz H.size q → A q := by
  intro q hq
  rcases hq with ⟨k, e, h⟩ | h
  · exact hD.2 k _ h
  · exact hA q (Nat.le_trans hS.1 h)
section JC
variable {y : MethodName} {bytes : ByteArray} {maxL n index : Nat} {ret : Option FieldType} {ws ws' : List Cond} {rm : Room} {As : List Value} {st0 : List Value} {tys : List (ClassId × FieldType)} {w0 w1 wz : va_W} {b : Addr}
-- THE CALLS. static; virtual; a private static method of a nest mate. S: the heap stays; E: the world changes
theorem jSS_i {v : Int32} (C : CallFix p m c cc nL s args Ts own) (hM : Met l y ws rm (va_Pc As PN) (vp_Si (fun x => x = v)) 0 0 (fun _ => False)) (G : GoodIn Ts (va_wsS own index y ws)) (hd : okD y n) (hw : ws = Cond.code y bytes maxL ret :: ws') (hrc : rm.cells = 0 ∧ rm.slots = 0) (hR : rm.frames + 1 ≤ R.frames ∧ 8 + (maxL + 11) + rm.locals ≤ R.locals) (hn : As.length = n) (hls : ls.size = nL) (hst : st0 = As.reverse ++ rest) (hroom : (rest.map fun v => v.category).sum ≤ 8) (hcs : cells ≤ R.cells ∧ slots ≤ R.slots) (hdg : decode cc pc = .ok (.invokestatic index, 3))
    (kk : W p l e R s m args below meth c H locs cells slots Q (F0 m (pc + 3) ls (.int v :: rest))) : W p l e R s m args below meth c H locs cells slots Q (F0 m pc ls st0) :=
  j_runSi (va_runS (As := As) (rest := rest) C hM (va_cwS n C.2.2.2.2 G hw hrc.1 hrc.2 hd hR) ⟨blindN, fun _ _ _ => ⟨rfl, trivial⟩⟩ rfl hn hls hst (lv_room hroom) hdg ⟨hcs.1, hcs.2⟩) (fun r hr => by subst hr; exact kk)
theorem jSS_l {v : Int64} (C : CallFix p m c cc nL s args Ts own) (hM : Met l y ws rm (va_Pc As PN) (vp_Sl (fun x => x = v)) 0 0 (fun _ => False)) (G : GoodIn Ts (va_wsS own index y ws)) (hd : okD y n) (hw : ws = Cond.code y bytes maxL ret :: ws') (hrc : rm.cells = 0 ∧ rm.slots = 0) (hR : rm.frames + 1 ≤ R.frames ∧ 8 + (maxL + 11) + rm.locals ≤ R.locals) (hn : As.length = n) (hls : ls.size = nL) (hst : st0 = As.reverse ++ rest) (hroom : (rest.map fun v => v.category).sum ≤ 8) (hcs : cells ≤ R.cells ∧ slots ≤ R.slots) (hdg : decode cc pc = .ok (.invokestatic index, 3))
    (kk : W p l e R s m args below meth c H locs cells slots Q (F0 m (pc + 3) ls (.long v :: rest))) : W p l e R s m args below meth c H locs cells slots Q (F0 m pc ls st0) :=
  j_runSl (va_runS (As := As) (rest := rest) C hM (va_cwS n C.2.2.2.2 G hw hrc.1 hrc.2 hd hR) ⟨blindN, fun _ _ _ => ⟨rfl, trivial⟩⟩ rfl hn hls hst (lv_room hroom) hdg ⟨hcs.1, hcs.2⟩) (fun r hr => by subst hr; exact kk)
theorem jNS_i {host : String} {v : Int32} (C : CallFix p m c cc nL s args Ts own) (hM : Met l y ws rm (va_Pc As PN) (vp_Si (fun x => x = v)) 0 0 (fun _ => False)) (G : GoodIn Ts ws) (hl : va_Nw (.methodLinkNest own index y host) s) (hini : Cond.initialized y.cls ∈ Ts) (hsta : Cond.static y ∈ Ts) (hd : okD y n) (hw : ws = Cond.code y bytes maxL ret :: ws') (hrc : rm.cells = 0 ∧ rm.slots = 0) (hR : rm.frames + 1 ≤ R.frames ∧ 8 + (maxL + 11) + rm.locals ≤ R.locals) (hn : As.length = n) (hls : ls.size = nL) (hst : st0 = As.reverse ++ rest) (hroom : (rest.map fun v => v.category).sum ≤ 8) (hcs : cells ≤ R.cells ∧ slots ≤ R.slots) (hdg : decode cc pc = .ok (.invokestatic index, 3))
    (kk : W p l e R s m args below meth c H locs cells slots Q (F0 m (pc + 3) ls (.int v :: rest))) : W p l e R s m args below meth c H locs cells slots Q (F0 m pc ls st0) :=
  j_runSi (va_runSN (As := As) (rest := rest) C hM ⟨va_cnB n C.2.2.2.2 G hw hrc.1 hrc.2 hl (C.2.2.2.2 _ hini) hd hR, C.2.2.2.2 _ hsta, trivial⟩ ⟨blindN, fun _ _ _ => ⟨rfl, trivial⟩⟩ rfl hn hls hst (lv_room hroom) hdg ⟨hcs.1, hcs.2⟩) (fun r hr => by subst hr; exact kk)
theorem jNS_l {host : String} {v : Int64} (C : CallFix p m c cc nL s args Ts own) (hM : Met l y ws rm (va_Pc As PN) (vp_Sl (fun x => x = v)) 0 0 (fun _ => False)) (G : GoodIn Ts ws) (hl : va_Nw (.methodLinkNest own index y host) s) (hini : Cond.initialized y.cls ∈ Ts) (hsta : Cond.static y ∈ Ts) (hd : okD y n) (hw : ws = Cond.code y bytes maxL ret :: ws') (hrc : rm.cells = 0 ∧ rm.slots = 0) (hR : rm.frames + 1 ≤ R.frames ∧ 8 + (maxL + 11) + rm.locals ≤ R.locals) (hn : As.length = n) (hls : ls.size = nL) (hst : st0 = As.reverse ++ rest) (hroom : (rest.map fun v => v.category).sum ≤ 8) (hcs : cells ≤ R.cells ∧ slots ≤ R.slots) (hdg : decode cc pc = .ok (.invokestatic index, 3))
    (kk : W p l e R s m args below meth c H locs cells slots Q (F0 m (pc + 3) ls (.long v :: rest))) : W p l e R s m args below meth c H locs cells slots Q (F0 m pc ls st0) :=
  j_runSl (va_runSN (As := As) (rest := rest) C hM ⟨va_cnB n C.2.2.2.2 G hw hrc.1 hrc.2 hl (C.2.2.2.2 _ hini) hd hR, C.2.2.2.2 _ hsta, trivial⟩ ⟨blindN, fun _ _ _ => ⟨rfl, trivial⟩⟩ rfl hn hls hst (lv_room hroom) hdg ⟨hcs.1, hcs.2⟩) (fun r hr => by subst hr; exact kk)
/-- the receiver, by its place in the world -/
abbrev Recv (w0 : va_W) (b : Addr) (cls : String) : Prop := ∃ (q0 ci : Nat) (fs : List Value) (q : vw_C), w0[q0]? = some (b, .inr (ci, fs)) ∧ vwCl[ci]? = some q ∧ q.1 = cls
theorem j_recv {cls : String} (hK : va_K D vwCl tys s) (hP : va_P D vwCl w0 H) (hr : Recv w0 b cls) : ∃ cell : Cell, H[b]? = some cell ∧ cell.vm.isStatics = false ∧ s.vm.findClass cls = some cell.cls := by
  obtain ⟨q0, ci, fs, q, h1, h2, rfl⟩ := hr
  exact va_recv hK hP h2 h1
theorem jVS_i {v : Int32} (C : CallFix p m c cc nL s args Ts own) (hM : Met l y ws rm (va_Pc (.ref b :: As) (PS D tys w0)) (vp_Si (fun x => x = v)) 0 0 (fun _ => False)) (G : GoodIn Ts (wsV own index y.cls y ws)) (hd : okD y n) (hK : va_K D vwCl tys s) (hN : NW s) (hP : va_P D vwCl w0 H) (hrv : Recv w0 b y.cls) (hw : ws = Cond.code y bytes maxL ret :: ws') (hrc : rm.cells = 0 ∧ rm.slots = 0) (hR : rm.frames + 1 ≤ R.frames ∧ 8 + (maxL + 11) + rm.locals ≤ R.locals) (hn : As.length = n) (hls : ls.size = nL) (hst : st0 = As.reverse ++ .ref b :: rest) (hroom : (rest.map fun v => v.category).sum ≤ 8) (hcs : cells ≤ R.cells ∧ slots ≤ R.slots) (hdg : decode cc pc = .ok (.invokevirtual index, 3))
    (kk : W p l e R s m args below meth c H locs cells slots Q (F0 m (pc + 3) ls (.int v :: rest))) : W p l e R s m args below meth c H locs cells slots Q (F0 m pc ls st0) :=
  j_runSi (va_runV (As := As) (rest := rest) C hM (cwV n C.2.2.2.2 G hw hrc.1 hrc.2 ⟨rfl, hd⟩ hR) ⟨blindS, j_recv hK hP hrv, fun U hU hW => ⟨rfl, by rw [hU]; exact hP, va_K.moved hW.alike hK, hN.warm hW⟩⟩ rfl hn hls hst (lv_room hroom) hdg ⟨hcs.1, hcs.2⟩) (fun r hr => by subst hr; exact kk)
theorem jVS_l {v : Int64} (C : CallFix p m c cc nL s args Ts own) (hM : Met l y ws rm (va_Pc (.ref b :: As) (PS D tys w0)) (vp_Sl (fun x => x = v)) 0 0 (fun _ => False)) (G : GoodIn Ts (wsV own index y.cls y ws)) (hd : okD y n) (hK : va_K D vwCl tys s) (hN : NW s) (hP : va_P D vwCl w0 H) (hrv : Recv w0 b y.cls) (hw : ws = Cond.code y bytes maxL ret :: ws') (hrc : rm.cells = 0 ∧ rm.slots = 0) (hR : rm.frames + 1 ≤ R.frames ∧ 8 + (maxL + 11) + rm.locals ≤ R.locals) (hn : As.length = n) (hls : ls.size = nL) (hst : st0 = As.reverse ++ .ref b :: rest) (hroom : (rest.map fun v => v.category).sum ≤ 8) (hcs : cells ≤ R.cells ∧ slots ≤ R.slots) (hdg : decode cc pc = .ok (.invokevirtual index, 3))
    (kk : W p l e R s m args below meth c H locs cells slots Q (F0 m (pc + 3) ls (.long v :: rest))) : W p l e R s m args below meth c H locs cells slots Q (F0 m pc ls st0) :=
  j_runSl (va_runV (As := As) (rest := rest) C hM (cwV n C.2.2.2.2 G hw hrc.1 hrc.2 ⟨rfl, hd⟩ hR) ⟨blindS, j_recv hK hP hrv, fun U hU hW => ⟨rfl, by rw [hU]; exact hP, va_K.moved hW.alike hK, hN.warm hW⟩⟩ rfl hn hls hst (lv_room hroom) hdg ⟨hcs.1, hcs.2⟩) (fun r hr => by subst hr; exact kk)
theorem jVS_q {v : Option Nat} (C : CallFix p m c cc nL s args Ts own) (hM : Met l y ws rm (va_Pc (.ref b :: As) (PS D tys w0)) (va_Sq (fun x => x = v)) 0 0 (fun _ => False)) (G : GoodIn Ts (wsV own index y.cls y ws)) (hd : okD y n) (hK : va_K D vwCl tys s) (hN : NW s) (hP : va_P D vwCl w0 H) (hrv : Recv w0 b y.cls) (hw : ws = Cond.code y bytes maxL ret :: ws') (hrc : rm.cells = 0 ∧ rm.slots = 0) (hR : rm.frames + 1 ≤ R.frames ∧ 8 + (maxL + 11) + rm.locals ≤ R.locals) (hn : As.length = n) (hls : ls.size = nL) (hst : st0 = As.reverse ++ .ref b :: rest) (hroom : (rest.map fun v => v.category).sum ≤ 8) (hcs : cells ≤ R.cells ∧ slots ≤ R.slots) (hdg : decode cc pc = .ok (.invokevirtual index, 3))
    (kk : W p l e R s m args below meth c H locs cells slots Q (F0 m (pc + 3) ls (va_rf v :: rest))) : W p l e R s m args below meth c H locs cells slots Q (F0 m pc ls st0) :=
  j_runSq (va_runV (As := As) (rest := rest) C hM (cwV n C.2.2.2.2 G hw hrc.1 hrc.2 ⟨rfl, hd⟩ hR) ⟨blindS, j_recv hK hP hrv, fun U hU hW => ⟨rfl, by rw [hU]; exact hP, va_K.moved hW.alike hK, hN.warm hW⟩⟩ rfl hn hls hst (lv_room hroom) hdg ⟨hcs.1, hcs.2⟩) (fun r hr => by subst hr; exact kk)
theorem jVE_v (C : CallFix p m c cc nL s args Ts own) (hM : Met l y ws rm (va_Pc (.ref b :: As) (PE D tys H.size wz w0)) (va_Qv (fun _ : Unit => True) (fun _ t => va_P D vwCl w1 t.heap) (va_A wz H.size)) 0 0 (va_A wz H.size)) (G : GoodIn Ts (wsV own index y.cls y ws)) (hd : okD y n) (hK : va_K D vwCl tys s) (hN : NW s) (hD : va_D A wz) (hA : ∀ q : Nat, H0.size ≤ q → A q) (I : IM D A H0 H locs w0) (hrv : Recv w0 b y.cls) (hw : ws = Cond.code y bytes maxL ret :: ws') (hrc : rm.cells = 0 ∧ rm.slots = 0) (hR : rm.frames + 1 ≤ R.frames ∧ 8 + (maxL + 11) + rm.locals ≤ R.locals) (hn : As.length = n) (hls : ls.size = nL) (hst : st0 = As.reverse ++ .ref b :: rest) (hroom : (rest.map fun v => v.category).sum ≤ 8) (hcs : cells ≤ R.cells ∧ slots ≤ R.slots) (hdg : decode cc pc = .ok (.invokevirtual index, 3))
    (kk : ∀ (H1 : Heap) (locs1 : List Loc), IM D A H0 H1 locs1 w1 → W p l e R s m args below meth c H1 locs1 cells slots Q (F0 m (pc + 3) ls rest)) : W p l e R s m args below meth c H locs cells slots Q (F0 m pc ls st0) :=
  va_callv (va_runV (As := As) (rest := rest) C hM (cwV n C.2.2.2.2 G hw hrc.1 hrc.2 ⟨rfl, hd⟩ hR) ⟨blindE, j_recv hK I.1 hrv, fun U hU hW => ⟨rfl, by rw [hU], by rw [hU]; exact I.1, va_K.moved hW.alike hK, hN.warm hW, hD.weaken (fun _ _ _ _ => trivial)⟩⟩ rfl hn hls hst (lv_room hroom) hdg ⟨hcs.1, hcs.2⟩) I.2 (fun q _ h => j_freeE hD hA I.2 q h) (j_freeE hD hA I.2) (fun _ t H1 locs1 ht _ _ hB _ _ hS => kk H1 locs1 ⟨by rw [← ht]; exact hB, hS⟩)
theorem jVE_i {v : Int32} (C : CallFix p m c cc nL s args Ts own) (hM : Met l y ws rm (va_Pc (.ref b :: As) (PE D tys H.size wz w0)) (va_Qi (fun (x : Int32) (_ : Unit) => x = v) (fun _ t => va_P D vwCl w1 t.heap) (va_A wz H.size)) 0 0 (va_A wz H.size)) (G : GoodIn Ts (wsV own index y.cls y ws)) (hd : okD y n) (hK : va_K D vwCl tys s) (hN : NW s) (hD : va_D A wz) (hA : ∀ q : Nat, H0.size ≤ q → A q) (I : IM D A H0 H locs w0) (hrv : Recv w0 b y.cls) (hw : ws = Cond.code y bytes maxL ret :: ws') (hrc : rm.cells = 0 ∧ rm.slots = 0) (hR : rm.frames + 1 ≤ R.frames ∧ 8 + (maxL + 11) + rm.locals ≤ R.locals) (hn : As.length = n) (hls : ls.size = nL) (hst : st0 = As.reverse ++ .ref b :: rest) (hroom : (rest.map fun v => v.category).sum ≤ 8) (hcs : cells ≤ R.cells ∧ slots ≤ R.slots) (hdg : decode cc pc = .ok (.invokevirtual index, 3))
    (kk : ∀ (H1 : Heap) (locs1 : List Loc), IM D A H0 H1 locs1 w1 → W p l e R s m args below meth c H1 locs1 cells slots Q (F0 m (pc + 3) ls (.int v :: rest))) : W p l e R s m args below meth c H locs cells slots Q (F0 m pc ls st0) :=
  va_calli (va_runV (As := As) (rest := rest) C hM (cwV n C.2.2.2.2 G hw hrc.1 hrc.2 ⟨rfl, hd⟩ hR) ⟨blindE, j_recv hK I.1 hrv, fun U hU hW => ⟨rfl, by rw [hU], by rw [hU]; exact I.1, va_K.moved hW.alike hK, hN.warm hW, hD.weaken (fun _ _ _ _ => trivial)⟩⟩ rfl hn hls hst (lv_room hroom) hdg ⟨hcs.1, hcs.2⟩) I.2 (fun q _ h => j_freeE hD hA I.2 q h) (j_freeE hD hA I.2) (fun r _ t H1 locs1 ht _ hv hB _ _ hS => by subst hv; exact kk H1 locs1 ⟨by rw [← ht]; exact hB, hS⟩)
theorem jVE_l {v : Int64} (C : CallFix p m c cc nL s args Ts own) (hM : Met l y ws rm (va_Pc (.ref b :: As) (PE D tys H.size wz w0)) (va_Ql (fun (x : Int64) (_ : Unit) => x = v) (fun _ t => va_P D vwCl w1 t.heap) (va_A wz H.size)) 0 0 (va_A wz H.size)) (G : GoodIn Ts (wsV own index y.cls y ws)) (hd : okD y n) (hK : va_K D vwCl tys s) (hN : NW s) (hD : va_D A wz) (hA : ∀ q : Nat, H0.size ≤ q → A q) (I : IM D A H0 H locs w0) (hrv : Recv w0 b y.cls) (hw : ws = Cond.code y bytes maxL ret :: ws') (hrc : rm.cells = 0 ∧ rm.slots = 0) (hR : rm.frames + 1 ≤ R.frames ∧ 8 + (maxL + 11) + rm.locals ≤ R.locals) (hn : As.length = n) (hls : ls.size = nL) (hst : st0 = As.reverse ++ .ref b :: rest) (hroom : (rest.map fun v => v.category).sum ≤ 8) (hcs : cells ≤ R.cells ∧ slots ≤ R.slots) (hdg : decode cc pc = .ok (.invokevirtual index, 3))
    (kk : ∀ (H1 : Heap) (locs1 : List Loc), IM D A H0 H1 locs1 w1 → W p l e R s m args below meth c H1 locs1 cells slots Q (F0 m (pc + 3) ls (.long v :: rest))) : W p l e R s m args below meth c H locs cells slots Q (F0 m pc ls st0) :=
  va_calll (va_runV (As := As) (rest := rest) C hM (cwV n C.2.2.2.2 G hw hrc.1 hrc.2 ⟨rfl, hd⟩ hR) ⟨blindE, j_recv hK I.1 hrv, fun U hU hW => ⟨rfl, by rw [hU], by rw [hU]; exact I.1, va_K.moved hW.alike hK, hN.warm hW, hD.weaken (fun _ _ _ _ => trivial)⟩⟩ rfl hn hls hst (lv_room hroom) hdg ⟨hcs.1, hcs.2⟩) I.2 (fun q _ h => j_freeE hD hA I.2 q h) (j_freeE hD hA I.2) (fun r _ t H1 locs1 ht _ hv hB _ _ hS => by subst hv; exact kk H1 locs1 ⟨by rw [← ht]; exact hB, hS⟩)
theorem jVG_i {w1 wz1 : (Nat → Nat) → va_W} {mc ms : Nat} {v : Int32} (C : CallFix p m c cc nL s args Ts own) (hM : Met l y ws rm (va_Pc (.ref b :: As) (PE D tys H.size wz w0)) (va_Qi (fun (x : Int32) (_ : Nat → Nat) => x = v) (fun u t => va_P D vwCl (w1 u) t.heap ∧ va_D (va_A wz H.size) (wz1 u)) (va_A wz H.size)) mc ms (va_A wz H.size)) (G : GoodIn Ts (wsV own index y.cls y ws)) (hd : okD y n) (hK : va_K D vwCl tys s) (hN : NW s) (hD : va_D A wz) (hA : ∀ q : Nat, H0.size ≤ q → A q) (I : IM D A H0 H locs w0) (hrv : Recv w0 b y.cls) (hw : ws = Cond.code y bytes maxL ret :: ws') (hrc : rm.cells = mc ∧ rm.slots = ms) (hR : rm.frames + 1 ≤ R.frames ∧ 8 + (maxL + 11) + rm.locals ≤ R.locals) (hn : As.length = n) (hls : ls.size = nL) (hst : st0 = As.reverse ++ .ref b :: rest) (hroom : (rest.map fun v => v.category).sum ≤ 8) (hcs : cells + mc ≤ R.cells ∧ slots + ms ≤ R.slots) (hdg : decode cc pc = .ok (.invokevirtual index, 3))
    (kk : ∀ (u : Nat → Nat) (H1 : Heap) (locs1 : List Loc), va_D A (wz1 u) → IM D A H0 H1 locs1 (w1 u) → W p l e R s m args below meth c H1 locs1 (cells + mc) (slots + ms) Q (F0 m (pc + 3) ls (.int v :: rest))) : W p l e R s m args below meth c H locs cells slots Q (F0 m pc ls st0) :=
  va_calli (va_runV (As := As) (rest := rest) C hM (cwV n C.2.2.2.2 G hw hrc.1 hrc.2 ⟨rfl, hd⟩ hR) ⟨blindE, j_recv hK I.1 hrv, fun U hU hW => ⟨rfl, by rw [hU], by rw [hU]; exact I.1, va_K.moved hW.alike hK, hN.warm hW, hD.weaken (fun _ _ _ _ => trivial)⟩⟩ rfl hn hls hst (lv_room hroom) hdg hcs) I.2 (fun q _ h => j_freeE hD hA I.2 q h) (j_freeE hD hA I.2) (fun r u t H1 locs1 ht _ hv hB _ _ hS => by subst hv; exact kk u H1 locs1 (hB.2.weaken (fun _ q _ h => j_freeE hD hA I.2 q.1 h)) ⟨by rw [← ht]; exact hB.1, hS⟩)
end JC
-- THE ENDS
theorem rS_i {ret : FieldType} {v v' : Int32} (C : CallFix p m c cc nL s args Ts own) (hr : meth.sig.returnType = some ret) (hlk : meth.locks = false) (hQ : Q = MQ below (vp_Si (fun x => x = v')) args s 0 0 (fun _ => False)) (hn : narrow ret (.int v) = .int v) (hv : v = v') (hdg : decode cc pc = .ok (.ireturn, 1)) : W p l e R s m args below meth c s.heap [] 0 0 Q (F0 m pc ls [.int v]) := by
  subst hQ
  exact W.zret C.1 C.2.1 hr hn (fun t ht _ => ⟨v, rfl, hv, ht⟩) (fun _ h => by cases h) hdg hlk
theorem rS_l {v v' : Int64} (C : CallFix p m c cc nL s args Ts own) (hr : meth.sig.returnType = some .long) (hlk : meth.locks = false) (hQ : Q = MQ below (vp_Sl (fun x => x = v')) args s 0 0 (fun _ => False)) (hv : v = v') (hdg : decode cc pc = .ok (.lreturn, 1)) : W p l e R s m args below meth c s.heap [] 0 0 Q (F0 m pc ls [.long v]) := by
  subst hQ
  exact W.lret C.1 C.2.1 hr (fun t ht _ => ⟨v, rfl, hv, ht⟩) (fun _ h => by cases h) hdg hlk
theorem rE_i {ret : FieldType} {w : va_W} {v v' : Int32} (C : CallFix p m c cc nL s args Ts own) (hr : meth.sig.returnType = some ret) (hlk : meth.locks = false) (hQ : Q = MQ below (va_Qi (fun (x : Int32) (_ : Unit) => x = v') (fun _ t => va_P D vwCl w t.heap) A) args s cells slots A) (I : IM D A s.heap H locs w) (hn : narrow ret (.int v) = .int v) (hv : v = v') (hdg : decode cc pc = .ok (.ireturn, 1)) : W p l e R s m args below meth c H locs cells slots Q (F0 m pc ls [.int v]) := by
  subst hQ
  exact W.zret C.1 C.2.1 hr hn (fun t ht _ => ⟨⟨v, (), rfl, hv, by show va_P D vwCl w t.heap; rw [ht]; exact I.1⟩, I.2.F ht⟩) I.2.2.2 hdg hlk
theorem rE_l {w : va_W} {v v' : Int64} (C : CallFix p m c cc nL s args Ts own) (hr : meth.sig.returnType = some .long) (hlk : meth.locks = false) (hQ : Q = MQ below (va_Ql (fun (x : Int64) (_ : Unit) => x = v') (fun _ t => va_P D vwCl w t.heap) A) args s cells slots A) (I : IM D A s.heap H locs w) (hv : v = v') (hdg : decode cc pc = .ok (.lreturn, 1)) : W p l e R s m args below meth c H locs cells slots Q (F0 m pc ls [.long v]) := by
  subst hQ
  exact W.lret C.1 C.2.1 hr (fun t ht _ => ⟨⟨v, (), rfl, hv, by show va_P D vwCl w t.heap; rw [ht]; exact I.1⟩, I.2.F ht⟩) I.2.2.2 hdg hlk
theorem rS_q {v v' : Option Nat} {C0 : String} (C : CallFix p m c cc nL s args Ts own) (hr : meth.sig.returnType = some (.object C0)) (hlk : meth.locks = false) (hQ : Q = MQ below (va_Sq (fun x => x = v')) args s 0 0 (fun _ => False)) (hv : v = v') (hdg : decode cc pc = .ok (.areturn, 1)) : W p l e R s m args below meth c s.heap [] 0 0 Q (F0 m pc ls [va_rf v]) := by
  subst hQ
  exact W.aret C.1 C.2.1 hr (Or.inl ⟨_, rfl⟩) (by cases v with
    | none => exact Or.inl rfl
    | some a => exact Or.inr ⟨a, rfl⟩) (fun t ht _ => ⟨v, rfl, hv, ht⟩) (fun _ h => by cases h) hdg hlk
theorem rG_i {w wz : (Nat → Nat) → va_W} {v v' : Int32} (u : Nat → Nat) (C : CallFix p m c cc nL s args Ts own) (hr : meth.sig.returnType = some .int) (hlk : meth.locks = false) (hQ : Q = MQ below (va_Qi (fun (x : Int32) (_ : Nat → Nat) => x = v') (fun u t => va_P D vwCl (w u) t.heap ∧ va_D A (wz u)) A) args s cells slots A) (I : IM D A s.heap H locs (w u)) (hD : va_D A (wz u)) (hn : narrow .int (.int v) = .int v) (hv : v = v') (hdg : decode cc pc = .ok (.ireturn, 1)) : W p l e R s m args below meth c H locs cells slots Q (F0 m pc ls [.int v]) := by
  subst hQ
  exact W.iret C.1 C.2.1 hr (fun t ht _ => ⟨⟨v, u, rfl, hv, by rw [ht]; exact I.1, hD⟩, I.2.F ht⟩) I.2.2.2 hdg hlk
theorem rE_v {w : va_W} (C : CallFix p m c cc nL s args Ts own) (hr : meth.sig.returnType = none) (hlk : meth.locks = false) (hQ : Q = MQ below (va_Qv (fun _ : Unit => True) (fun _ t => va_P D vwCl w t.heap) A) args s cells slots A) (I : IM D A s.heap H locs w) (hdg : decode cc pc = .ok (.return_, 1)) : W p l e R s m args below meth c H locs cells slots Q (F0 m pc ls []) := by
  subst hQ
  exact W.vret C.1 C.2.1 hr (fun t ht _ => ⟨⟨(), rfl, trivial, by show va_P D vwCl w t.heap; rw [ht]; exact I.1⟩, I.2.F ht⟩) I.2.2.2 hdg hlk
end JB
-- THE STARTS
theorem E_in {l : Launch} {y : MethodName} {ws ws' : List Cond} {rm : Room} {cc : ByteArray} {maxL : Nat} {ret : Option FieldType} {D : va_G} {tys : List (ClassId × FieldType)} {wz w0 : va_W} {sz mc ms : Nat} {av : List Value} {Qc : Array Value → State → Outcome → State → Prop} {free : Addr → Prop} (hy : plainName y.cls = true) (hw : ws = Cond.code y cc maxL ret :: ws') (hlen : (lg_sl av).length ≤ maxL)
    (body : ∀ (p : Program) (e : Env) (s : State) (m : MethodId) (args : Array Value) (below : List Frame) (meth : Method) (c : Code) (ls : Array Slot) (Q : State → Prop), Q = MQ below Qc args s mc ms free → CallFix p m c cc maxL s args ws y.cls → meth.sig.returnType = ret → meth.locks = false → va_K D vwCl tys s → NW s → va_D (va_A wz sz) wz → (∀ q : Nat, s.heap.size ≤ q → va_A wz sz q) → IM D (va_A wz sz) s.heap s.heap [] w0 → lv_has ls maxL (lv_args 0 av) → W p l e rm s m args below meth c s.heap [] 0 0 Q (F0 m 0 ls [])) : Met l y ws rm (va_Pc av (PE D tys sz wz w0)) Qc mc ms free := by
  refine Met.ofW (cc := cc) (maxL := maxL) (ret := ret) hy hw ?_
  intro p e s m args below meth c s₁ B hml hv
  obtain ⟨rfl, hsz, hP, hK, hN, hD0⟩ := hv
  have hts := atoms_spec (ws := ws) B.pre
  have hown : s.vm.findClass y.cls = some m.cls := findClass_of_methodNamed B.named
  rw [lg_entry_eq]
  exact body p e s m _ below meth c _ _ rfl ⟨B.exec, B.bytes, hml, hown, hts⟩ B.returns B.notSynchronized hK hN hD0.self (fun q h => Or.inr (by rw [← hsz]; exact h)) ⟨hP, va_S.rf⟩ (lv_entry av hlen)
theorem S_in {l : Launch} {y : MethodName} {ws ws' : List Cond} {rm : Room} {cc : ByteArray} {maxL : Nat} {ret : Option FieldType} {D : va_G} {tys : List (ClassId × FieldType)} {w0 : va_W} {mc ms : Nat} {av : List Value} {Qc : Array Value → State → Outcome → State → Prop} {free : Addr → Prop} (hy : plainName y.cls = true) (hw : ws = Cond.code y cc maxL ret :: ws') (hlen : (lg_sl av).length ≤ maxL)
    (body : ∀ (p : Program) (e : Env) (s : State) (m : MethodId) (args : Array Value) (below : List Frame) (meth : Method) (c : Code) (ls : Array Slot) (Q : State → Prop), Q = MQ below Qc args s mc ms free → CallFix p m c cc maxL s args ws y.cls → meth.sig.returnType = ret → meth.locks = false → va_K D vwCl tys s → NW s → va_P D vwCl w0 s.heap → lv_has ls maxL (lv_args 0 av) → W p l e rm s m args below meth c s.heap [] 0 0 Q (F0 m 0 ls [])) : Met l y ws rm (va_Pc av (PS D tys w0)) Qc mc ms free := by
  refine Met.ofW (cc := cc) (maxL := maxL) (ret := ret) hy hw ?_
  intro p e s m args below meth c s₁ B hml hv
  obtain ⟨rfl, hP, hK, hN⟩ := hv
  have hts := atoms_spec (ws := ws) B.pre
  have hown : s.vm.findClass y.cls = some m.cls := findClass_of_methodNamed B.named
  rw [lg_entry_eq]
  exact body p e s m _ below meth c _ _ rfl ⟨B.exec, B.bytes, hml, hown, hts⟩ B.returns B.notSynchronized hK hN hP (lv_entry av hlen)
theorem N_in {l : Launch} {y : MethodName} {ws ws' : List Cond} {rm : Room} {cc : ByteArray} {maxL : Nat} {ret : Option FieldType} {mc ms : Nat} {av : List Value} {Qc : Array Value → State → Outcome → State → Prop} {free : Addr → Prop} (hy : plainName y.cls = true) (hw : ws = Cond.code y cc maxL ret :: ws') (hlen : (lg_sl av).length ≤ maxL)
    (body : ∀ (p : Program) (e : Env) (s : State) (m : MethodId) (args : Array Value) (below : List Frame) (meth : Method) (c : Code) (ls : Array Slot) (Q : State → Prop), Q = MQ below Qc args s mc ms free → CallFix p m c cc maxL s args ws y.cls → meth.sig.returnType = ret → meth.locks = false → lv_has ls maxL (lv_args 0 av) → W p l e rm s m args below meth c s.heap [] 0 0 Q (F0 m 0 ls [])) : Met l y ws rm (va_Pc av PN) Qc mc ms free := by
  refine Met.ofW (cc := cc) (maxL := maxL) (ret := ret) hy hw ?_
  intro p e s m args below meth c s₁ B hml hv
  obtain ⟨rfl, -⟩ := hv
  have hts := atoms_spec (ws := ws) B.pre
  have hown : s.vm.findClass y.cls = some m.cls := findClass_of_methodNamed B.named
  rw [lg_entry_eq]
  exact body p e s m _ below meth c _ _ rfl ⟨B.exec, B.bytes, hml, hown, hts⟩ B.returns B.notSynchronized (lv_entry av hlen)
