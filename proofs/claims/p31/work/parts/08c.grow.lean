-- a new word: its constructor, and the road that it becomes (by hand)
abbrev rm3_init : Room := { frames := 2, cells := 0, slots := 0, locals := 44 }
theorem hd3_init : okD yX3_init 2 := by decide +kernel
theorem ml3_init : Cond.methodLink RX3 3 objectInit ∈ wsX3_init := by decide +kernel
theorem im3_init : Cond.instanceMethod objectInit ∈ wsX3_init := by decide +kernel
theorem oc3_init : Cond.code objectInit ⟨#[0xb1]⟩ 1 none ∈ wsX3_init := by decide +kernel
section WI
variable {l : Launch} {D : va_G} {sz : Nat}
variable {w : va_W} {i i2 h0 h1 : Nat} {tys : List (ClassId × FieldType)}
variable {v_bits v_size v_allBits v_a v_b v_c v_d v_o_bits v_o_size v_o_allBits v_o_a v_o_b v_o_c v_o_d : Int32}
set_option maxHeartbeats 8000000 in
set_option maxRecDepth 100000 in
theorem c3_init {x1 : Int32} {x2 : Int32} {res : Int32 × Int32 × Int32 × Int32 × Int32 × Int32 × Int32} (hi : i < w.length) (hrun : P3_become x1 x2 = some res) : Met l yX3_init wsX3_init rm3_init (va_Pc [.ref h0, .int x1, .int x2] (PE D tys sz (wW w i h0 0 0 0 0 0 0 0) (wW w i h0 v_bits v_size v_allBits v_a v_b v_c v_d))) (va_Qv (fun _ : Unit => True) (fun _ t => va_P D vwCl (wW w i h0 res.1 res.2.1 res.2.2.1 res.2.2.2.1 res.2.2.2.2.1 res.2.2.2.2.2.1 res.2.2.2.2.2.2) t.heap) (va_A (wW w i h0 0 0 0 0 0 0 0) sz)) 0 0 (va_A (wW w i h0 0 0 0 0 0 0 0) sz) := by
  refine E_in (cc := cX3_init) (maxL := 3) (ret := none) (by decide) rfl (Nat.le_of_ble_eq_true rfl) ?_
  intro p e s m args below meth c ls Q hQ C hr hlk hK hN hD hA I hl
  have C : CallFix p m c cX3_init 3 s args wsX3_init RX3 := C
  have hx := C.1
  have hb := C.2.1
  have hl : lv_has ls 3 [(0, .ref h0), (1, .int x1), (2, .int x2)] := hl
  refine lv_aload_n hx hb dX3_init_0 rfl (lv_at hl 0 rfl) ?_
  refine W.objInit hx hb C.2.2.2.1 (C.2.2.2.2 _ ml3_init) (C.2.2.2.2 _ im3_init) (C.2.2.2.2 _ oc3_init) rfl (by rw [C.2.2.1]; exact hl.1) rfl dX3_init_1 (Nat.le_of_ble_eq_true rfl) (Nat.le_of_ble_eq_true rfl) ?_
  refine W.eq (g2 := F0 m 4 ls []) rfl ?_
  refine lv_aload_n hx hb dX3_init_4 rfl (lv_at hl 0 rfl) ?_
  refine lv_iload_n hx hb dX3_init_5 rfl (lv_at hl 1 rfl) ?_
  refine lv_iload_n hx hb dX3_init_6 rfl (lv_at hl 2 rfl) ?_
  refine jVE_v (rest := []) C (c3_become hi hrun) gX3_init_X3_become hd3_become hK hN hD hA I ⟨i, 3, _, _, wW_get hi, rfl, rfl⟩ rfl ⟨rfl, rfl⟩ ⟨Nat.le_of_ble_eq_true rfl, Nat.le_of_ble_eq_true rfl⟩ rfl hl.1 rfl (Nat.le_of_ble_eq_true rfl) ⟨Nat.le_of_ble_eq_true rfl, Nat.le_of_ble_eq_true rfl⟩ dX3_init_7 (fun H locs I => ?_)
  exact rE_v C hr hlk hQ I dX3_init_10
end WI
theorem va_P_mem {D : va_G} {cl : List vw_C} {ws ws2 : va_W} {H : Heap} (h : ∀ e ∈ ws2, e ∈ ws) (hP : va_P D cl ws H) : va_P D cl ws2 H := fun k q hk => by
  obtain ⟨i, hi⟩ := List.getElem?_of_mem (h q (List.mem_of_getElem? hk))
  exact hP i q hi
theorem va_D_fresh {A : Nat → Prop} {ws : va_W} {q i : Nat} {e e2 : va_E} (hD : va_D A (ws ++ [(q, e)])) (hi : i < ws.length) : va_D A (ws.set i (q, e2)) := by
  have hl : (ws ++ [(q, e)])[ws.length]? = some (q, e) := by rw [List.getElem?_append_right (Nat.le_refl _)]; simp
  have ho : ∀ (k : Nat) (p : Nat × va_E), ws[k]? = some p → (ws ++ [(q, e)])[k]? = some p := fun k p hk => by
    rw [List.getElem?_append_left (List.getElem?_eq_some_iff.mp hk).1]
    exact hk
  have hf : ∀ (k : Nat) (p : Nat × va_E), ws[k]? = some p → p.1 ≠ q := fun k p hk hq => by
    have h1 := hD.1 k ws.length p (q, e) (ho k p hk) hl hq
    have h2 := (List.getElem?_eq_some_iff.mp hk).1
    omega
  have hg : ∀ (k : Nat) (p : Nat × va_E), (ws.set i (q, e2))[k]? = some p → (k = i ∧ p.1 = q) ∨ (k ≠ i ∧ ws[k]? = some p) := fun k p hk => by
    by_cases hki : k = i
    · subst hki
      rw [List.getElem?_set_self hi] at hk
      exact Or.inl ⟨rfl, by rw [← Option.some.inj hk]⟩
    · rw [List.getElem?_set_ne (fun z => hki z.symm)] at hk
      exact Or.inr ⟨hki, hk⟩
  refine ⟨fun a b x y ha hb hxy => ?_, fun k x hk => ?_⟩
  · rcases hg a x ha with ⟨a1, a2⟩ | ⟨a1, a2⟩ <;> rcases hg b y hb with ⟨b1, b2⟩ | ⟨b1, b2⟩
    · omega
    · exact absurd (by rw [← hxy, a2]) (hf b y b2)
    · exact absurd (by rw [hxy, b2]) (hf a x a2)
    · exact hD.1 a b x y (ho a x a2) (ho b y b2) hxy
  · rcases hg k x hk with ⟨a1, a2⟩ | ⟨a1, a2⟩
    · rw [a2]
      exact hD.2 _ _ hl
    · exact hD.2 k x (ho k x a2)
section XG
variable {p : Program} {l : Launch} {e : Env} {R : Room} {s : State} {m : MethodId} {args : Array Value} {below : List Frame} {meth : Method} {c : Code} {H : Heap} {locs : List Loc} {cells slots : Nat} {Q : State → Prop}
variable {cc : ByteArray} {pc : Nat} {ls : Array Slot} {rest : List Value} {D : va_G} {A : Nat → Prop} {H0 : Heap} {nL index : Nat} {Ts : List Cond} {own : String}
variable {ad fa ca wad : Nat → Nat} {cI cR cG : ClassId}
variable {v_roadCount v_readings v_psize v_good v_pbits v_letters v_afterLetter v_disc v_rsize v_cycleCount v_closed v_traces v_crossings v_db_bits v_db_size v_db_allBits v_db_a v_db_b v_db_c v_db_d v_dn_bits v_dn_size v_dn_allBits v_dn_a v_dn_b v_dn_c v_dn_d : Int32}
variable {v_s : Int64}
variable {v_codes : Nat → Int32}
variable {v_fo v_cy v_wv : Nat → Nat → Int32}
variable {v_wn : Nat}

theorem WX_growP {k0 q : Nat} {b s2 al a bb c2 d : Int32} (hk : k0 ≤ v_wn) (hP : va_P D vwCl (((WX ad fa ca wad cI cR cG v_roadCount v_readings v_psize v_good v_pbits v_letters v_afterLetter v_codes v_disc v_rsize v_cycleCount v_fo v_cy v_s v_closed v_traces v_crossings v_db_bits v_db_size v_db_allBits v_db_a v_db_b v_db_c v_db_d v_dn_bits v_dn_size v_dn_allBits v_dn_a v_dn_b v_dn_c v_dn_d v_wn v_wv) ++ [(q, (Sum.inr (3, wl b s2 al a bb c2 d) : va_E))]).set 3 (ad 3, .inl (cR, 6, .inr (.inr (.inr (.inr (va_up (fun k => if k < v_wn then some (wad k) else none) k0 (some q)))))))) H) : va_P D vwCl (WX ad fa ca (fun k => if k = k0 then q else wad k) cI cR cG v_roadCount v_readings v_psize v_good v_pbits v_letters v_afterLetter v_codes v_disc v_rsize v_cycleCount v_fo v_cy v_s v_closed v_traces v_crossings v_db_bits v_db_size v_db_allBits v_db_a v_db_b v_db_c v_db_d v_dn_bits v_dn_size v_dn_allBits v_dn_a v_dn_b v_dn_c v_dn_d (if k0 < v_wn then v_wn else v_wn + 1) (wvset v_wv k0 b s2 al a bb c2 d)) H := by
  have hf : (va_up (fun k => if k < v_wn then some (wad k) else none) k0 (some q)) = (fun k => if k < (if k0 < v_wn then v_wn else v_wn + 1) then some ((fun k => if k = k0 then q else wad k) k) else none) := by
    funext k
    dsimp only [va_up]
    by_cases h1 : k = k0
    · rw [if_pos h1, if_pos h1, if_pos (by split <;> omega)]
    · rw [if_neg h1, if_neg h1]
      by_cases h2 : k < v_wn
      · rw [if_pos h2, if_pos (by split <;> omega)]
      · rw [if_neg h2, if_neg (by split <;> omega)]
  rw [hf] at hP
  refine va_P_mem (fun e he => ?_) hP
  rw [List.set_append_left 3 _ (by show 3 < _; unfold WX; rw [List.length_append]; show 3 < 10 + _; omega)]
  unfold WX at he ⊢
  rw [List.set_append_left 3 _ (by show 3 < 10; omega)]
  rcases List.mem_append.mp he with h | h
  · exact List.mem_append_left _ (List.mem_append_left _ h)
  · rcases List.mem_append.mp h with h | h
    · exact List.mem_append_left _ (List.mem_append_right _ (List.mem_append_left _ h))
    · rcases List.mem_append.mp h with h | h
      · exact List.mem_append_left _ (List.mem_append_right _ (List.mem_append_right _ (List.mem_append_left _ h)))
      · obtain ⟨k, hk1, rfl⟩ := List.mem_map.mp h
        by_cases h1 : k = k0
        · subst h1
          refine List.mem_append_right _ ?_
          simp [wrow, wvset]
        · refine List.mem_append_left _ (List.mem_append_right _ (List.mem_append_right _ (List.mem_append_right _ ?_)))
          refine List.mem_map.mpr ⟨k, ?_, by simp [wrow, wvset, h1]⟩
          have h2 := List.mem_range.mp hk1
          refine List.mem_range.mpr ?_
          split at h2 <;> omega
theorem WX_growD {k0 q : Nat} {e : va_E} (hk : k0 ≤ v_wn) (hD : va_D A ((WX ad fa ca wad cI cR cG v_roadCount v_readings v_psize v_good v_pbits v_letters v_afterLetter v_codes v_disc v_rsize v_cycleCount v_fo v_cy v_s v_closed v_traces v_crossings v_db_bits v_db_size v_db_allBits v_db_a v_db_b v_db_c v_db_d v_dn_bits v_dn_size v_dn_allBits v_dn_a v_dn_b v_dn_c v_dn_d v_wn v_wv) ++ [(q, e)])) : va_D A (WX0 ad fa ca (fun k => if k = k0 then q else wad k) cI cR cG (if k0 < v_wn then v_wn else v_wn + 1)) := by
  by_cases h : k0 < v_wn
  · rw [if_pos h]
    have hlen : ((WX ad fa ca wad cI cR cG v_roadCount v_readings v_psize v_good v_pbits v_letters v_afterLetter v_codes v_disc v_rsize v_cycleCount v_fo v_cy v_s v_closed v_traces v_crossings v_db_bits v_db_size v_db_allBits v_db_a v_db_b v_db_c v_db_d v_dn_bits v_dn_size v_dn_allBits v_dn_a v_dn_b v_dn_c v_dn_d v_wn v_wv)).length = 23 + v_wn := by
      unfold WX
      simp only [List.length_append, List.length_map, List.length_range]
      show 10 + _ = _
      omega
    refine va_D_congr ?_ (va_D_fresh (i := 23 + k0) (e2 := .inr (3, wl 0 0 0 0 0 0 0)) hD (by rw [hlen]; omega))
    have e1 : (WX ad fa ca wad cI cR cG v_roadCount v_readings v_psize v_good v_pbits v_letters v_afterLetter v_codes v_disc v_rsize v_cycleCount v_fo v_cy v_s v_closed v_traces v_crossings v_db_bits v_db_size v_db_allBits v_db_a v_db_b v_db_c v_db_d v_dn_bits v_dn_size v_dn_allBits v_dn_a v_dn_b v_dn_c v_dn_d v_wn v_wv) = WX ad fa ca wad cI cR cG v_roadCount v_readings v_psize v_good v_pbits v_letters v_afterLetter v_codes v_disc v_rsize v_cycleCount v_fo v_cy v_s v_closed v_traces v_crossings v_db_bits v_db_size v_db_allBits v_db_a v_db_b v_db_c v_db_d v_dn_bits v_dn_size v_dn_allBits v_dn_a v_dn_b v_dn_c v_dn_d v_wn v_wv := rfl
    unfold WX0 WX
    rw [List.set_append_right (23 + k0) _ (by show 10 ≤ 23 + k0; omega), show 23 + k0 - (WXh ad fa ca wad cI cR cG v_roadCount v_readings v_psize v_good v_pbits v_letters v_afterLetter v_codes v_disc v_rsize v_cycleCount v_s v_closed v_traces v_crossings v_db_bits v_db_size v_db_allBits v_db_a v_db_b v_db_c v_db_d v_dn_bits v_dn_size v_dn_allBits v_dn_a v_dn_b v_dn_c v_dn_d v_wn).length = 13 + k0 from by show 23 + k0 - 10 = 13 + k0; omega, List.set_append_right (13 + k0) _ (by simp; omega), show 13 + k0 - ((List.range 8).map (irow fa cI 320 v_fo)).length = 5 + k0 from by simp; omega, List.set_append_right (5 + k0) _ (by simp), show 5 + k0 - ((List.range 5).map (irow ca cI 10 v_cy)).length = k0 from by simp, rg_set]
    simp only [List.map_append, List.map_map]
    congr 1
    congr 1
    congr 1
    apply List.map_congr_left
    intro k _
    by_cases hkk : k = k0
    · simp [wrow, hkk]
    · simp [wrow, hkk]
  · have h2 : v_wn = k0 := by omega
    subst h2
    rw [if_neg (Nat.lt_irrefl _)]
    refine va_D_congr ?_ hD
    unfold WX0 WX
    simp only [List.map_append, List.map_map, List.append_assoc]
    congr 1
    congr 1
    congr 1
    rw [List.range_succ, List.map_append]
    congr 1
    · apply List.map_congr_left
      intro k hk1
      have h3 := List.mem_range.mp hk1
      show wad k = if k = v_wn then q else wad k
      rw [if_neg (by omega)]
    · show [q] = [if v_wn = v_wn then q else wad v_wn]
      rw [if_pos rfl]
end XG
