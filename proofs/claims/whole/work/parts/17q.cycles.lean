-- ALL CYCLES LAID, HERE AND THERE
theorem n_a0 (x : Int32) : x + 0 = x := Int32.add_zero x
theorem u2_off {f : Nat → Nat → Int32} {j i w e : Nat} {v : Int32} (h : ¬ e = i) : upd2 f j i v w e = f w e := by
  by_cases c : w = j
  · rw [c, u2_at, pk_un h]
  · rw [u2_ne c]
theorem CY_keep {d : Nat} {first first' : Nat → Nat} {cy cy' : Nat → Nat → Int32} {e : Nat} (hf : first' e = first e) (hc : ∀ w, w < 3 → cy' w e = cy w e) (h : CY d first cy e) : CY d first' cy' e := by
  unfold CY at *
  rw [hf, hc 0 (by omega), hc 1 (by omega), hc 2 (by omega)]
  exact h
theorem w_addCycle {d : Nat} (hd : VD d) {i l q : Nat} {fo cy : Nat → Nat → Int32} (hq : q < 10) (hi : i < (FL d).length) (hl : Per (nxI d) i l) (hln : l ≤ (FL d).length) (hx : ∀ j, j < (FL d).length → fo 4 j = nI (nxI d j) ∧ fo 5 j = lcI d j) (hk : Kept (nxI d) (FL d).length (fo 3)) (h0 : fo 3 i = -2000000001) : ∃ (g cy' : Nat → Nat → Int32), P2_addCycle (nI (FL d).length) (nI q) fo cy (nI i) = some (nI (q + 1), g, cy') ∧ Same3 fo g ∧ MK (nxI d) (FL d).length i l q (fo 3) (g 3) ∧ (∀ w e, ¬ e = q → cy' w e = cy w e) ∧ cy' 0 q = nI i ∧ cy' 1 q = nI l ∧ cy' 2 q = nI (cnt (fun u => lfI d (it (nxI d) u i)) l) := by
  have hn := (FL_facts hd).1
  obtain ⟨g, h1, h2, h3⟩ := w_walk hd (q := q) (by omega) hi hl hln hx hk h0 l 0 FU fo (by omega) (by unfold FU; omega) (fun w _ => rfl) (fun j hj => by rw [mkd, if_neg (by decide)])
  have S0 : ∀ f v, P2_setCycle (nI (q + 1)) f (nI q) 0 v = some (upd2 f 0 q v) := fun f v => setC (w := 0) (by omega) (by omega) (by omega)
  have S1 : ∀ f v, P2_setCycle (nI (q + 1)) f (nI q) 1 v = some (upd2 f 1 q v) := fun f v => setC (w := 1) (by omega) (by omega) (by omega)
  have S2 : ∀ f v, P2_setCycle (nI (q + 1)) f (nI q) 2 v = some (upd2 f 2 q v) := fun f v => setC (w := 2) (by omega) (by omega) (by omega)
  unfold P2_addCycle
  rw [show P2_addCycle_23 (nI (FL d).length) (nI q) FU fo (nI i) 0 0 = _ from h1, ob, nI_1]
  simp only []
  rw [S0, ob, S1, ob, S2, ob]
  refine ⟨g, _, rfl, h2, h3, fun w e he => ?_, ?_, ?_, ?_⟩
  · rw [u2_off he, u2_off he, u2_off he]
  · rw [u2_ne (w := 0) (by omega), u2_ne (w := 0) (by omega), u2_at, pk_us]
  · rw [u2_ne (w := 1) (by omega), u2_at, pk_us]
  · rw [u2_at, pk_us]
theorem OI_skip {d i q : Nat} {c : Nat → Int32} {first : Nat → Nat} (h : OI d i q c first) (h0 : ¬ c i = -2000000001) : OI d (i + 1) q c first := by
  obtain ⟨h1, h2, h3, h4, h5⟩ := h
  refine ⟨h1, fun j hj => ?_, ?_, h4, h5⟩
  · by_cases e : j = i
    · rw [e]
      exact h0
    · exact h2 j (by omega)
  · have := cnt_mono (lowB d) 1 i
    omega
theorem cyc_loop {d : Nat} (hd : VD d) {next : Nat → Int32} (hnx : ∀ j, j < (FL d).length → next j = nI (nxI d j)) : ∀ (j i f g q : Nat) (fo cy : Nat → Nat → Int32) (c fs : Nat → Int32) (first : Nat → Nat), i + j = (FL d).length → j < f → j < g → (∀ t, t < (FL d).length → fo 4 t = nI (nxI d t) ∧ fo 5 t = lcI d t) → OI d i q (fo 3) first → (∀ t, t < (FL d).length → c t = fo 3 t) → (∀ e, e < q → fs e = nI (first e) ∧ CY d first cy e) → ∃ (q' : Nat) (fo' cy' : Nat → Nat → Int32) (c' fs' : Nat → Int32) (first' : Nat → Nat), P2_addCycles_2 (nI (FL d).length) f (nI q) fo cy (nI i) = some (nI q', fo', cy') ∧ P5_layCycles_42 (nI (FL d).length) next g c (nI q) fs (nI i) = some (c', nI q', fs') ∧ Same3 fo fo' ∧ OI d (FL d).length q' (fo' 3) first' ∧ (∀ t, t < (FL d).length → c' t = fo' 3 t) ∧ (∀ e, e < q' → fs' e = nI (first' e) ∧ CY d first' cy' e)
  | 0, i, f, g, q, fo, cy, c, fs, first, hi, hf, hg, hx, hO, hc, hs => by
    obtain ⟨f, rfl⟩ : ∃ w, f = w + 1 := ⟨f - 1, by omega⟩
    obtain ⟨g, rfl⟩ : ∃ w, g = w + 1 := ⟨g - 1, by omega⟩
    have hn := (FL_facts hd).1
    rw [show i = (FL d).length by omega] at hO ⊢
    refine ⟨q, fo, cy, c, fs, first, ?_, ?_, fun w _ => rfl, hO, hc, hs⟩
    · rw [P2_addCycles_2, if_pos (nI_le (Nat.le_refl _) (by omega))]
    · rw [P5_layCycles_42, if_pos (nI_le (Nat.le_refl _) (by omega))]
  | j + 1, i, f, g, q, fo, cy, c, fs, first, hi, hf, hg, hx, hO, hc, hs => by
    obtain ⟨f, rfl⟩ : ∃ w, f = w + 1 := ⟨f - 1, by omega⟩
    obtain ⟨g, rfl⟩ : ∃ w, g = w + 1 := ⟨g - 1, by omega⟩
    have hn := (FL_facts hd).1
    have hlt : i < (FL d).length := by omega
    have hv : vx (nI i) 1200 := n_in (show i < 1200 by omega) (by omega)
    rw [P2_addCycles_2, if_neg (nI_ge hlt (by omega)), show P2_ofForm (nI (FL d).length) fo (nI i) 3 = _ from ofF (w := 3) hlt hn (by omega), ob, P5_layCycles_42, if_neg (nI_ge hlt (by omega)), if_pos hv, n_cl (show i < 2 ^ 31 by omega), hc i hlt]
    by_cases h0 : fo 3 i = -2000000001
    · obtain ⟨l, hln, hl⟩ := per_ex (nx_perm hd) hlt
      have hO' := OI_step hd hlt hO h0 hl (c' := fun j => if mkd (nxI d) i l j = true then nI q else fo 3 j) (fun j _ => rfl)
      have hm := cnt_mono (lowB d) j (i + 1)
      rw [show i + 1 + j = (FL d).length by omega] at hm
      have q10 : q < 10 := by
        have h1 := lowB_10 hd
        have h2 := hO'.2.2.1
        omega
      obtain ⟨g', cy', a1, a2, a3, a4, a5, a6, a7⟩ := w_addCycle (cy := cy) hd q10 hlt hl hln hx hO.1 h0
      obtain ⟨c2, b1, b3⟩ := m_walk hn (q := q) (by omega) (nx_perm hd) hlt hl hnx hO.1 h0 l 0 FU c (by omega) (by unfold FU; omega) (fun j hj => by rw [mkd, if_neg (by decide)]; exact hc j hj)
      obtain ⟨q', fo', cy2, c3, fs', first', r1, r2, r3, r4, r5, r6⟩ := cyc_loop hd hnx j (i + 1) f g (q + 1) g' cy' c2 (upd fs q (nI i)) (fun e => if e = q then i else first e) (by omega) (by omega) (by omega) (fun t ht => by rw [a2 4 (by omega), a2 5 (by omega)]; exact hx t ht) (OI_step hd hlt hO h0 hl a3) (fun t ht => by rw [b3 t ht, a3 t ht]) (fun e he => by
        by_cases w : e = q
        · rw [w]
          refine ⟨?_, ?_⟩
          · show upd fs q (nI i) q = nI (if q = q then i else first q)
            rw [pk_us, if_pos rfl]
          · unfold CY
            simp only [if_true]
            exact ⟨a5, l, hl, hln, a6, a7⟩
        · obtain ⟨s1, s2⟩ := hs e (by omega)
          refine ⟨?_, CY_keep (if_neg w) (fun x _ => a4 x e w) s2⟩
          show upd fs q (nI i) e = nI (if e = q then i else first e)
          rw [pk_un w, if_neg w]
          exact s1)
      rw [if_pos h0, if_pos h0, if_neg (show ¬ (10 : Int32) ≤ nI q from nI_ge (b := 10) q10 (by omega)), a1, ob, if_pos (show vx (nI q) 1200 from n_in (by omega) (by omega)), show P5_layCycles_73 next (nI q) FU c (nI i) = _ from b1, ob, n_cl (show q < 2 ^ 31 by omega)]
      simp only [nI_1]
      exact ⟨q', fo', cy2, c3, fs', first', r1, r2, fun w hw => by rw [r3 w hw, a2 w hw], r4, r5, r6⟩
    · rw [if_neg h0, if_neg h0, nI_1]
      exact cyc_loop hd hnx j (i + 1) f g q fo cy c fs first (by omega) (by omega) (by omega) hx (OI_skip hO h0) hc hs
/-- the class's links from cycle to cycle -/
theorem w_linkC_loop {d q : Nat} (hd : VD d) {fo : Nat → Nat → Int32} {first : Nat → Nat} (hx : ∀ t, t < (FL d).length → fo 6 t = nI (rvI d t) ∧ fo 7 t = nI (opI d t)) (hq : q ≤ 10) (hfi : ∀ e, e < q → first e < (FL d).length) : ∀ (j i f : Nat) (cy : Nat → Nat → Int32), i + j = q → j < f → (∀ e, e < q → cy 0 e = nI (first e)) → (∀ e, e < i → cy 3 e = fo 3 (rvI d (first e)) ∧ cy 4 e = fo 3 (opI d (first e))) → ∃ cy', P2_linkCycles_2 (nI (FL d).length) (nI q) fo f cy (nI i) = some cy' ∧ (∀ w, w < 3 → cy' w = cy w) ∧ ∀ e, e < q → cy' 3 e = fo 3 (rvI d (first e)) ∧ cy' 4 e = fo 3 (opI d (first e))
  | 0, i, f, cy, hi, hf, h0, h => by
    obtain ⟨f, rfl⟩ : ∃ w, f = w + 1 := ⟨f - 1, by omega⟩
    refine ⟨cy, ?_, fun w _ => rfl, fun e he => h e (by omega)⟩
    rw [P2_linkCycles_2, if_pos (nI_le (by omega) (by omega))]
  | j + 1, i, f, cy, hi, hf, h0, h => by
    obtain ⟨f, rfl⟩ : ∃ w, f = w + 1 := ⟨f - 1, by omega⟩
    have hn := (FL_facts hd).1
    have hlt : i < q := by omega
    have h1 := hfi i hlt
    have h2 := (rv_at hd h1).1
    have h3 := (op_at hd h1).1
    have S3 : ∀ f v, P2_setCycle (nI q) f (nI i) 3 v = some (upd2 f 3 i v) := fun f v => setC (w := 3) hlt hq (by omega)
    have S4 : ∀ f v, P2_setCycle (nI q) f (nI i) 4 v = some (upd2 f 4 i v) := fun f v => setC (w := 4) hlt hq (by omega)
    obtain ⟨cy', r1, r2, r3⟩ := w_linkC_loop hd hx hq hfi j (i + 1) f (upd2 (upd2 cy 3 i (fo 3 (rvI d (first i)))) 4 i (fo 3 (opI d (first i)))) (by omega) (by omega) (fun e he => by rw [u2_ne (w := 0) (by omega), u2_ne (w := 0) (by omega)]; exact h0 e he) (fun e he => by
      rw [u2_ne (w := 3) (by omega), u2_at, u2_at, u2_ne (w := 4) (by omega)]
      by_cases w : e = i
      · rw [w, pk_us, pk_us]
        exact ⟨rfl, rfl⟩
      · rw [pk_un w, pk_un w]
        exact h e (by omega))
    rw [P2_linkCycles_2, if_neg (nI_ge hlt (by omega)), show P2_ofCycle (nI q) cy (nI i) 0 = _ from ofC (w := 0) hlt hq (by omega), ob, h0 i hlt, show P2_ofForm (nI (FL d).length) fo (nI (first i)) 6 = _ from ofF (w := 6) h1 hn (by omega), ob, (hx _ h1).1, show P2_ofForm (nI (FL d).length) fo (nI (rvI d (first i))) 3 = _ from ofF (w := 3) h2 hn (by omega), ob, S3, ob, show P2_ofForm (nI (FL d).length) fo (nI (first i)) 7 = _ from ofF (w := 7) h1 hn (by omega), ob, (hx _ h1).2, show P2_ofForm (nI (FL d).length) fo (nI (opI d (first i))) 3 = _ from ofF (w := 3) h3 hn (by omega), ob, S4, ob, nI_1]
    exact ⟨cy', r1, fun w hw => by rw [r2 w hw, u2_ne (by omega), u2_ne (by omega)], r3⟩
