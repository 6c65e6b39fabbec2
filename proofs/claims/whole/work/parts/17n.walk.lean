-- THE CYCLES ARE WALKED
/-- the numbers of cycles, the first t places of the round of s among them -/
def MK (nx : Nat → Nat) (n s t q : Nat) (c0 c1 : Nat → Int32) : Prop := ∀ j, j < n → c1 j = if mkd nx s t j = true then nI q else c0 j
theorem MK_step {nx : Nat → Nat} {n s t q : Nat} {c0 c1 : Nat → Int32} (h : MK nx n s t q c0 c1) : MK nx n s (t + 1) q c0 (upd c1 (it nx t s) (nI q)) := fun j hj => by
  rw [mkd]
  by_cases e : it nx t s = j
  · subst e
    rw [pk_us, if_pos (by simp)]
  · rw [pk_un (fun w => e w.symm), h j hj, show decide (it nx t s = j) = false from decide_eq_false e, Bool.or_false]
/-- a number of cycles that the steps keep -/
def Kept (nx : Nat → Nat) (n : Nat) (c : Nat → Int32) : Prop := ∀ j, j < n → c (nx j) = c j
theorem Kept_it {nx : Nat → Nat} {n : Nat} {c : Nat → Int32} (hp : Perm n nx) (h : Kept nx n c) {s : Nat} (hs : s < n) : ∀ t : Nat, c (it nx t s) = c s
  | 0 => rfl
  | t + 1 => by rw [it, h _ (it_lt hp hs t), Kept_it hp h hs t]
theorem n_ne_none (q : Nat) (h : q < 2 ^ 31) : ¬ nI q = -2000000001 := n_none h
theorem m_walk {nx : Nat → Nat} {n s l q : Nat} {c0 next : Nat → Int32} (hn : n ≤ 320) (hq : q < 2 ^ 31) (hp : Perm n nx) (hs : s < n) (hl : Per nx s l) (hx : ∀ j, j < n → next j = nI (nx j)) (hk : Kept nx n c0) (h0 : c0 s = -2000000001) : ∀ (r t f : Nat) (c1 : Nat → Int32), t + r = l → r < f → MK nx n s t q c0 c1 → ∃ c2, P5_layCycles_73 next (nI q) f c1 (nI (it nx t s)) = some c2 ∧ MK nx n s l q c0 c2
  | 0, t, f, c1, ht, hf, h => by
    obtain ⟨f, rfl⟩ : ∃ w, f = w + 1 := ⟨f - 1, by omega⟩
    obtain rfl : t = l := by omega
    have e := h s hs
    rw [if_pos (show mkd nx s t s = true from (mkd_iff t).mpr ⟨0, hl.1, rfl⟩)] at e
    rw [hl.2.1]
    exact ⟨c1, by rw [P5_layCycles_73, if_pos (n_in (show s < 1200 by omega) (by omega)), if_neg (show ¬ c1 (Int32.toNatClampNeg (nI s)) = -2000000001 from by rw [n_cl (by omega), e]; exact n_none hq)], h⟩
  | r + 1, t, f, c1, ht, hf, h => by
    obtain ⟨f, rfl⟩ : ∃ w, f = w + 1 := ⟨f - 1, by omega⟩
    have hi := it_lt hp hs t
    have hv : vx (nI (it nx t s)) 1200 := n_in (show it nx t s < 1200 by omega) (by omega)
    have e := h _ hi
    rw [mkd_new hp hs hl (show t < l by omega), if_neg (by decide), Kept_it hp hk hs, h0] at e
    rw [P5_layCycles_73, if_pos hv, if_pos hv, if_pos hv, n_cl (by omega), e, if_pos rfl, hx _ hi]
    exact m_walk hn hq hp hs hl hx hk h0 r (t + 1) f _ (by omega) (by omega) (MK_step h)
/-- the class's rows but the third are the same -/
def Same3 (f g : Nat → Nat → Int32) : Prop := ∀ w, ¬ w = 3 → g w = f w
theorem w_walk {d : Nat} (hd : VD d) {s l q : Nat} {c0 : Nat → Int32} {fo : Nat → Nat → Int32} (hq : q < 2 ^ 31) (hs : s < (FL d).length) (hl : Per (nxI d) s l) (hln : l ≤ (FL d).length) (hx : ∀ j, j < (FL d).length → fo 4 j = nI (nxI d j) ∧ fo 5 j = lcI d j) (hk : Kept (nxI d) (FL d).length c0) (h0 : c0 s = -2000000001) : ∀ (r t f : Nat) (g : Nat → Nat → Int32), t + r = l → r < f → Same3 fo g → MK (nxI d) (FL d).length s t q c0 (g 3) → ∃ g', P2_addCycle_23 (nI (FL d).length) (nI q) f g (nI (it (nxI d) t s)) (nI t) (nI (cnt (fun u => lfI d (it (nxI d) u s)) t)) = some (g', nI l, nI (cnt (fun u => lfI d (it (nxI d) u s)) l)) ∧ Same3 fo g' ∧ MK (nxI d) (FL d).length s l q c0 (g' 3)
  | 0, t, f, g, ht, hf, hg, h => by
    obtain ⟨f, rfl⟩ : ∃ w, f = w + 1 := ⟨f - 1, by omega⟩
    obtain rfl : t = l := by omega
    have hn := (FL_facts hd).1
    refine ⟨g, ?_, hg, h⟩
    rw [P2_addCycle_23]
    by_cases c : (FL d).length ≤ t
    · rw [if_pos (nI_le c (by omega))]
    · have e := h s hs
      rw [if_pos (show mkd (nxI d) s t s = true from (mkd_iff t).mpr ⟨0, hl.1, rfl⟩)] at e
      rw [if_neg (nI_ge (by omega) (by omega)), hl.2.1, show P2_ofForm (nI (FL d).length) g (nI s) 3 = _ from ofF (w := 3) hs hn (by omega), ob, e, if_neg (n_none hq)]
  | r + 1, t, f, g, ht, hf, hg, h => by
    obtain ⟨f, rfl⟩ : ∃ w, f = w + 1 := ⟨f - 1, by omega⟩
    have hn := (FL_facts hd).1
    have hp := nx_perm hd
    have hi := it_lt hp hs t
    have e := h _ hi
    rw [mkd_new hp hs hl (show t < l by omega), if_neg (by decide), Kept_it hp hk hs, h0] at e
    have hg2 : Same3 fo (upd2 g 3 (it (nxI d) t s) (nI q)) := fun w hw => by rw [u2_ne hw]; exact hg w hw
    have h2 := MK_step h
    rw [← u2_at (f := g) (j := 3) (i := it (nxI d) t s) (v := nI q)] at h2
    have ih := w_walk hd hq hs hl hln hx hk h0 r (t + 1) f _ (by omega) (by omega) hg2 h2
    rw [P2_addCycle_23, if_neg (nI_ge (by omega) (by omega)), show P2_ofForm (nI (FL d).length) g (nI (it (nxI d) t s)) 3 = _ from ofF (w := 3) hi hn (by omega), ob, e, if_pos rfl, show P2_setForm (nI (FL d).length) g (nI (it (nxI d) t s)) 3 (nI q) = _ from setF (w := 3) hi hn (by omega), ob, show ∀ g', P2_ofForm (nI (FL d).length) g' (nI (it (nxI d) t s)) 5 = _ from fun g' => ofF (w := 5) hi hn (by omega), ob, show ∀ g', P2_ofForm (nI (FL d).length) g' (nI (it (nxI d) t s)) 4 = _ from fun g' => ofF (w := 4) hi hn (by omega), ob, ob, hg2 5 (by omega), hg2 4 (by omega), (hx _ hi).1, (hx _ hi).2, nI_1]
    rw [cnt] at ih
    unfold lcI
    by_cases ql : lfI d (it (nxI d) t s) = true
    · rw [if_pos ql] at ih ⊢
      rw [if_pos rfl, nI_1]
      exact ih
    · rw [if_neg ql] at ih ⊢
      rw [if_neg (by decide)]
      exact ih
