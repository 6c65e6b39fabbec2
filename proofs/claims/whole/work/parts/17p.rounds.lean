-- ALL CYCLES, HERE AND THERE
theorem setC {n i w : Nat} {cy : Nat → Nat → Int32} {v : Int32} (hi : i < n) (hn : n ≤ 10) (hw : w < 5) : P2_setCycle (nI n) cy (nI i) (nI w) v = some (upd2 cy w i v) := by
  unfold P2_setCycle P2_hasCycle
  rw [if_neg (n_neg (by omega)), if_neg (nI_ge hi (by omega)), if_neg (show ¬ (10 : Int32) ≤ nI i from nI_ge (b := 10) (by omega) (by omega)), ob, if_neg (show ¬ (1 : Int32) = 0 by decide), if_neg (n_neg (by omega)), if_neg (show ¬ (5 : Int32) ≤ nI w from nI_ge (b := 5) (by omega) (by omega)), if_pos (n_in hw (by omega)), if_pos (n_in (show i < 10 by omega) (by omega)), n_cl (by omega), n_cl (by omega)]
theorem ofC {n i w : Nat} {cy : Nat → Nat → Int32} (hi : i < n) (hn : n ≤ 10) (hw : w < 5) : P2_ofCycle (nI n) cy (nI i) (nI w) = some (cy w i) := by
  unfold P2_ofCycle P2_hasCycle
  rw [if_neg (n_neg (by omega)), if_neg (nI_ge hi (by omega)), if_neg (show ¬ (10 : Int32) ≤ nI i from nI_ge (b := 10) (by omega) (by omega)), ob, if_neg (show ¬ (1 : Int32) = 0 by decide), if_neg (n_neg (by omega)), if_neg (show ¬ (5 : Int32) ≤ nI w from nI_ge (b := 5) (by omega) (by omega)), if_pos (n_in hw (by omega)), if_pos (n_in (show i < 10 by omega) (by omega)), n_cl (by omega), n_cl (by omega)]
/-- where the laying of the cycles stands before form i: q cycles, c their numbers, first their lowest forms -/
def OI (d i q : Nat) (c : Nat → Int32) (first : Nat → Nat) : Prop := Kept (nxI d) (FL d).length c ∧ (∀ j, j < i → ¬ c j = -2000000001) ∧ q ≤ cnt (lowB d) i ∧ (∀ j, j < (FL d).length → c j = -2000000001 ∨ ∃ e, e < q ∧ c j = nI e ∧ orb (nxI d) (first e) j) ∧ ∀ e, e < q → first e < (FL d).length ∧ c (first e) = nI e
/-- what is told of cycle e -/
def CY (d : Nat) (first : Nat → Nat) (cy : Nat → Nat → Int32) (e : Nat) : Prop := cy 0 e = nI (first e) ∧ ∃ l, Per (nxI d) (first e) l ∧ l ≤ (FL d).length ∧ cy 1 e = nI l ∧ cy 2 e = nI (cnt (fun u => lfI d (it (nxI d) u (first e))) l)
theorem OI_step {d i q l : Nat} {c c' : Nat → Int32} {first : Nat → Nat} (hd : VD d) (hi : i < (FL d).length) (h : OI d i q c first) (h0 : c i = -2000000001) (hl : Per (nxI d) i l) (hc : MK (nxI d) (FL d).length i l q c c') : OI d (i + 1) (q + 1) c' (fun e => if e = q then i else first e) := by
  obtain ⟨h1, h2, h3, h4, h5⟩ := h
  have hp := nx_perm hd
  have hlow : lowB d i = true := lowB_of hd hi (fun t => by
    rcases Nat.lt_or_ge (it (nxI d) t i) i with w | w
    · exact absurd (by rw [Kept_it hp h1 hi t]; exact h0) (h2 _ w)
    · exact w)
  have h10 := lowB_10 hd
  have hm := cnt_mono (lowB d) ((FL d).length - i) i
  rw [show i + ((FL d).length - i) = (FL d).length by omega] at hm
  have hq : q < 2 ^ 31 := by omega
  refine ⟨fun j hj => ?_, fun j hj => ?_, ?_, fun j hj => ?_, fun e he => ?_⟩
  · rw [hc _ (hp.1 j hj), hc j hj]
    by_cases w : mkd (nxI d) i l j = true
    · rw [if_pos w, if_pos ((mkd_orb (n := (FL d).length) hl).mpr (orb_next ((mkd_orb (n := (FL d).length) hl).mp w)))]
    · rw [if_neg w, if_neg (fun w2 => w ((mkd_orb (n := (FL d).length) hl).mpr (orb_back hp hi hj ((mkd_orb (n := (FL d).length) hl).mp w2))))]
      exact h1 j hj
  · rw [hc j (by omega)]
    by_cases w : mkd (nxI d) i l j = true
    · rw [if_pos w]
      exact n_none hq
    · rw [if_neg w]
      by_cases e : j = i
      · exact absurd ((mkd_iff l).mpr ⟨0, hl.1, e.symm⟩) w
      · exact h2 j (by omega)
  · rw [cnt, if_pos hlow]
    omega
  · rw [hc j hj]
    by_cases w : mkd (nxI d) i l j = true
    · rw [if_pos w]
      exact Or.inr ⟨q, by omega, rfl, by simp only [if_true]; exact (mkd_orb (n := (FL d).length) hl).mp w⟩
    · rw [if_neg w]
      rcases h4 j hj with g | ⟨e, g1, g2, g3⟩
      · exact Or.inl g
      · exact Or.inr ⟨e, by omega, g2, by simp only [if_neg (show ¬ e = q by omega)]; exact g3⟩
  · by_cases w : e = q
    · simp only [if_pos w]
      rw [hc i hi, if_pos (show mkd (nxI d) i l i = true from (mkd_iff l).mpr ⟨0, hl.1, rfl⟩), w]
      exact ⟨hi, rfl⟩
    · simp only [if_neg w]
      obtain ⟨g1, g2⟩ := h5 e (by omega)
      refine ⟨g1, ?_⟩
      rw [hc _ g1]
      have : ¬ mkd (nxI d) i l (first e) = true := fun w2 => by
        obtain ⟨u, _, hu⟩ := (mkd_iff l).mp w2
        have := Kept_it hp h1 hi u
        rw [hu, g2, h0] at this
        exact n_none (show e < 2 ^ 31 by omega) this
      rw [if_neg this]
      exact g2
