-- A RIVER'S FORMS AND CYCLES, ASKED
theorem no_in (x : Int32) : P5_within x 0 (0 - 1) = some 0 := by
  rw [m_within, if_neg]
  intro q
  have q1 := Int32.le_iff_toInt_le.mp q.1
  have q2 := Int32.le_iff_toInt_le.mp q.2
  rw [show (0 : Int32).toInt = 0 from rfl] at q1
  rw [show ((0 : Int32) - 1).toInt = -1 by decide] at q2
  omega
theorem no_form (x : Int32) : P2_hasForm 0 x = some 0 := by
  unfold P2_hasForm
  by_cases h : x < 0
  · rw [if_pos h]
  · rw [if_neg h, if_pos (Int32.not_lt.mp h)]
theorem no_cycle (x : Int32) : P2_hasCycle 0 x = some 0 := by
  unfold P2_hasCycle
  by_cases h : x < 0
  · rw [if_pos h]
  · rw [if_neg h, if_pos (Int32.not_lt.mp h)]
theorem no_isCycle (x : Int32) : P5_isCycle 0 x = some 0 := by
  unfold P5_isCycle
  rw [no_in, ob, if_pos (Or.inl rfl)]
theorem hf {n : Nat} (h0 : 0 < n) (hn : n ≤ 320) (x : Int32) : (∃ i, i < n ∧ x = nI i ∧ P2_hasForm (nI n) x = some 1 ∧ P5_within x 0 (nI n - 1) = some 1) ∨ (P2_hasForm (nI n) x = some 0 ∧ P5_within x 0 (nI n - 1) = some 0) := by
  rw [show nI n - 1 = nI (n - 1) from n_sub (b := 1) h0]
  unfold P2_hasForm
  rcases wi x (m := n - 1) (by omega) with ⟨i, hi, rfl, hw⟩ | ⟨hw, hne⟩
  · refine Or.inl ⟨i, by omega, rfl, ?_, hw⟩
    rw [if_neg (n_neg (by omega)), if_neg (nI_ge (show i < n by omega) (by omega)), if_neg (show ¬ (320 : Int32) ≤ nI i from nI_ge (b := 320) (by omega) (by omega))]
  · refine Or.inr ⟨?_, hw⟩
    by_cases y0 : x < 0
    · rw [if_pos y0]
    · obtain ⟨k, hk, rfl⟩ := nn y0
      have hk2 : n ≤ k := Nat.le_of_not_lt (fun q => hne k (by omega) rfl)
      rw [if_neg y0, if_pos (nI_le hk2 hk)]
theorem hy {n : Nat} (h0 : 0 < n) (hn : n ≤ 10) (x : Int32) : (∃ i, i < n ∧ x = nI i ∧ P2_hasCycle (nI n) x = some 1 ∧ P5_isCycle (nI n) x = some 1) ∨ (P2_hasCycle (nI n) x = some 0 ∧ P5_isCycle (nI n) x = some 0) := by
  unfold P5_isCycle
  rw [show nI n - 1 = nI (n - 1) from n_sub (b := 1) h0]
  unfold P2_hasCycle
  rcases wi x (m := n - 1) (by omega) with ⟨i, hi, rfl, hw⟩ | ⟨hw, hne⟩
  · refine Or.inl ⟨i, by omega, rfl, ?_, ?_⟩
    · rw [if_neg (n_neg (by omega)), if_neg (nI_ge (show i < n by omega) (by omega)), if_neg (show ¬ (10 : Int32) ≤ nI i from nI_ge (b := 10) (by omega) (by omega))]
    · rw [hw, ob, if_pos (Or.inr rfl)]
  · refine Or.inr ⟨?_, by rw [hw, ob, if_pos (Or.inl rfl)]⟩
    by_cases y0 : x < 0
    · rw [if_pos y0]
    · obtain ⟨k, hk, rfl⟩ := nn y0
      have hk2 : n ≤ k := Nat.le_of_not_lt (fun q => hne k (by omega) rfl)
      rw [if_neg y0, if_pos (nI_le hk2 hk)]
section
variable {d q : Nat} {first : Nat → Nat} {fo cy : Nat → Nat → Int32} {fA fB fC nx c fs : Nat → Int32}
theorem RV_q (R : RV d q first fo cy fA fB fC nx c fs) : 0 < q := by
  obtain ⟨hd, -, -, -, -, -, hO, -⟩ := R
  have h0 := (FL_facts hd).2.2
  rcases hO.2.2.2.1 0 h0 with w | ⟨e, he, -⟩
  · exact absurd w (hO.2.1 0 h0)
  · omega
theorem m_simpleNow (R : RV d q first fo cy fA fB fC nx c fs) {i j : Nat} (hi : i < (FL d).length) (hj : j ≤ 7) : P5_simpleNow (nI (FL d).length) fA fB fC nx c (nI i) (nI j) = some (fo j i) := by
  obtain ⟨hd, -, hW, hM, hx, hnx, hO, hc, -, -⟩ := R
  have hn := (FL_facts hd).1
  have hv : vx (nI i) 1200 := n_in (show i < 1200 by omega) (by omega)
  have hs := fx_small hd hi
  obtain ⟨e0, e1, e2⟩ := FMt_at hM hi
  obtain ⟨w0, w1, w2⟩ := FMt_at hW hi
  obtain ⟨x4, x5, x6, x7⟩ := hx i hi
  unfold P5_simpleNow
  rcases (show j = 0 ∨ j = 1 ∨ j = 2 ∨ j = 3 ∨ j = 4 ∨ j = 5 ∨ j = 6 ∨ j = 7 by omega) with rfl | rfl | rfl | rfl | rfl | rfl | rfl | rfl
  · rw [if_pos (by decide), if_pos hv, n_cl (by omega), e0, w0]
  · rw [if_neg (by decide), if_pos (by decide), if_pos hv, n_cl (by omega), e1, w1]
  · rw [if_neg (by decide), if_neg (by decide), if_pos (by decide), if_pos hv, n_cl (by omega), e2, w2]
  · rw [if_neg (by decide), if_neg (by decide), if_neg (by decide), if_pos (by decide), if_pos hv, n_cl (by omega), hc i hi]
  · rw [if_neg (by decide), if_neg (by decide), if_neg (by decide), if_neg (by decide), if_pos (by decide), if_pos hv, n_cl (by omega), hnx i hi, x4]
  · rw [if_neg (by decide), if_neg (by decide), if_neg (by decide), if_neg (by decide), if_neg (by decide), if_pos (by decide), m_isLeft hd hM hi, ob, x5]
    unfold lcI
    cases lfI d i
    · rfl
    · rfl
  · rw [if_neg (by decide), if_neg (by decide), if_neg (by decide), if_neg (by decide), if_neg (by decide), if_neg (by decide), if_pos (by decide), if_pos hv, if_pos hv, if_pos hv, n_cl (by omega), e0, e1, e2, x6, number_of hd hM (ok_rv (fx_ok hi) hd.2.1) (u := nI (fx d i).2.1) (v := -(nI (fx d i).1 - 30)) (w := -(nI (fx d i).2.2)) rfl (b_neg hs.1) rfl]
    rfl
  · rw [if_neg (by decide), if_neg (by decide), if_neg (by decide), if_neg (by decide), if_neg (by decide), if_neg (by decide), if_neg (by decide), if_pos hv, if_pos hv, if_pos hv, n_cl (by omega), e0, e1, e2, x7, number_of hd hM (ok_op (fx_ok hi) hd.2.1) (u := -(-(nI (fx d i).2.2))) (v := -(nI (fx d i).1 - 30)) (w := -(nI (fx d i).2.1)) (n_nn _) (b_neg hs.1) rfl]
    rfl
theorem m_size_loop {n : Nat} (hn : n ≤ 320) (x : Int32) : ∀ (j i f : Nat), i + j = n → j < f → P5_sizeOf_4 (nI n) c x f (nI (cnt (fun t => decide (c t = x)) i)) (nI i) = some (nI (cnt (fun t => decide (c t = x)) n))
  | 0, i, f, hi, hf => by
    obtain ⟨f, rfl⟩ : ∃ w, f = w + 1 := ⟨f - 1, by omega⟩
    rw [P5_sizeOf_4, if_pos (nI_le (by omega) (by omega)), show i = n by omega]
  | j + 1, i, f, hi, hf => by
    obtain ⟨f, rfl⟩ : ∃ w, f = w + 1 := ⟨f - 1, by omega⟩
    have ih := m_size_loop hn x j (i + 1) f (by omega) (by omega)
    rw [show cnt (fun t => decide (c t = x)) (i + 1) = cnt (fun t => decide (c t = x)) i + (if decide (c i = x) = true then 1 else 0) from rfl] at ih
    rw [P5_sizeOf_4, if_neg (nI_ge (show i < n by omega) (by omega)), if_pos (show vx (nI i) 1200 from n_in (by omega) (by omega)), n_cl (by omega)]
    by_cases w : c i = x
    · rw [decide_eq_true w, if_pos rfl] at ih
      rw [if_pos w, nI_1, nI_1]
      exact ih
    · rw [decide_eq_false w, if_neg (by decide), Nat.add_zero] at ih
      rw [if_neg w, nI_1, n_a0]
      exact ih
theorem m_leftsC_loop (hd : VD d) (hM : FMt (FL d) fA fB fC) (x : Int32) : ∀ (j i f : Nat), i + j = (FL d).length → j < f → P5_leftsOf_4 (nI (FL d).length) fA fB fC c x f (nI (cnt (fun t => decide (c t = x) && lfI d t) i)) (nI i) = some (nI (cnt (fun t => decide (c t = x) && lfI d t) (FL d).length))
  | 0, i, f, hi, hf => by
    obtain ⟨f, rfl⟩ : ∃ w, f = w + 1 := ⟨f - 1, by omega⟩
    have hn := (FL_facts hd).1
    rw [P5_leftsOf_4, if_pos (nI_le (by omega) (by omega)), show i = (FL d).length by omega]
  | j + 1, i, f, hi, hf => by
    obtain ⟨f, rfl⟩ : ∃ w, f = w + 1 := ⟨f - 1, by omega⟩
    have hn := (FL_facts hd).1
    have hlt : i < (FL d).length := by omega
    have ih := m_leftsC_loop hd hM x j (i + 1) f (by omega) (by omega)
    rw [show cnt (fun t => decide (c t = x) && lfI d t) (i + 1) = cnt (fun t => decide (c t = x) && lfI d t) i + (if (decide (c i = x) && lfI d i) = true then 1 else 0) from rfl] at ih
    rw [P5_leftsOf_4, if_neg (nI_ge hlt (by omega)), if_pos (show vx (nI i) 1200 from n_in (by omega) (by omega)), n_cl (by omega)]
    by_cases w : c i = x
    · rw [if_pos w, m_isLeft hd hM hlt, ob]
      rw [decide_eq_true w, Bool.true_and] at ih
      cases hl : lfI d i with
      | true =>
        rw [hl, if_pos rfl] at ih
        rw [if_neg (show ¬ b2 true = 0 by decide), nI_1, nI_1]
        exact ih
      | false =>
        rw [hl, if_neg (by decide), Nat.add_zero] at ih
        rw [if_pos (show b2 false = 0 by decide), nI_1, n_a0]
        exact ih
    · rw [decide_eq_false w, Bool.false_and, if_neg (by decide), Nat.add_zero] at ih
      rw [if_neg w, nI_1, n_a0]
      exact ih
/-- all that is told of a cycle -/
theorem cyc_at (R : RV d q first fo cy fA fB fC nx c fs) {e : Nat} (he : e < q) : first e < (FL d).length ∧ fs e = nI (first e) ∧ ∃ l, Per (nxI d) (first e) l ∧ l ≤ (FL d).length ∧ cy 0 e = nI (first e) ∧ cy 1 e = nI l ∧ P5_sizeOf (nI (FL d).length) c (nI e) = some (nI l) ∧ P5_leftsOf (nI (FL d).length) fA fB fC c (nI e) = some (cy 2 e) := by
  obtain ⟨hd, q10, hW, hM, hx, hnx, hO, hc, hfs, hcy⟩ := R
  have hn := (FL_facts hd).1
  have hp := nx_perm hd
  obtain ⟨f1, f2⟩ := hO.2.2.2.2 e he
  obtain ⟨c0, l, hl, hln, c1, c2⟩ := (hcy e he).1
  have mem : ∀ t, t < (FL d).length → decide (c t = nI e) = mkd (nxI d) (first e) l t := fun t ht => by
    rw [hc t ht]
    by_cases w : mkd (nxI d) (first e) l t = true
    · obtain ⟨u, _, hu⟩ := (mkd_iff l).mp w
      have := Kept_it hp hO.1 f1 u
      rw [hu, f2] at this
      rw [w, decide_eq_true this]
    · rw [Bool.eq_false_iff.mpr w]
      refine decide_eq_false (fun w2 => w ?_)
      rcases hO.2.2.2.1 t ht with g | ⟨e', g1, g2, g3⟩
      · exact absurd g (hO.2.1 t ht)
      · have : e = e' := (nI_eq (by omega) (by omega)).mp (by rw [← w2, g2])
        rw [this] at hl ⊢
        exact (mkd_orb (n := (FL d).length) hl).mpr g3
  refine ⟨f1, hfs e he, l, hl, hln, c0, c1, ?_, ?_⟩
  · unfold P5_sizeOf
    have h := m_size_loop (c := c) hn (nI e) (FL d).length 0 FU (by omega) (by unfold FU; omega)
    have h2 : cnt (fun t => mkd (nxI d) (first e) l t && true) (FL d).length = cnt (fun _ => true) l := cnt_mkd hp f1 hl (fun _ => true) l (Nat.le_refl l)
    have h3 : cnt (fun t => decide (c t = nI e)) (FL d).length = cnt (fun t => mkd (nxI d) (first e) l t && true) (FL d).length := cnt_congr (fun t ht => by rw [mem t ht, Bool.and_true])
    rw [h3, h2, cnt_true] at h
    rw [show P5_sizeOf_4 (nI (FL d).length) c (nI e) FU 0 0 = _ from h, ob]
  · unfold P5_leftsOf
    have h := m_leftsC_loop (c := c) hd hM (nI e) (FL d).length 0 FU (by omega) (by unfold FU; omega)
    have h2 : cnt (fun t => mkd (nxI d) (first e) l t && lfI d t) (FL d).length = cnt (fun u => lfI d (it (nxI d) u (first e))) l := cnt_mkd hp f1 hl (lfI d) l (Nat.le_refl l)
    have h3 : cnt (fun t => decide (c t = nI e) && lfI d t) (FL d).length = cnt (fun t => mkd (nxI d) (first e) l t && lfI d t) (FL d).length := cnt_congr (fun t ht => by rw [mem t ht])
    rw [h3, h2] at h
    rw [show P5_leftsOf_4 (nI (FL d).length) fA fB fC c (nI e) FU 0 0 = _ from h, ob, c2]
end
