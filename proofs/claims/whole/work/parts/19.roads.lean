-- THE ROADS' READINGS
def Sz (s t : Int32) : Prop := t = s ∨ ∃ n : Nat, n ≤ 20 ∧ t = nI n
theorem Sz.r (s : Int32) : Sz s s := Or.inl rfl
theorem Sz.n {s : Int32} {n : Nat} (h : n ≤ 20) : Sz s (nI n) := Or.inr ⟨n, h, rfl⟩
theorem Sz.ok {s t : Int32} (h : Sz s t) (q : ∃ n : Nat, n ≤ 20 ∧ s = nI n) : ∃ n : Nat, n ≤ 20 ∧ t = nI n := by
  rcases h with rfl | h
  · exact q
  · exact h
theorem b01 {b : Bool} : (if (if b = true then (1 : Int32) else 0) = 0 then some (0 : Int32) else some 1) = some (if b = true then 1 else 0) := by cases b <;> rfl
theorem oth10 {N : Nat} {L : Nat → Nat} : oth N L 1 0 = rev N L := by
  funext i
  unfold oth
  rw [if_pos rfl, if_neg (by decide)]
  rfl
theorem oth01 {N : Nat} {L : Nat → Nat} : oth N L 0 1 = cpl L := by
  funext i
  unfold oth
  rw [if_neg (by decide), if_pos rfl]
  rfl
theorem oth11 {N : Nat} {L : Nat → Nat} : oth N L 1 1 = cpl (rev N L) := by
  funext i
  unfold oth
  rw [if_neg (by decide), if_neg (by decide)]
  rfl
theorem oth00 {N : Nat} {L : Nat → Nat} : oth N L 0 0 = L := by
  funext i
  unfold oth
  rw [if_pos rfl, if_pos rfl]
section
variable {rc roads size otherSize tA tB tC tD fa fb fc fg : Int32} {wn : Nat} {wv : Nat → Nat → Int32} {lengths signs at_ other : Nat → Int32}
theorem c_road (h : SimRoads rc wn wv roads lengths signs) (x y : Int32) : ∃ a b, P4_road rc wn wv x y = some a ∧ P5_road roads lengths signs size at_ otherSize other tA tB tC tD x y = some b ∧ a = b.1 ∧ Sz size b.2.1 := by
  rcases rd h x with ⟨k, N, L, k6, rfl, e4, e5, hL, hl, hs, w0, w1, w2, w3, w4, w5, w6⟩ | ⟨e4, e5⟩
  · obtain ⟨o, ho, hA⟩ := m_look (at_ := at_) hL.2.1 k6 hl hs
    unfold P4_road P5_road
    rw [e4, e5, ob, ob, if_neg (show ¬ (1 : Int32) = 0 by decide)]
    simp only []
    rcases wi y (m := 9) (by omega) with ⟨j, hj, rfl, hw⟩ | ⟨hw, hn⟩
    · rw [show (9 : Int32) = nI 9 from rfl, hw, ob, if_neg (show ¬ (1 : Int32) = 0 by decide)]
      unfold P5_roadNow
      rw [ho, ob, w0, w1, w2, w3, w6]
      have hjj : j = 0 ∨ j = 1 ∨ j = 2 ∨ j = 3 ∨ j = 4 ∨ j = 5 ∨ j = 6 ∨ j = 7 ∨ j = 8 ∨ j = 9 := by omega
      rcases hjj with rfl | rfl | rfl | rfl | rfl | rfl | rfl | rfl | rfl | rfl
      · exact ⟨_, _, rfl, rfl, rfl, Sz.n hL.2.1⟩
      · rw [if_neg (by decide), if_pos (by decide), if_neg (by decide), if_pos (by decide), bitCount hL]
        show ∃ a b, _ ∧ Option.bind (Option.bind (P5_lefts (nI N) o) _) _ = _ ∧ _
        rw [m_lefts hL hA]
        refine ⟨_, _, rfl, rfl, ?_, Sz.n hL.2.1⟩
        have hz := zc_le L N
        rw [n_sub (by omega), show N - (N - zc L N) = zc L N by omega]
      · rw [if_neg (by decide), if_neg (by decide), if_pos (by decide), if_neg (by decide), if_neg (by decide), if_pos (by decide), bitCount hL]
        show ∃ a b, _ ∧ Option.bind (Option.bind (P5_lefts (nI N) o) _) _ = _ ∧ _
        rw [m_lefts hL hA]
        exact ⟨_, _, rfl, rfl, (n_sub (zc_le L N)).symm, Sz.n hL.2.1⟩
      · rw [if_neg (by decide), if_neg (by decide), if_neg (by decide), if_pos (by decide), if_neg (by decide), if_neg (by decide), if_neg (by decide), if_pos (by decide), w_period hL]
        show ∃ a b, _ ∧ Option.bind (Option.bind (P5_periodNow (nI N) o) _) _ = _ ∧ _
        rw [m_periodNow hL hA]
        exact ⟨_, _, rfl, rfl, rfl, Sz.n hL.2.1⟩
      · rw [if_neg (by decide), if_neg (by decide), if_neg (by decide), if_neg (by decide), if_pos (by decide), if_neg (by decide), if_neg (by decide), if_neg (by decide), if_neg (by decide), if_pos (by decide), w_leastTurn hL]
        show ∃ a b, _ ∧ Option.bind (Option.bind (P5_leastTurnNow (nI N) o) _) _ = _ ∧ _
        rw [m_leastTurnNow hL hA]
        exact ⟨_, _, rfl, rfl, rfl, Sz.n hL.2.1⟩
      · rw [if_neg (by decide), if_neg (by decide), if_neg (by decide), if_neg (by decide), if_neg (by decide), if_pos (by decide), if_neg (by decide), if_neg (by decide), if_neg (by decide), if_neg (by decide), if_neg (by decide), if_pos (by decide)]
        unfold P3_traceSum P5_traceNow
        show ∃ a b, _ ∧ Option.bind (Option.bind (Option.bind (P5_layTable (nI N) o) _) _) _ = _ ∧ _
        rw [m_layTable hL hA]
        exact ⟨_, _, rfl, rfl, rfl, Sz.n hL.2.1⟩
      · rw [if_neg (by decide), if_neg (by decide), if_neg (by decide), if_neg (by decide), if_neg (by decide), if_neg (by decide), if_pos (by decide), if_neg (by decide), if_neg (by decide), if_neg (by decide), if_neg (by decide), if_neg (by decide), if_neg (by decide), if_pos (by decide), w_isClosed hL, ob]
        show ∃ a b, _ ∧ Option.bind (Option.bind (P5_isClosedNow (nI N) o) _) _ = _ ∧ _
        rw [m_isClosedNow hL hA, ob]
        cases clo N L
        · exact ⟨_, _, rfl, rfl, rfl, Sz.n hL.2.1⟩
        · exact ⟨_, _, rfl, rfl, rfl, Sz.n hL.2.1⟩
      · obtain ⟨o2, h2, -⟩ := m_isAlike (other := other) hL hA 1 0
        rw [if_neg (by decide), if_neg (by decide), if_neg (by decide), if_neg (by decide), if_neg (by decide), if_neg (by decide), if_neg (by decide), if_pos (by decide), if_neg (by decide), if_neg (by decide), if_neg (by decide), if_neg (by decide), if_neg (by decide), if_neg (by decide), if_neg (by decide), if_pos (by decide), w_reversal hL, ob, w_isConjugate hL (rev_LW hL), ob]
        show ∃ a b, _ ∧ Option.bind (Option.bind (P5_isAlike (nI N) o other 1 0) _) _ = _ ∧ _
        rw [h2, ob, oth10]
        cases conj N L (rev N L)
        · exact ⟨_, _, rfl, rfl, rfl, Sz.n hL.2.1⟩
        · exact ⟨_, _, rfl, rfl, rfl, Sz.n hL.2.1⟩
      · obtain ⟨o2, h2, -⟩ := m_isAlike (other := other) hL hA 0 1
        rw [if_neg (by decide), if_neg (by decide), if_neg (by decide), if_neg (by decide), if_neg (by decide), if_neg (by decide), if_neg (by decide), if_neg (by decide), if_pos (by decide), if_neg (by decide), if_neg (by decide), if_neg (by decide), if_neg (by decide), if_neg (by decide), if_neg (by decide), if_neg (by decide), if_neg (by decide), if_pos (by decide), w_complement hL, ob, w_isConjugate hL (cpl_LW hL), ob]
        show ∃ a b, _ ∧ Option.bind (Option.bind (P5_isAlike (nI N) o other 0 1) _) _ = _ ∧ _
        rw [h2, ob, oth01]
        cases conj N L (cpl L)
        · exact ⟨_, _, rfl, rfl, rfl, Sz.n hL.2.1⟩
        · exact ⟨_, _, rfl, rfl, rfl, Sz.n hL.2.1⟩
      · obtain ⟨o2, h2, -⟩ := m_isAlike (other := other) hL hA 1 1
        rw [if_neg (by decide), if_neg (by decide), if_neg (by decide), if_neg (by decide), if_neg (by decide), if_neg (by decide), if_neg (by decide), if_neg (by decide), if_neg (by decide), if_pos (by decide), if_neg (by decide), if_neg (by decide), if_neg (by decide), if_neg (by decide), if_neg (by decide), if_neg (by decide), if_neg (by decide), if_neg (by decide), if_neg (by decide), w_reversal hL, ob, w_complement (rev_LW hL), ob, w_isConjugate hL (cpl_LW (rev_LW hL)), ob]
        show ∃ a b, _ ∧ Option.bind (Option.bind (P5_isAlike (nI N) o other 1 1) _) _ = _ ∧ _
        rw [h2, ob, oth11]
        cases conj N L (cpl (rev N L))
        · exact ⟨_, _, rfl, rfl, rfl, Sz.n hL.2.1⟩
        · exact ⟨_, _, rfl, rfl, rfl, Sz.n hL.2.1⟩
    · rw [show (9 : Int32) = nI 9 from rfl, hw, ob, if_pos rfl, if_neg (show ¬ y = (0 : Int32) from hn 0 (by omega)), if_neg (show ¬ y = (1 : Int32) from hn 1 (by omega)), if_neg (show ¬ y = (2 : Int32) from hn 2 (by omega)), if_neg (show ¬ y = (3 : Int32) from hn 3 (by omega)), if_neg (show ¬ y = (4 : Int32) from hn 4 (by omega)), if_neg (show ¬ y = (5 : Int32) from hn 5 (by omega)), if_neg (show ¬ y = (6 : Int32) from hn 6 (by omega)), if_neg (show ¬ y = (7 : Int32) from hn 7 (by omega)), if_neg (show ¬ y = (8 : Int32) from hn 8 (by omega)), if_neg (hn 9 (by omega))]
      exact ⟨_, _, rfl, rfl, rfl, Sz.r _⟩
  · unfold P4_road P5_road
    rw [e4, e5, ob, ob, if_pos rfl]
    exact ⟨_, _, rfl, rfl, rfl, Sz.r _⟩
theorem c_sign (h : SimRoads rc wn wv roads lengths signs) (x y : Int32) : ∃ a, P4_sign rc wn wv x y = some a ∧ P5_sign roads lengths signs x y = some a := by
  rcases rd h x with ⟨k, N, L, k6, rfl, e4, e5, hL, hl, hs, w0, w1, w2, w3, w4, w5, w6⟩ | ⟨e4, e5⟩
  · have h1 := hL.1
    have h2 := hL.2.1
    unfold P4_sign P5_sign
    rw [e4, e5, ob, ob, if_neg (show ¬ (1 : Int32) = 0 by decide), if_pos (n_in k6 (by omega)), n_cl (by omega), hl]
    simp only []
    rw [w1, show nI N - 1 = nI (N - 1) from n_sub (b := 1) h1]
    rcases wi y (m := N - 1) (by omega) with ⟨j, hj, rfl, hw⟩ | ⟨hw, hn⟩
    · have hlt := hL.2.2 j (by omega)
      rw [hw, ob, if_neg (n_neg (by omega)), if_pos (nI_lt (by omega) (by omega)), w0, w_bitAt hL (by omega), ob, if_neg (show ¬ (1 : Int32) = 0 by decide), show (20 : Int32) = nI 20 from rfl, pk_mul, nI_add, if_pos (n_in (by omega) (by omega)), n_cl (by omega), hs j (by omega)]
      rcases (show L j = 0 ∨ L j = 1 by omega) with q | q
      · rw [q]
        exact ⟨_, rfl, rfl⟩
      · rw [q]
        exact ⟨_, rfl, rfl⟩
    · rw [hw, ob, if_pos rfl]
      by_cases y0 : y < 0
      · rw [if_pos y0]
        exact ⟨_, rfl, rfl⟩
      · obtain ⟨j, hj, rfl⟩ := nn y0
        rw [if_neg y0, if_neg (fun q => hn j (by have := (nI_ltI hj (by omega)).mp q; omega) rfl)]
        exact ⟨_, rfl, rfl⟩
  · unfold P4_sign P5_sign
    rw [e4, e5, ob, ob, if_pos rfl]
    exact ⟨_, rfl, rfl⟩
theorem c_table (h : SimRoads rc wn wv roads lengths signs) (x y : Int32) : ∃ a b, P4_table rc wn wv x y = some a ∧ P5_table roads lengths signs size at_ tA tB tC tD x y = some b ∧ a = b.1 ∧ Sz size b.2.1 := by
  rcases rd h x with ⟨k, N, L, k6, rfl, e4, e5, hL, hl, hs, w0, w1, w2, w3, w4, w5, w6⟩ | ⟨e4, e5⟩
  · obtain ⟨o, ho, hA⟩ := m_look (at_ := at_) hL.2.1 k6 hl hs
    unfold P4_table P5_table
    rw [e4, e5, ob, ob, if_neg (show ¬ (1 : Int32) = 0 by decide)]
    simp only []
    rcases wi y (m := 3) (by omega) with ⟨j, hj, rfl, hw⟩ | ⟨hw, hn⟩
    · rw [show (3 : Int32) = nI 3 from rfl, hw, ob, if_neg (show ¬ (1 : Int32) = 0 by decide)]
      unfold P5_tableNow
      rw [ho, ob, w3, w4, w5, w6]
      show ∃ a b, _ ∧ Option.bind (Option.bind (P5_layTable (nI N) o) _) _ = _ ∧ _
      rw [m_layTable hL hA]
      rcases (show j = 0 ∨ j = 1 ∨ j = 2 ∨ j = 3 by omega) with rfl | rfl | rfl | rfl
      · exact ⟨_, _, rfl, rfl, rfl, Sz.n hL.2.1⟩
      · exact ⟨_, _, rfl, rfl, rfl, Sz.n hL.2.1⟩
      · exact ⟨_, _, rfl, rfl, rfl, Sz.n hL.2.1⟩
      · exact ⟨_, _, rfl, rfl, rfl, Sz.n hL.2.1⟩
    · rw [show (3 : Int32) = nI 3 from rfl, hw, ob, if_pos rfl, if_neg (show ¬ y = (0 : Int32) from hn 0 (by omega)), if_neg (show ¬ y = (1 : Int32) from hn 1 (by omega)), if_neg (show ¬ y = (2 : Int32) from hn 2 (by omega)), if_neg (hn 3 (by omega))]
      exact ⟨_, _, rfl, rfl, rfl, Sz.r _⟩
  · unfold P4_table P5_table
    rw [e4, e5, ob, ob, if_pos rfl]
    exact ⟨_, _, rfl, rfl, rfl, Sz.r _⟩
theorem c_end (h : SimRoads rc wn wv roads lengths signs) (x y : Int32) : ∃ a b, P4_end rc wn wv x y = some a ∧ P5_end roads lengths signs size at_ tA tB tC tD x y = some b ∧ a = b.1 ∧ Sz size b.2.1 := by
  rcases rd h x with ⟨k, N, L, k6, rfl, e4, e5, hL, hl, hs, w0, w1, w2, w3, w4, w5, w6⟩ | ⟨e4, e5⟩
  · obtain ⟨o, ho, hA⟩ := m_look (at_ := at_) hL.2.1 k6 hl hs
    unfold P4_end P5_end
    rw [e4, e5, ob, ob, if_neg (show ¬ (1 : Int32) = 0 by decide)]
    simp only []
    rcases wi y (m := 1) (by omega) with ⟨j, hj, rfl, hw⟩ | ⟨hw, hn⟩
    · rw [show P5_within (nI j) 0 1 = some 1 from hw, ob, if_neg (show ¬ (1 : Int32) = 0 by decide)]
      unfold P5_endNow
      rw [ho, ob, w3, w4, w5, w6]
      show ∃ a b, _ ∧ Option.bind (Option.bind (P5_layTable (nI N) o) _) _ = _ ∧ _
      rw [m_layTable hL hA]
      rcases (show j = 0 ∨ j = 1 by omega) with rfl | rfl
      · exact ⟨_, _, rfl, rfl, rfl, Sz.n hL.2.1⟩
      · exact ⟨_, _, rfl, rfl, rfl, Sz.n hL.2.1⟩
    · rw [show P5_within y 0 1 = some 0 from hw, ob, if_pos rfl, if_neg (show ¬ y = (0 : Int32) from hn 0 (by omega)), if_neg (show ¬ y = (1 : Int32) from hn 1 (by omega))]
      exact ⟨_, _, rfl, rfl, rfl, Sz.r _⟩
  · unfold P4_end P5_end
    rw [e4, e5, ob, ob, if_pos rfl]
    exact ⟨_, _, rfl, rfl, rfl, Sz.r _⟩
theorem m_isClosed {N k : Nat} {L : Nat → Nat} (hL : LW N L) (k6 : k < 6) (hl : lengths k = nI N) (hs : ∀ i, i < N → signs (20 * k + i) = nI (L i)) : ∃ o, P5_isClosed lengths signs at_ (nI k) = some ((if clo N L = true then 1 else 0), nI N, o) ∧ AO o N L := by
  obtain ⟨o, ho, hA⟩ := m_look (at_ := at_) hL.2.1 k6 hl hs
  refine ⟨o, ?_, hA⟩
  unfold P5_isClosed
  rw [ho, ob]
  show Option.bind (P5_isClosedNow (nI N) o) _ = _
  rw [m_isClosedNow hL hA, ob]
  cases clo N L <;> rfl
theorem c_form (h : SimRoads rc wn wv roads lengths signs) (x y : Int32) : ∃ a b, P4_form rc wn wv x y = some a ∧ P5_form roads lengths signs size at_ tA tB tC tD fa fb fc fg x y = some b ∧ a = b.1 ∧ Sz size b.2.1 := by
  rcases rd h x with ⟨k, N, L, k6, rfl, e4, e5, hL, hl, hs, w0, w1, w2, w3, w4, w5, w6⟩ | ⟨e4, e5⟩
  · obtain ⟨o, ho, hA⟩ := m_isClosed (at_ := at_) hL k6 hl hs
    unfold P4_form P5_form
    rw [e4, e5, ob, ob, if_neg (show ¬ (1 : Int32) = 0 by decide)]
    simp only []
    rcases wi y (m := 4) (by omega) with ⟨j, hj, rfl, hw⟩ | ⟨hw, hn⟩
    · rw [show P5_within (nI j) 0 4 = some 1 from hw, ob, if_neg (show ¬ (1 : Int32) = 0 by decide), if_neg (n_neg (by omega)), if_pos (show nI j < (5 : Int32) from nI_lt (b := 5) (by omega) (by omega)), w0, w2, w_isClosed hL, ob, ho, ob]
      by_cases hc : clo N L = true
      · obtain ⟨o2, h2, -⟩ := m_formNow (at_ := o) hL hc k6 hl hs (nI j)
        simp only []
        rw [if_pos hc, if_neg (show ¬ (1 : Int32) = 0 by decide), if_neg (show ¬ (1 : Int32) = 0 by decide), w3, w4, w5, w6, w_form hL hc, h2]
        exact ⟨_, _, rfl, rfl, rfl, Sz.n hL.2.1⟩
      · simp only []
        rw [if_neg hc, if_pos rfl, if_pos rfl]
        exact ⟨_, _, rfl, rfl, rfl, Sz.n hL.2.1⟩
    · rw [show P5_within y 0 4 = some 0 from hw, ob, if_pos rfl]
      by_cases y0 : y < 0
      · rw [if_pos y0]
        exact ⟨_, _, rfl, rfl, rfl, Sz.r _⟩
      · obtain ⟨j, hj, rfl⟩ := nn y0
        rw [if_neg y0, if_neg (show ¬ nI j < (5 : Int32) from (fun q => hn j (by have := (nI_ltI (b := 5) hj (by omega)).mp q; omega) rfl))]
        exact ⟨_, _, rfl, rfl, rfl, Sz.r _⟩
  · unfold P4_form P5_form
    rw [e4, e5, ob, ob, if_pos rfl]
    exact ⟨_, _, rfl, rfl, rfl, Sz.r _⟩
theorem c_alike (h : SimRoads rc wn wv roads lengths signs) (x y : Int32) : ∃ a b, P4_alike rc wn wv x y = some a ∧ P5_alike roads lengths signs size at_ otherSize other x y = some b ∧ a = b.1 ∧ Sz size b.2.1 := by
  rcases rd h x with ⟨k, N, L, k6, rfl, e4, e5, hL, hl, hs, w0, w1, w2, w3, w4, w5, w6⟩ | ⟨e4, e5⟩
  · rcases rd h y with ⟨k', M, T, k6', rfl, e4', e5', hT, hl', hs', w0', w1', w2', w3', w4', w5', w6'⟩ | ⟨e4', e5'⟩
    · obtain ⟨o, ho, hA⟩ := m_look (at_ := at_) hT.2.1 k6' hl' hs'
      obtain ⟨o2, ho2, hA2⟩ := m_layOther (other := other) hT.2.1 hT.2.2 hA 0 0
      obtain ⟨o3, ho3, hA3⟩ := m_look (at_ := o) hL.2.1 k6 hl hs
      rw [oth00] at hA2
      unfold P4_alike P5_alike P5_alikeNow
      rw [e4, e5, ob, ob, if_neg (show ¬ (1 : Int32) = 0 by decide)]
      simp only []
      rw [e4', e5', ob, ob, if_neg (show ¬ (1 : Int32) = 0 by decide), ho, ob]
      simp only []
      rw [ho2, ob, ho3, ob, w1, w1', w0, w0', w2]
      simp only []
      have h1 := hL.1
      have h2 := hL.2.1
      have h3 := hT.2.1
      by_cases hNM : N = M
      · subst hNM
        rw [if_pos rfl, show (0 : Int32) = nI 0 from rfl, w_turnTo hL hT (by omega), m_turnTo hL hA3 hT.2.2 hA2]
        exact ⟨_, _, rfl, rfl, rfl, Sz.n hL.2.1⟩
      · rw [if_neg (fun q => hNM ((nI_eq (by omega) (by omega)).mp q)), m_turnTo_ne h1 h2 h3 hNM]
        exact ⟨_, _, rfl, rfl, rfl, Sz.n hL.2.1⟩
    · unfold P4_alike P5_alike
      rw [e4, e5, ob, ob, if_neg (show ¬ (1 : Int32) = 0 by decide)]
      simp only []
      rw [e4', e5', ob, ob, if_pos rfl]
      exact ⟨_, _, rfl, rfl, rfl, Sz.r _⟩
  · unfold P4_alike P5_alike
    rw [e4, e5, ob, ob, if_pos rfl]
    simp only []
    rcases rd h y with ⟨k', M, T, k6', rfl, e4', e5', hT, hl', hs', w0', w1', w2', w3', w4', w5', w6'⟩ | ⟨e4', e5'⟩
    · rw [e4', ob]
      exact ⟨_, _, rfl, rfl, rfl, Sz.r _⟩
    · rw [e4', ob]
      exact ⟨_, _, rfl, rfl, rfl, Sz.r _⟩
theorem c_cross (h : SimRoads rc wn wv roads lengths signs) (x y : Int32) : ∃ a b, P4_cross rc wn wv x y = some a ∧ P5_cross roads lengths signs size at_ otherSize other x y = some b ∧ a = b.1 ∧ Sz size b.2.1 := by
  rcases rd h x with ⟨k, N, L, k6, rfl, e4, e5, hL, hl, hs, w0, w1, w2, w3, w4, w5, w6⟩ | ⟨e4, e5⟩
  · rcases rd h y with ⟨k', M, T, k6', rfl, e4', e5', hT, hl', hs', w0', w1', w2', w3', w4', w5', w6'⟩ | ⟨e4', e5'⟩
    · obtain ⟨p, hp, hB⟩ := m_isClosed (at_ := at_) hL k6 hl hs
      obtain ⟨p2, hp2, hB2⟩ := m_isClosed (at_ := p) hT k6' hl' hs'
      unfold P4_cross P5_cross P5_crossings
      rw [e4, e5, ob, ob, if_neg (show ¬ (1 : Int32) = 0 by decide)]
      simp only []
      rw [e4', e5', ob, ob, if_neg (show ¬ (1 : Int32) = 0 by decide), hp, ob]
      simp only []
      rw [w0, w2, w_isClosed hL, ob]
      by_cases hc : clo N L = true
      · rw [if_pos hc, if_neg (show ¬ (1 : Int32) = 0 by decide), if_neg (show ¬ (1 : Int32) = 0 by decide), hp2, ob]
        simp only []
        rw [w0', w2', w_isClosed hT, ob]
        by_cases hc2 : clo M T = true
        · obtain ⟨o, ho, hA⟩ := m_look (at_ := p2) hT.2.1 k6' hl' hs'
          obtain ⟨o2, ho2, hA2⟩ := m_layOther (other := other) hT.2.1 hT.2.2 hA 0 0
          obtain ⟨o3, ho3, hA3⟩ := m_look (at_ := o) hL.2.1 k6 hl hs
          rw [oth00] at hA2
          rw [if_pos hc2, if_neg (show ¬ (1 : Int32) = 0 by decide), if_neg (show ¬ (1 : Int32) = 0 by decide), ho, ob]
          simp only []
          rw [ho2, ob, ho3, ob, w1, w1', w_crossings hL hT]
          simp only []
          rw [m_crossNow hL hT hA3 hA2]
          exact ⟨_, _, rfl, rfl, rfl, Sz.n hL.2.1⟩
        · rw [if_neg hc2, if_pos rfl, if_pos rfl]
          exact ⟨_, _, rfl, rfl, rfl, Sz.n hT.2.1⟩
      · rw [if_neg hc, if_pos rfl, if_pos rfl]
        exact ⟨_, _, rfl, rfl, rfl, Sz.n hL.2.1⟩
    · unfold P4_cross P5_cross
      rw [e4, e5, ob, ob, if_neg (show ¬ (1 : Int32) = 0 by decide)]
      simp only []
      rw [e4', e5', ob, ob, if_pos rfl]
      exact ⟨_, _, rfl, rfl, rfl, Sz.r _⟩
  · unfold P4_cross P5_cross
    rw [e4, e5, ob, ob, if_pos rfl]
    simp only []
    rcases rd h y with ⟨k', M, T, k6', rfl, e4', e5', hT, hl', hs', w0', w1', w2', w3', w4', w5', w6'⟩ | ⟨e4', e5'⟩
    · rw [e4', ob]
      exact ⟨_, _, rfl, rfl, rfl, Sz.r _⟩
    · rw [e4', ob]
      exact ⟨_, _, rfl, rfl, rfl, Sz.r _⟩
end
theorem sim_road {v_roadCount v_readings v_psize v_good v_pbits v_letters v_afterLetter v_disc v_rsize v_cycleCount : Int32} {v_codes : Nat → Int32} {v_fo v_cy v_wv : Nat → Nat → Int32} {v_wn : Nat} {m_pageLength m_roads m_wordsRead m_disc m_forms m_cycles m_size m_otherSize m_tableA m_tableB m_tableC m_tableD : Int32} {m_page m_lengths m_signs m_formA m_formB m_formC m_nextOf m_cycleOf m_firstOf m_at m_other : Nat → Int32} (y0 : Int32) (y1 : Int32) (h : SIM v_roadCount v_readings v_psize v_good v_pbits v_letters v_afterLetter v_codes v_disc v_rsize v_cycleCount v_fo v_cy v_wn v_wv m_pageLength m_page m_roads m_lengths m_signs m_wordsRead m_disc m_forms m_formA m_formB m_formC m_nextOf m_cycleOf m_cycles m_firstOf m_size) : ∃ (a : Int32) (b : Int32 × Int32 × (Nat → Int32) × Int32 × (Nat → Int32) × Int32 × Int32 × Int32 × Int32), P4_road v_roadCount v_wn v_wv y0 y1 = some a ∧ P5_road m_roads m_lengths m_signs m_size m_at m_otherSize m_other m_tableA m_tableB m_tableC m_tableD y0 y1 = some b ∧ a = b.1 ∧ SIM v_roadCount v_readings v_psize v_good v_pbits v_letters v_afterLetter v_codes v_disc v_rsize v_cycleCount v_fo v_cy v_wn v_wv m_pageLength m_page m_roads m_lengths m_signs m_wordsRead m_disc m_forms m_formA m_formB m_formC m_nextOf m_cycleOf m_cycles m_firstOf b.2.1 := by
  obtain ⟨a, b, h1, h2, h3, h4⟩ := c_road (size := m_size) (otherSize := m_otherSize) (tA := m_tableA) (tB := m_tableB) (tC := m_tableC) (tD := m_tableD) (at_ := m_at) (other := m_other) h.2.1 y0 y1
  exact ⟨a, b, h1, h2, h3, h.1, h.2.1, h.2.2.1, h.2.2.2.1, h4.ok h.2.2.2.2⟩
theorem sim_sign {v_roadCount v_readings v_psize v_good v_pbits v_letters v_afterLetter v_disc v_rsize v_cycleCount : Int32} {v_codes : Nat → Int32} {v_fo v_cy v_wv : Nat → Nat → Int32} {v_wn : Nat} {m_pageLength m_roads m_wordsRead m_disc m_forms m_cycles m_size : Int32} {m_page m_lengths m_signs m_formA m_formB m_formC m_nextOf m_cycleOf m_firstOf : Nat → Int32} (y0 : Int32) (y1 : Int32) (h : SIM v_roadCount v_readings v_psize v_good v_pbits v_letters v_afterLetter v_codes v_disc v_rsize v_cycleCount v_fo v_cy v_wn v_wv m_pageLength m_page m_roads m_lengths m_signs m_wordsRead m_disc m_forms m_formA m_formB m_formC m_nextOf m_cycleOf m_cycles m_firstOf m_size) : ∃ (a : Int32) (b : Int32), P4_sign v_roadCount v_wn v_wv y0 y1 = some a ∧ P5_sign m_roads m_lengths m_signs y0 y1 = some b ∧ a = b ∧ SIM v_roadCount v_readings v_psize v_good v_pbits v_letters v_afterLetter v_codes v_disc v_rsize v_cycleCount v_fo v_cy v_wn v_wv m_pageLength m_page m_roads m_lengths m_signs m_wordsRead m_disc m_forms m_formA m_formB m_formC m_nextOf m_cycleOf m_cycles m_firstOf m_size := by
  obtain ⟨a, h1, h2⟩ := c_sign h.2.1 y0 y1
  exact ⟨a, a, h1, h2, rfl, h⟩
theorem sim_table {v_roadCount v_readings v_psize v_good v_pbits v_letters v_afterLetter v_disc v_rsize v_cycleCount : Int32} {v_codes : Nat → Int32} {v_fo v_cy v_wv : Nat → Nat → Int32} {v_wn : Nat} {m_pageLength m_roads m_wordsRead m_disc m_forms m_cycles m_size m_tableA m_tableB m_tableC m_tableD : Int32} {m_page m_lengths m_signs m_formA m_formB m_formC m_nextOf m_cycleOf m_firstOf m_at : Nat → Int32} (y0 : Int32) (y1 : Int32) (h : SIM v_roadCount v_readings v_psize v_good v_pbits v_letters v_afterLetter v_codes v_disc v_rsize v_cycleCount v_fo v_cy v_wn v_wv m_pageLength m_page m_roads m_lengths m_signs m_wordsRead m_disc m_forms m_formA m_formB m_formC m_nextOf m_cycleOf m_cycles m_firstOf m_size) : ∃ (a : Int32) (b : Int32 × Int32 × (Nat → Int32) × Int32 × Int32 × Int32 × Int32), P4_table v_roadCount v_wn v_wv y0 y1 = some a ∧ P5_table m_roads m_lengths m_signs m_size m_at m_tableA m_tableB m_tableC m_tableD y0 y1 = some b ∧ a = b.1 ∧ SIM v_roadCount v_readings v_psize v_good v_pbits v_letters v_afterLetter v_codes v_disc v_rsize v_cycleCount v_fo v_cy v_wn v_wv m_pageLength m_page m_roads m_lengths m_signs m_wordsRead m_disc m_forms m_formA m_formB m_formC m_nextOf m_cycleOf m_cycles m_firstOf b.2.1 := by
  obtain ⟨a, b, h1, h2, h3, h4⟩ := c_table (size := m_size) (tA := m_tableA) (tB := m_tableB) (tC := m_tableC) (tD := m_tableD) (at_ := m_at) h.2.1 y0 y1
  exact ⟨a, b, h1, h2, h3, h.1, h.2.1, h.2.2.1, h.2.2.2.1, h4.ok h.2.2.2.2⟩
theorem sim_end {v_roadCount v_readings v_psize v_good v_pbits v_letters v_afterLetter v_disc v_rsize v_cycleCount : Int32} {v_codes : Nat → Int32} {v_fo v_cy v_wv : Nat → Nat → Int32} {v_wn : Nat} {m_pageLength m_roads m_wordsRead m_disc m_forms m_cycles m_size m_tableA m_tableB m_tableC m_tableD : Int32} {m_page m_lengths m_signs m_formA m_formB m_formC m_nextOf m_cycleOf m_firstOf m_at : Nat → Int32} (y0 : Int32) (y1 : Int32) (h : SIM v_roadCount v_readings v_psize v_good v_pbits v_letters v_afterLetter v_codes v_disc v_rsize v_cycleCount v_fo v_cy v_wn v_wv m_pageLength m_page m_roads m_lengths m_signs m_wordsRead m_disc m_forms m_formA m_formB m_formC m_nextOf m_cycleOf m_cycles m_firstOf m_size) : ∃ (a : Int32) (b : Int32 × Int32 × (Nat → Int32) × Int32 × Int32 × Int32 × Int32), P4_end v_roadCount v_wn v_wv y0 y1 = some a ∧ P5_end m_roads m_lengths m_signs m_size m_at m_tableA m_tableB m_tableC m_tableD y0 y1 = some b ∧ a = b.1 ∧ SIM v_roadCount v_readings v_psize v_good v_pbits v_letters v_afterLetter v_codes v_disc v_rsize v_cycleCount v_fo v_cy v_wn v_wv m_pageLength m_page m_roads m_lengths m_signs m_wordsRead m_disc m_forms m_formA m_formB m_formC m_nextOf m_cycleOf m_cycles m_firstOf b.2.1 := by
  obtain ⟨a, b, h1, h2, h3, h4⟩ := c_end (size := m_size) (tA := m_tableA) (tB := m_tableB) (tC := m_tableC) (tD := m_tableD) (at_ := m_at) h.2.1 y0 y1
  exact ⟨a, b, h1, h2, h3, h.1, h.2.1, h.2.2.1, h.2.2.2.1, h4.ok h.2.2.2.2⟩
theorem sim_form {v_roadCount v_readings v_psize v_good v_pbits v_letters v_afterLetter v_disc v_rsize v_cycleCount : Int32} {v_codes : Nat → Int32} {v_fo v_cy v_wv : Nat → Nat → Int32} {v_wn : Nat} {m_pageLength m_roads m_wordsRead m_disc m_forms m_cycles m_size m_tableA m_tableB m_tableC m_tableD m_a m_b m_c m_grade : Int32} {m_page m_lengths m_signs m_formA m_formB m_formC m_nextOf m_cycleOf m_firstOf m_at : Nat → Int32} (y0 : Int32) (y1 : Int32) (h : SIM v_roadCount v_readings v_psize v_good v_pbits v_letters v_afterLetter v_codes v_disc v_rsize v_cycleCount v_fo v_cy v_wn v_wv m_pageLength m_page m_roads m_lengths m_signs m_wordsRead m_disc m_forms m_formA m_formB m_formC m_nextOf m_cycleOf m_cycles m_firstOf m_size) : ∃ (a : Int32) (b : Int32 × Int32 × (Nat → Int32) × Int32 × Int32 × Int32 × Int32 × Int32 × Int32 × Int32 × Int32), P4_form v_roadCount v_wn v_wv y0 y1 = some a ∧ P5_form m_roads m_lengths m_signs m_size m_at m_tableA m_tableB m_tableC m_tableD m_a m_b m_c m_grade y0 y1 = some b ∧ a = b.1 ∧ SIM v_roadCount v_readings v_psize v_good v_pbits v_letters v_afterLetter v_codes v_disc v_rsize v_cycleCount v_fo v_cy v_wn v_wv m_pageLength m_page m_roads m_lengths m_signs m_wordsRead m_disc m_forms m_formA m_formB m_formC m_nextOf m_cycleOf m_cycles m_firstOf b.2.1 := by
  obtain ⟨a, b, h1, h2, h3, h4⟩ := c_form (size := m_size) (tA := m_tableA) (tB := m_tableB) (tC := m_tableC) (tD := m_tableD) (fa := m_a) (fb := m_b) (fc := m_c) (fg := m_grade) (at_ := m_at) h.2.1 y0 y1
  exact ⟨a, b, h1, h2, h3, h.1, h.2.1, h.2.2.1, h.2.2.2.1, h4.ok h.2.2.2.2⟩
theorem sim_alike {v_roadCount v_readings v_psize v_good v_pbits v_letters v_afterLetter v_disc v_rsize v_cycleCount : Int32} {v_codes : Nat → Int32} {v_fo v_cy v_wv : Nat → Nat → Int32} {v_wn : Nat} {m_pageLength m_roads m_wordsRead m_disc m_forms m_cycles m_size m_otherSize : Int32} {m_page m_lengths m_signs m_formA m_formB m_formC m_nextOf m_cycleOf m_firstOf m_at m_other : Nat → Int32} (y0 : Int32) (y1 : Int32) (h : SIM v_roadCount v_readings v_psize v_good v_pbits v_letters v_afterLetter v_codes v_disc v_rsize v_cycleCount v_fo v_cy v_wn v_wv m_pageLength m_page m_roads m_lengths m_signs m_wordsRead m_disc m_forms m_formA m_formB m_formC m_nextOf m_cycleOf m_cycles m_firstOf m_size) : ∃ (a : Int32) (b : Int32 × Int32 × (Nat → Int32) × Int32 × (Nat → Int32)), P4_alike v_roadCount v_wn v_wv y0 y1 = some a ∧ P5_alike m_roads m_lengths m_signs m_size m_at m_otherSize m_other y0 y1 = some b ∧ a = b.1 ∧ SIM v_roadCount v_readings v_psize v_good v_pbits v_letters v_afterLetter v_codes v_disc v_rsize v_cycleCount v_fo v_cy v_wn v_wv m_pageLength m_page m_roads m_lengths m_signs m_wordsRead m_disc m_forms m_formA m_formB m_formC m_nextOf m_cycleOf m_cycles m_firstOf b.2.1 := by
  obtain ⟨a, b, h1, h2, h3, h4⟩ := c_alike (size := m_size) (otherSize := m_otherSize) (at_ := m_at) (other := m_other) h.2.1 y0 y1
  exact ⟨a, b, h1, h2, h3, h.1, h.2.1, h.2.2.1, h.2.2.2.1, h4.ok h.2.2.2.2⟩
theorem sim_cross {v_roadCount v_readings v_psize v_good v_pbits v_letters v_afterLetter v_disc v_rsize v_cycleCount : Int32} {v_codes : Nat → Int32} {v_fo v_cy v_wv : Nat → Nat → Int32} {v_wn : Nat} {m_pageLength m_roads m_wordsRead m_disc m_forms m_cycles m_size m_otherSize : Int32} {m_page m_lengths m_signs m_formA m_formB m_formC m_nextOf m_cycleOf m_firstOf m_at m_other : Nat → Int32} (y0 : Int32) (y1 : Int32) (h : SIM v_roadCount v_readings v_psize v_good v_pbits v_letters v_afterLetter v_codes v_disc v_rsize v_cycleCount v_fo v_cy v_wn v_wv m_pageLength m_page m_roads m_lengths m_signs m_wordsRead m_disc m_forms m_formA m_formB m_formC m_nextOf m_cycleOf m_cycles m_firstOf m_size) : ∃ (a : Int32) (b : Int32 × Int32 × (Nat → Int32) × Int32 × (Nat → Int32)), P4_cross v_roadCount v_wn v_wv y0 y1 = some a ∧ P5_cross m_roads m_lengths m_signs m_size m_at m_otherSize m_other y0 y1 = some b ∧ a = b.1 ∧ SIM v_roadCount v_readings v_psize v_good v_pbits v_letters v_afterLetter v_codes v_disc v_rsize v_cycleCount v_fo v_cy v_wn v_wv m_pageLength m_page m_roads m_lengths m_signs m_wordsRead m_disc m_forms m_formA m_formB m_formC m_nextOf m_cycleOf m_cycles m_firstOf b.2.1 := by
  obtain ⟨a, b, h1, h2, h3, h4⟩ := c_cross (size := m_size) (otherSize := m_otherSize) (at_ := m_at) (other := m_other) h.2.1 y0 y1
  exact ⟨a, b, h1, h2, h3, h.1, h.2.1, h.2.2.1, h.2.2.2.1, h4.ok h.2.2.2.2⟩
