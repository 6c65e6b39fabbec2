-- WHAT THE CLASS AND THE REFERENCE HAVE IN COMMON
/-- a road of the class: the word of length N with the letters L -/
def WR (wv : Nat → Nat → Int32) (k N : Nat) (L : Nat → Nat) : Prop := wv k 0 = nI (bv L N) ∧ wv k 1 = nI N ∧ wv k 2 = nI (2 ^ N - 1) ∧ wv k 3 = (mt L N).1 ∧ wv k 4 = (mt L N).2.1 ∧ wv k 5 = (mt L N).2.2.1 ∧ wv k 6 = (mt L N).2.2.2
def RR (wv : Nat → Nat → Int32) (lengths signs : Nat → Int32) (k : Nat) : Prop := ∃ N L, LW N L ∧ lengths k = nI N ∧ (∀ i, i < N → signs (20 * k + i) = nI (L i)) ∧ WR wv k N L
def SimRoads (v_roadCount : Int32) (v_wn : Nat) (v_wv : Nat → Nat → Int32) (m_roads : Int32) (m_lengths m_signs : Nat → Int32) : Prop := ∃ n : Nat, n ≤ 6 ∧ n ≤ v_wn ∧ v_roadCount = nI n ∧ m_roads = nI n ∧ ∀ k, k < n → RR v_wv m_lengths m_signs k
/-- one character more, if it can stand there -/
def nstep (s : Nat × (Nat → Nat) × Bool) (x : Nat) : Option (Nat × (Nat → Nat) × Bool) :=
  if x = 76 ∨ x = 82 then (if s.1 = 20 then none else some (s.1 + 1, fun i => if i = s.1 then (if x = 82 then 1 else 0) else s.2.1 i, true))
  else if s.2.2 = true ∧ 50 ≤ x ∧ x ≤ 57 ∧ s.1 + (x - 49) ≤ 20 then some (s.1 + (x - 49), fun i => if i < s.1 then s.2.1 i else s.2.1 (s.1 - 1), false) else none
/-- the good beginning of a text: how many characters, and what they say -/
def pst (c : Nat → Nat) : Nat → Nat × Nat × (Nat → Nat) × Bool
  | 0 => (0, 0, fun _ => 0, false)
  | j + 1 => if (pst c j).1 = j then (match nstep (pst c j).2 (c j) with | none => pst c j | some s => (j + 1, s)) else pst c j
def SimPage (v_psize v_good v_pbits v_letters v_afterLetter : Int32) (v_codes : Nat → Int32) (m_pageLength : Int32) (m_page : Nat → Int32) : Prop := ∃ (pl : Nat) (c : Nat → Nat), pl ≤ 20 ∧ v_psize = nI pl ∧ m_pageLength = nI pl ∧ (∀ i, i < pl → c i < 127 ∧ v_codes i = nI (c i) ∧ m_page i = nI (c i)) ∧ v_good = nI (pst c pl).1 ∧ v_letters = nI (pst c pl).2.1 ∧ v_pbits = nI (bv (pst c pl).2.2.1 (pst c pl).2.1) ∧ v_afterLetter = (if (pst c pl).2.2.2 = true then 1 else 0)
def SimRiver (v_disc v_rsize v_cycleCount : Int32) (v_fo v_cy : Nat → Nat → Int32) (m_disc m_forms m_cycles : Int32) (m_formA m_formB m_formC m_nextOf m_cycleOf m_firstOf : Nat → Int32) : Prop := (v_rsize = 0 ∧ v_cycleCount = 0 ∧ m_disc = 0 ∧ m_forms = 0 ∧ m_cycles = 0) ∨ ∃ (d q : Nat) (first : Nat → Nat), v_disc = nI d ∧ v_rsize = nI (FL d).length ∧ v_cycleCount = nI q ∧ m_disc = nI d ∧ m_forms = nI (FL d).length ∧ m_cycles = nI q ∧ RV d q first v_fo v_cy m_formA m_formB m_formC m_nextOf m_cycleOf m_firstOf
/-- the class and the reference tell the same -/
def SIM (v_roadCount : Int32) (v_readings : Int32) (v_psize : Int32) (v_good : Int32) (v_pbits : Int32) (v_letters : Int32) (v_afterLetter : Int32) (v_codes : Nat → Int32) (v_disc : Int32) (v_rsize : Int32) (v_cycleCount : Int32) (v_fo : Nat → Nat → Int32) (v_cy : Nat → Nat → Int32) (v_wn : Nat) (v_wv : Nat → Nat → Int32) (m_pageLength : Int32) (m_page : Nat → Int32) (m_roads : Int32) (m_lengths : Nat → Int32) (m_signs : Nat → Int32) (m_wordsRead : Int32) (m_disc : Int32) (m_forms : Int32) (m_formA : Nat → Int32) (m_formB : Nat → Int32) (m_formC : Nat → Int32) (m_nextOf : Nat → Int32) (m_cycleOf : Nat → Int32) (m_cycles : Int32) (m_firstOf : Nat → Int32) (m_size : Int32) : Prop := SimPage v_psize v_good v_pbits v_letters v_afterLetter v_codes m_pageLength m_page ∧ SimRoads v_roadCount v_wn v_wv m_roads m_lengths m_signs ∧ SimRiver v_disc v_rsize v_cycleCount v_fo v_cy m_disc m_forms m_cycles m_formA m_formB m_formC m_nextOf m_cycleOf m_firstOf ∧ v_readings = m_wordsRead ∧ ∃ n : Nat, n ≤ 20 ∧ m_size = nI n
theorem nn {x : Int32} (h : ¬ x < 0) : ∃ k : Nat, k < 2 ^ 31 ∧ x = nI k := by
  have h1 := x.toInt_lt
  have h2 := Int32.le_iff_toInt_le.mp (Int32.not_lt.mp h)
  rw [show (0 : Int32).toInt = 0 from rfl] at h2
  exact ⟨x.toInt.toNat, by omega, Int32.toInt_inj.mp (by rw [nI_toInt (by omega)]; omega)⟩
theorem wi (y : Int32) {m : Nat} (hm : m < 2 ^ 31) : (∃ j, j ≤ m ∧ y = nI j ∧ P5_within y 0 (nI m) = some 1) ∨ (P5_within y 0 (nI m) = some 0 ∧ ∀ j, j ≤ m → ¬ y = nI j) := by
  rw [m_within]
  by_cases h : 0 ≤ y ∧ y ≤ nI m
  · obtain ⟨k, hk, rfl⟩ := nn (Int32.not_lt.mpr h.1)
    rw [if_pos h]
    exact Or.inl ⟨k, (nI_leI hk hm).mp h.2, rfl, rfl⟩
  · rw [if_neg h]
    refine Or.inr ⟨rfl, fun j hj hy => h ?_⟩
    subst hy
    exact ⟨nI_le (a := 0) (by omega) (by omega), nI_le hj hm⟩
theorem m_isRoad (roads x : Int32) : P5_isRoad roads x = some (if 0 ≤ x ∧ x ≤ roads - 1 then 1 else 0) := by
  unfold P5_isRoad
  rw [m_within, ob]
  by_cases h : 0 ≤ x ∧ x ≤ roads - 1
  · rw [if_pos h, if_pos (Or.inr rfl)]
  · rw [if_neg h, if_pos (Or.inl rfl)]
theorem rd {rc roads : Int32} {wn : Nat} {wv : Nat → Nat → Int32} {lengths signs : Nat → Int32} (h : SimRoads rc wn wv roads lengths signs) (x : Int32) : (∃ k N L, k < 6 ∧ x = nI k ∧ P4_roadAt rc wn x = some (some k) ∧ P5_isRoad roads x = some 1 ∧ LW N L ∧ lengths k = nI N ∧ (∀ i, i < N → signs (20 * k + i) = nI (L i)) ∧ WR wv k N L) ∨ (P4_roadAt rc wn x = some none ∧ P5_isRoad roads x = some 0) := by
  obtain ⟨n, n6, nw, rfl, rfl, hr⟩ := h
  unfold P4_roadAt
  rw [m_isRoad]
  by_cases h0 : x < 0
  · rw [if_pos h0, if_neg (fun q => absurd h0 (Int32.not_lt.mpr q.1))]
    exact Or.inr ⟨rfl, rfl⟩
  · rw [if_neg h0]
    obtain ⟨k, hk, rfl⟩ := nn h0
    by_cases h1 : k < n
    · rw [if_neg (nI_ge h1 (by omega)), if_neg (show ¬ (6 : Int32) ≤ nI k from nI_ge (b := 6) (by omega) (by omega)), if_pos (n_in (by omega) (by omega)), n_cl hk, if_pos (by omega), show nI n - 1 = nI (n - 1) from n_sub (b := 1) (by omega), if_pos ⟨nI_le (a := 0) (by omega) hk, nI_le (by omega) (by omega)⟩]
      obtain ⟨N, L, hL, hl, hs, hw⟩ := hr k h1
      exact Or.inl ⟨k, N, L, by omega, rfl, rfl, rfl, hL, hl, hs, hw⟩
    · rw [if_pos (nI_le (by omega) hk)]
      refine Or.inr ⟨rfl, ?_⟩
      rw [if_neg]
      intro q
      by_cases hn : n = 0
      · subst hn
        have := q.2
        rw [show nI 0 - 1 = (-1 : Int32) by decide] at this
        have q1 := Int32.le_iff_toInt_le.mp this
        rw [nI_toInt hk, show (-1 : Int32).toInt = -1 from rfl] at q1
        omega
      · have := q.2
        rw [show nI n - 1 = nI (n - 1) from n_sub (b := 1) (by omega)] at this
        have q1 := (nI_leI hk (by omega)).mp this
        omega
