-- count
theorem wi1 {j m : Nat} (h : j ≤ m) (hm : m < 2 ^ 31) : P5_within (nI j) 0 (nI m) = some 1 := by
  rw [m_within, if_pos ⟨nI_le (a := 0) (by omega) (by omega), nI_le h hm⟩]
theorem obx {α β : Type} {o : Option α} {f : α → Option β} {b : β} (h : Option.bind o f = some b) : ∃ a, o = some a ∧ f a = some b := by
  cases o with
  | none => cases h
  | some a => exact ⟨a, rfl, h⟩
theorem Sz.tr {s t : Int32} {n : Nat} (hn : n ≤ 20) (h : Sz (nI n) t) : Sz s t := by
  rcases h with rfl | h
  · exact Or.inr ⟨n, hn, rfl⟩
  · exact Or.inr h
theorem Sz.two {s t u : Int32} (h : Sz s t) (h2 : Sz t u) : Sz s u := by
  rcases h2 with rfl | h2
  · exact h
  · exact Or.inr h2
/-- road k is there -/
def RD (rc roads : Int32) (wn : Nat) (wv : Nat → Nat → Int32) (lengths signs : Nat → Int32) (k N : Nat) (L : Nat → Nat) : Prop := k < 6 ∧ P4_roadAt rc wn (nI k) = some (some k) ∧ P5_isRoad roads (nI k) = some 1 ∧ LW N L ∧ lengths k = nI N ∧ (∀ i, i < N → signs (20 * k + i) = nI (L i)) ∧ WR wv k N L
section
variable {rc roads : Int32} {wn : Nat} {wv : Nat → Nat → Int32} {lengths signs : Nat → Int32}
theorem rdk (h : SimRoads rc wn wv roads lengths signs) : ∃ n, n ≤ 6 ∧ rc = nI n ∧ roads = nI n ∧ ∀ k, k < n → ∃ N L, RD rc roads wn wv lengths signs k N L := by
  obtain ⟨n, n6, nw, rfl, rfl, hr⟩ := h
  refine ⟨n, n6, rfl, rfl, fun k hk => ?_⟩
  obtain ⟨N, L, hL, hl, hs, hw⟩ := hr k hk
  refine ⟨N, L, by omega, ?_, ?_, hL, hl, hs, hw⟩
  · unfold P4_roadAt
    rw [if_neg (n_neg (show k < 2 ^ 31 by omega)), if_neg (nI_ge hk (by omega)), if_neg (show ¬ (6 : Int32) ≤ nI k from nI_ge (b := 6) (by omega) (by omega)), if_pos (n_in (by omega) (by omega)), n_cl (by omega), if_pos (by omega)]
  · rw [m_isRoad, show nI n - 1 = nI (n - 1) from n_sub (b := 1) (by omega), if_pos ⟨nI_le (a := 0) (by omega) (by omega), nI_le (by omega) (by omega)⟩]
theorem k_closed {k N : Nat} {L : Nat → Nat} (h : RD rc roads wn wv lengths signs k N L) : P4_isClosedRoad rc wn wv (nI k) = some (b2 (clo N L)) := by
  obtain ⟨k6, e4, e5, hL, hl, hs, w0, w1, w2, w3, w4, w5, w6⟩ := h
  unfold P4_isClosedRoad
  rw [e4, ob]
  simp only []
  rw [w0, w2, w_isClosed hL, ob]
  cases clo N L
  · rfl
  · rfl
theorem k_isClosed {k N : Nat} {L : Nat → Nat} (h : RD rc roads wn wv lengths signs k N L) (at_ : Nat → Int32) : ∃ o, P5_isClosed lengths signs at_ (nI k) = some (b2 (clo N L), nI N, o) := by
  obtain ⟨k6, e4, e5, hL, hl, hs, hw⟩ := h
  obtain ⟨o, ho, -⟩ := m_isClosed (at_ := at_) hL k6 hl hs
  exact ⟨o, ho⟩
theorem c_closed_loop {n : Nat} (n6 : n ≤ 6) (hK : ∀ k, k < n → ∃ N L, RD (nI n) (nI n) wn wv lengths signs k N L) : ∀ (j k f g : Nat) (x size : Int32) (at_ : Nat → Int32), k + j = n → j < f → j < g → ∃ u r, P4_closedRoads_4 (nI n) wn wv f x (nI k) = some u ∧ P5_closedMany_4 (nI n) lengths signs g size at_ x (nI k) = some r ∧ u = r.2.2 ∧ Sz size r.1
  | 0, k, f, g, x, size, at_, hk, hf, hg => by
    obtain ⟨f, rfl⟩ : ∃ w, f = w + 1 := ⟨f - 1, by omega⟩
    obtain ⟨g, rfl⟩ : ∃ w, g = w + 1 := ⟨g - 1, by omega⟩
    rw [P4_closedRoads_4, if_pos (nI_le (by omega) (by omega)), P5_closedMany_4, if_pos (nI_le (by omega) (by omega))]
    exact ⟨_, _, rfl, rfl, rfl, Sz.r _⟩
  | j + 1, k, f, g, x, size, at_, hk, hf, hg => by
    obtain ⟨f, rfl⟩ : ∃ w, f = w + 1 := ⟨f - 1, by omega⟩
    obtain ⟨g, rfl⟩ : ∃ w, g = w + 1 := ⟨g - 1, by omega⟩
    obtain ⟨N, L, hR⟩ := hK k (by omega)
    have hN := hR.2.2.2.1.2.1
    obtain ⟨o, ho⟩ := k_isClosed hR at_
    rw [P4_closedRoads_4, if_neg (nI_ge (show k < n by omega) (by omega)), k_closed hR, ob, P5_closedMany_4, if_neg (nI_ge (show k < n by omega) (by omega)), ho, ob, nI_1]
    cases clo N L with
    | false =>
      rw [if_pos (show b2 false = 0 by decide)]
      simp only []
      rw [if_pos (show b2 false = 0 by decide), n_a0]
      obtain ⟨u, r, h1, h2, h3, h4⟩ := c_closed_loop n6 hK j (k + 1) f g x (nI N) o (by omega) (by omega) (by omega)
      exact ⟨u, r, h1, h2, h3, h4.tr hN⟩
    | true =>
      rw [if_neg (show ¬ b2 true = 0 by decide)]
      simp only []
      rw [if_neg (show ¬ b2 true = 0 by decide)]
      obtain ⟨u, r, h1, h2, h3, h4⟩ := c_closed_loop n6 hK j (k + 1) f g (x + 1) (nI N) o (by omega) (by omega) (by omega)
      exact ⟨u, r, h1, h2, h3, h4.tr hN⟩
theorem k_alike {i k N M : Nat} {L T : Nat → Nat} (hA : RD rc roads wn wv lengths signs i N L) (hB : RD rc roads wn wv lengths signs k M T) (at_ other : Nat → Int32) : ∃ a o1 o2, (a = -2000000001 ∨ ∃ t : Nat, t < 2 ^ 31 ∧ a = nI t) ∧ P4_alike rc wn wv (nI i) (nI k) = some a ∧ P5_alikeNow lengths signs at_ other (nI i) (nI k) = some (a, nI N, o1, nI M, o2) := by
  obtain ⟨k6, e4, e5, hL, hl, hs, w0, w1, w2, w3, w4, w5, w6⟩ := hA
  obtain ⟨k6', e4', e5', hT, hl', hs', w0', w1', w2', w3', w4', w5', w6'⟩ := hB
  have h1 := hL.1
  have h2 := hL.2.1
  have h3 := hT.2.1
  obtain ⟨o, ho, hO⟩ := m_look (at_ := at_) hT.2.1 k6' hl' hs'
  obtain ⟨o2, ho2, hO2⟩ := m_layOther (other := other) hT.2.1 hT.2.2 hO 0 0
  obtain ⟨o3, ho3, hO3⟩ := m_look (at_ := o) hL.2.1 k6 hl hs
  rw [oth00] at hO2
  unfold P4_alike P5_alikeNow
  rw [e4, ob]
  simp only []
  rw [e4', ob, ho, ob]
  simp only []
  rw [ho2, ob, ho3, ob, w1, w1', w0, w0', w2]
  simp only []
  by_cases hNM : N = M
  · subst hNM
    rw [if_pos rfl, show (0 : Int32) = nI 0 from rfl, w_turnTo hL hT (by omega), m_turnTo hL hO3 hT.2.2 hO2]
    refine ⟨_, _, _, ?_, rfl, rfl⟩
    rw [Nat.sub_zero]
    by_cases q : fnd (eqr N L T) 0 N < N
    · rw [if_pos q]
      exact Or.inr ⟨_, by omega, rfl⟩
    · rw [if_neg q]
      exact Or.inl rfl
  · rw [if_neg (fun q => hNM ((nI_eq (by omega) (by omega)).mp q)), m_turnTo_ne h1 h2 h3 hNM]
    exact ⟨_, _, _, Or.inl rfl, rfl, rfl⟩
theorem n17_zero {k : Nat} (hk : k < 2 ^ 31) (size os : Int32) (at_ other : Nat → Int32) : ∀ (j i g : Nat), i + j = k → j < g → P5_newMany_17 lengths signs (nI k) g size at_ os other 0 (nI i) = some (size, at_, os, other, 0)
  | 0, i, g, hi, hg => by
    obtain ⟨g, rfl⟩ : ∃ w, g = w + 1 := ⟨g - 1, by omega⟩
    rw [P5_newMany_17, if_pos (nI_le (by omega) (by omega))]
  | j + 1, i, g, hi, hg => by
    obtain ⟨g, rfl⟩ : ∃ w, g = w + 1 := ⟨g - 1, by omega⟩
    rw [P5_newMany_17, if_neg (nI_ge (show i < k by omega) (by omega)), if_pos rfl, nI_1]
    exact n17_zero hk size os at_ other j (i + 1) g (by omega) (by omega)
theorem c_first_loop {n k : Nat} (n6 : n ≤ 6) (hK : ∀ k, k < n → ∃ N L, RD (nI n) (nI n) wn wv lengths signs k N L) (hk : k < n) : ∀ (j i f g : Nat) (size os : Int32) (at_ other : Nat → Int32), i + j = k → j < f → j < g → ∃ r, P4_isFirstOfClass_2 (nI n) wn wv (nI k) f (nI i) = some r.2.2.2.2 ∧ P5_newMany_17 lengths signs (nI k) g size at_ os other 1 (nI i) = some r ∧ Sz size r.1
  | 0, i, f, g, size, os, at_, other, hi, hf, hg => by
    obtain ⟨f, rfl⟩ : ∃ w, f = w + 1 := ⟨f - 1, by omega⟩
    obtain ⟨g, rfl⟩ : ∃ w, g = w + 1 := ⟨g - 1, by omega⟩
    rw [P4_isFirstOfClass_2, if_pos (nI_le (by omega) (by omega)), P5_newMany_17, if_pos (nI_le (by omega) (by omega))]
    exact ⟨(size, at_, os, other, 1), rfl, rfl, Sz.r _⟩
  | j + 1, i, f, g, size, os, at_, other, hi, hf, hg => by
    obtain ⟨f, rfl⟩ : ∃ w, f = w + 1 := ⟨f - 1, by omega⟩
    obtain ⟨g, rfl⟩ : ∃ w, g = w + 1 := ⟨g - 1, by omega⟩
    obtain ⟨N, L, hA⟩ := hK i (by omega)
    obtain ⟨M, T, hB⟩ := hK k hk
    have hN := hA.2.2.2.1.2.1
    obtain ⟨a, o1, o2, ha, q1, q2⟩ := k_alike hA hB at_ other
    rw [P4_isFirstOfClass_2, if_neg (nI_ge (show i < k by omega) (by omega)), q1, ob, P5_newMany_17, if_neg (nI_ge (show i < k by omega) (by omega)), if_neg (show ¬ (1 : Int32) = 0 by decide), q2, ob, nI_1]
    simp only []
    rcases ha with rfl | ⟨t, ht, rfl⟩
    · rw [if_pos (by decide), if_pos rfl]
      obtain ⟨r, h1, h2, h3⟩ := c_first_loop n6 hK hk j (i + 1) f g (nI N) (nI M) o1 o2 (by omega) (by omega) (by omega)
      exact ⟨r, h1, h2, h3.tr hN⟩
    · rw [if_neg (n_neg ht), if_neg (n_none ht), n17_zero (by omega) (nI N) (nI M) o1 o2 j (i + 1) g (by omega) (by omega)]
      exact ⟨(nI N, o1, nI M, o2, 0), rfl, rfl, Sz.n hN⟩
theorem c_new_loop {n : Nat} (n6 : n ≤ 6) (hK : ∀ k, k < n → ∃ N L, RD (nI n) (nI n) wn wv lengths signs k N L) : ∀ (j k f g : Nat) (x size os : Int32) (at_ other : Nat → Int32), k + j = n → j < f → j < g → ∃ u r, P4_roadClasses_4 (nI n) wn wv f x (nI k) = some u ∧ P5_newMany_4 (nI n) lengths signs g size at_ os other x (nI k) = some r ∧ u = r.2.2.2.2 ∧ Sz size r.1
  | 0, k, f, g, x, size, os, at_, other, hk, hf, hg => by
    obtain ⟨f, rfl⟩ : ∃ w, f = w + 1 := ⟨f - 1, by omega⟩
    obtain ⟨g, rfl⟩ : ∃ w, g = w + 1 := ⟨g - 1, by omega⟩
    rw [P4_roadClasses_4, if_pos (nI_le (by omega) (by omega)), P5_newMany_4, if_pos (nI_le (by omega) (by omega))]
    exact ⟨_, _, rfl, rfl, rfl, Sz.r _⟩
  | j + 1, k, f, g, x, size, os, at_, other, hk, hf, hg => by
    obtain ⟨f, rfl⟩ : ∃ w, f = w + 1 := ⟨f - 1, by omega⟩
    obtain ⟨g, rfl⟩ : ∃ w, g = w + 1 := ⟨g - 1, by omega⟩
    obtain ⟨r, r1, r2, r3⟩ := c_first_loop n6 hK (show k < n by omega) k 0 FU FU size os at_ other (by omega) (by unfold FU; omega) (by unfold FU; omega)
    rw [P4_roadClasses_4, if_neg (nI_ge (show k < n by omega) (by omega)), show P4_isFirstOfClass (nI n) wn wv (nI k) = some r.2.2.2.2 from r1, ob, P5_newMany_4, if_neg (nI_ge (show k < n by omega) (by omega)), show P5_newMany_17 lengths signs (nI k) FU size at_ os other 1 0 = some r from r2, ob, nI_1]
    by_cases w : r.2.2.2.2 = 0
    · rw [if_pos w, if_pos w, n_a0]
      obtain ⟨u, s, h1, h2, h3, h4⟩ := c_new_loop n6 hK j (k + 1) f g x r.1 r.2.2.1 r.2.1 r.2.2.2.1 (by omega) (by omega) (by omega)
      exact ⟨u, s, h1, h2, h3, r3.two h4⟩
    · rw [if_neg w, if_neg w]
      obtain ⟨u, s, h1, h2, h3, h4⟩ := c_new_loop n6 hK j (k + 1) f g (x + 1) r.1 r.2.2.1 r.2.1 r.2.2.2.1 (by omega) (by omega) (by omega)
      exact ⟨u, s, h1, h2, h3, r3.two h4⟩
theorem c_howMany (h : SimRoads rc wn wv roads lengths signs) (pl wr nf nc size os : Int32) (at_ other : Nat → Int32) (x : Int32) : ∃ a b, P4_count rc wr pl nf nc wn wv x = some a ∧ P5_howMany pl roads lengths signs wr nf nc size at_ os other x = some b ∧ a = b.1 ∧ Sz size b.2.1 := by
  obtain ⟨n, n6, rfl, rfl, hK⟩ := rdk h
  unfold P4_count P5_howMany
  by_cases x0 : x = 0
  · rw [if_pos x0, if_pos x0]
    exact ⟨_, _, rfl, rfl, rfl, Sz.r _⟩
  · rw [if_neg x0, if_neg x0]
    by_cases x1 : x = 1
    · obtain ⟨u, r, h1, h2, h3, h4⟩ := c_closed_loop n6 hK n 0 FU FU 0 size at_ (by omega) (by unfold FU; omega) (by unfold FU; omega)
      unfold P4_closedRoads P5_closedMany
      rw [if_pos x1, if_pos x1, show P4_closedRoads_4 (nI n) wn wv FU 0 0 = some u from h1, show P5_closedMany_4 (nI n) lengths signs FU size at_ 0 0 = some r from h2]
      exact ⟨_, _, rfl, rfl, h3, h4⟩
    · rw [if_neg x1, if_neg x1]
      by_cases x2 : x = 2
      · obtain ⟨u, r, h1, h2, h3, h4⟩ := c_new_loop n6 hK n 0 FU FU 0 size os at_ other (by omega) (by unfold FU; omega) (by unfold FU; omega)
        unfold P4_roadClasses P5_newMany
        rw [if_pos x2, if_pos x2, show P4_roadClasses_4 (nI n) wn wv FU 0 0 = some u from h1, show P5_newMany_4 (nI n) lengths signs FU size at_ os other 0 0 = some r from h2]
        exact ⟨_, _, rfl, rfl, h3, h4⟩
      · rw [if_neg x2, if_neg x2]
        by_cases x3 : x = 3
        · rw [if_pos x3, if_pos x3]
          exact ⟨_, _, rfl, rfl, rfl, Sz.r _⟩
        · rw [if_neg x3, if_neg x3]
          by_cases x4 : x = 4
          · rw [if_pos x4, if_pos x4]
            exact ⟨_, _, rfl, rfl, rfl, Sz.r _⟩
          · rw [if_neg x4, if_neg x4]
            by_cases x5 : x = 5
            · rw [if_pos x5, if_pos x5]
              exact ⟨_, _, rfl, rfl, rfl, Sz.r _⟩
            · rw [if_neg x5, if_neg x5]
              by_cases x6 : x = 6
              · rw [if_pos x6, if_pos x6]
                exact ⟨_, _, rfl, rfl, rfl, Sz.r _⟩
              · rw [if_neg x6, if_neg x6]
                exact ⟨_, _, rfl, rfl, rfl, Sz.r _⟩
end
/-- the numbers that both hold in common -/
theorem SIM_eq {v_psize v_good v_pbits v_letters v_afterLetter v_disc v_rsize v_cycleCount m_pageLength m_disc m_forms m_cycles : Int32} {v_codes m_page m_formA m_formB m_formC m_nextOf m_cycleOf m_firstOf : Nat → Int32} {v_fo v_cy : Nat → Nat → Int32} (h : SimPage v_psize v_good v_pbits v_letters v_afterLetter v_codes m_pageLength m_page) (h2 : SimRiver v_disc v_rsize v_cycleCount v_fo v_cy m_disc m_forms m_cycles m_formA m_formB m_formC m_nextOf m_cycleOf m_firstOf) : v_psize = m_pageLength ∧ v_rsize = m_forms ∧ v_cycleCount = m_cycles := by
  obtain ⟨pl, c, -, rfl, rfl, -⟩ := h
  rcases h2 with ⟨rfl, rfl, rfl, rfl, rfl⟩ | ⟨d, q, first, rfl, rfl, rfl, rfl, rfl, rfl, R⟩
  · exact ⟨rfl, rfl, rfl⟩
  · exact ⟨rfl, rfl, rfl⟩
theorem sim_count {v_roadCount v_readings v_psize v_good v_pbits v_letters v_afterLetter v_disc v_rsize v_cycleCount : Int32} {v_codes : Nat → Int32} {v_fo v_cy v_wv : Nat → Nat → Int32} {v_wn : Nat} {m_pageLength m_roads m_wordsRead m_disc m_forms m_cycles m_size m_otherSize : Int32} {m_page m_lengths m_signs m_formA m_formB m_formC m_nextOf m_cycleOf m_firstOf m_at m_other : Nat → Int32} (y0 : Int32) (h : SIM v_roadCount v_readings v_psize v_good v_pbits v_letters v_afterLetter v_codes v_disc v_rsize v_cycleCount v_fo v_cy v_wn v_wv m_pageLength m_page m_roads m_lengths m_signs m_wordsRead m_disc m_forms m_formA m_formB m_formC m_nextOf m_cycleOf m_cycles m_firstOf m_size) : ∃ (a : Int32) (b : Int32 × Int32 × (Nat → Int32) × Int32 × (Nat → Int32)), P4_count v_roadCount v_readings v_psize v_rsize v_cycleCount v_wn v_wv y0 = some a ∧ P5_count m_pageLength m_roads m_lengths m_signs m_wordsRead m_forms m_cycles m_size m_at m_otherSize m_other y0 = some b ∧ a = b.1 ∧ SIM v_roadCount v_readings v_psize v_good v_pbits v_letters v_afterLetter v_codes v_disc v_rsize v_cycleCount v_fo v_cy v_wn v_wv m_pageLength m_page m_roads m_lengths m_signs m_wordsRead m_disc m_forms m_formA m_formB m_formC m_nextOf m_cycleOf m_cycles m_firstOf b.2.1 := by
  obtain ⟨e1, e2, e3⟩ := SIM_eq h.1 h.2.2.1
  obtain ⟨a, b, h1, h2, h3, h4⟩ := c_howMany h.2.1 m_pageLength m_wordsRead m_forms m_cycles m_size m_otherSize m_at m_other y0
  refine ⟨a, (b.1, b.2.1, b.2.2.1, b.2.2.2.1, b.2.2.2.2), ?_, ?_, h3, h.1, h.2.1, h.2.2.1, h.2.2.2.1, h4.ok h.2.2.2.2⟩
  · rw [e1, e2, e3, h.2.2.2.1]
    exact h1
  · unfold P5_count
    rw [h2, ob]
