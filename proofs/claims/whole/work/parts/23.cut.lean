-- THE CUTTING OF A FRACTION
def ext (C : Nat → Nat) (s l : Nat) : Nat → Nat := fun i => if i = s then l else C i
theorem bv_ext (C : Nat → Nat) (s l : Nat) : bv (ext C s l) (s + 1) = bv C s * 2 + l := by
  rw [bv, bv_congr (A := ext C s l) (B := C) (fun i hi => by unfold ext; rw [if_neg (by omega)])]
  unfold ext
  rw [if_pos rfl]
  omega
theorem ext_lt {C : Nat → Nat} {s l : Nat} (hl : l < 2) (h : ∀ i, i < s → C i < 2) : ∀ i, i < s + 1 → ext C s l i < 2 := fun i hi => by
  unfold ext
  by_cases q : i = s
  · rw [if_pos q]
    exact hl
  · rw [if_neg q]
    exact h i (by omega)
theorem ext_AO {C : Nat → Nat} {s l : Nat} {ns : Nat → Int32} (hs : s < 20) (h : AO ns s C) : AO (upd ns s (nI l)) (s + 1) (ext C s l) := fun i hi => by
  unfold ext
  by_cases q : i = s
  · rw [if_pos q, q, pk_us]
  · rw [if_neg q, pk_un q]
    exact h i (by omega)
theorem AO_ext {C : Nat → Nat} {s l : Nat} {ns : Nat → Int32} (hs : 20 ≤ s) (h : AO ns 20 C) : AO ns 20 (ext C s l) := fun i hi => by
  unfold ext
  rw [if_neg (by omega)]
  exact h i hi
theorem n_app (x l : Nat) (hl : l < 2) : jshl (nI x) 1 ||| nI l = nI (x * 2 + l) := by
  have := n_cat (x := x) (M := 1) (T := fun _ => l) (by omega) (fun _ _ => hl)
  rw [show bv (fun _ => l) 1 = l by simp [bv]] at this
  exact this
theorem n_app0 (x : Nat) : jshl (nI x) 1 = nI (x * 2 + 0) := n_shl x (k := 1) (by omega)
theorem c_cut_loop : ∀ (m p q s n1 n2 : Nat) (C : Nat → Nat) (ns : Nat → Int32), 1 ≤ p → 1 ≤ q → p ≤ m → q ≤ m → m + s ≤ 99 → m < n1 → m < n2 → AO ns (min s 20) C → (∀ i, i < s → C i < 2) → ∃ S C' o, P4_cut_50 n1 (nI (bv C s)) (nI s) (nI p) (nI q) = some (nI (bv C' S), nI S) ∧ P5_layCut_13 n2 (nI (min s 20)) ns (nI p) (nI q) (nI s) = some (nI (min S 20), o, nI S) ∧ AO o (min S 20) C' ∧ (∀ i, i < S → C' i < 2) ∧ s ≤ S ∧ S ≤ 99 ∧ (¬ p = q → s < S)
  | 0, p, q, s, n1, n2, C, ns, hp, hq, hpm, hqm, hm, hn1, hn2, hA, hC => by omega
  | m + 1, p, q, s, n1, n2, C, ns, hp, hq, hpm, hqm, hm, hn1, hn2, hA, hC => by
    obtain ⟨n1, rfl⟩ : ∃ z, n1 = z + 1 := ⟨n1 - 1, by omega⟩
    obtain ⟨n2, rfl⟩ : ∃ z, n2 = z + 1 := ⟨n2 - 1, by omega⟩
    by_cases he : p = q
    · refine ⟨s, C, ns, ?_, ?_, hA, hC, Nat.le_refl s, by omega, fun h => absurd he h⟩
      · rw [P4_cut_50, if_pos (by rw [he])]
      · rw [P5_layCut_13, if_pos (by rw [he])]
    · have hne : ¬ nI p = nI q := fun h => he ((nI_eq (by omega) (by omega)).mp h)
      have step : ∀ l, l < 2 → ∀ p' q', 1 ≤ p' → 1 ≤ q' → p' ≤ m → q' ≤ m → ∀ ns' : Nat → Int32, ns' = (if 20 ≤ s then ns else upd ns s (nI l)) → ∃ S C' o, P4_cut_50 n1 (nI (bv C s * 2 + l)) (nI (s + 1)) (nI p') (nI q') = some (nI (bv C' S), nI S) ∧ P5_layCut_13 n2 (nI (min (s + 1) 20)) ns' (nI p') (nI q') (nI (s + 1)) = some (nI (min S 20), o, nI S) ∧ AO o (min S 20) C' ∧ (∀ i, i < S → C' i < 2) ∧ s ≤ S ∧ S ≤ 99 ∧ (¬ p = q → s < S) := by
        intro l hl p' q' a1 a2 a3 a4 ns' hns
        have hA' : AO ns' (min (s + 1) 20) (ext C s l) := by
          by_cases h20 : 20 ≤ s
          · rw [if_pos h20] at hns
            rw [hns, show min (s + 1) 20 = 20 by omega]
            rw [show min s 20 = 20 by omega] at hA
            exact AO_ext h20 hA
          · rw [if_neg h20] at hns
            rw [hns, show min (s + 1) 20 = s + 1 by omega]
            rw [show min s 20 = s by omega] at hA
            exact ext_AO (by omega) hA
        obtain ⟨S, C', o, b1, b2, b3, b4, b5, b6, -⟩ := c_cut_loop m p' q' (s + 1) n1 n2 (ext C s l) ns' a1 a2 a3 a4 (by omega) (by omega) (by omega) hA' (ext_lt hl hC)
        rw [bv_ext] at b1
        exact ⟨S, C', o, b1, b2, b3, b4, by omega, b6, fun _ => by omega⟩
      rw [P4_cut_50, if_neg hne, if_neg (show ¬ (99 : Int32) ≤ nI s from nI_ge (b := 99) (by omega) (by omega)), P5_layCut_13, if_neg hne]
      by_cases hle : p ≤ q
      · have := step 0 (by omega) p (q - p) hp (by omega) (by omega) (by omega) _ rfl
        rw [if_pos (nI_le hle (by omega)), if_pos (nI_le hle (by omega)), n_app0, nI_1, show nI p - 0 = nI p from n_sub (b := 0) (by omega), n_sub hle]
        by_cases h20 : 20 ≤ s
        · rw [if_pos (show (20 : Int32) ≤ nI s from nI_le (a := 20) h20 (by omega))]
          rw [if_pos h20] at this
          rw [show min s 20 = min (s + 1) 20 by omega]
          exact this
        · rw [if_neg (show ¬ (20 : Int32) ≤ nI s from nI_ge (b := 20) (by omega) (by omega)), if_pos (n_in (by omega) (by omega)), n_cl (by omega), nI_1]
          rw [if_neg h20] at this
          rw [show min s 20 + 1 = min (s + 1) 20 by omega]
          exact this
      · have := step 1 (by omega) (p - q) q (by omega) hq (by omega) (by omega) _ rfl
        rw [if_neg (nI_ge (by omega) (by omega)), if_neg (nI_ge (by omega) (by omega)), show (1 : Int32) = nI 1 from rfl, show jshl (nI (bv C s)) (nI 1) ||| nI 1 = nI (bv C s * 2 + 1) from n_app _ 1 (by omega), nI_add, show nI q - 0 = nI q from n_sub (b := 0) (by omega), n_sub (by omega)]
        by_cases h20 : 20 ≤ s
        · rw [if_pos (show (20 : Int32) ≤ nI s from nI_le (a := 20) h20 (by omega))]
          rw [if_pos h20] at this
          rw [show min s 20 = min (s + 1) 20 by omega]
          exact this
        · rw [if_neg (show ¬ (20 : Int32) ≤ nI s from nI_ge (b := 20) (by omega) (by omega)), if_pos (n_in (by omega) (by omega)), n_cl (by omega), nI_add]
          rw [if_neg h20] at this
          rw [show min s 20 + 1 = min (s + 1) 20 by omega]
          exact this
theorem in_1_99 {x : Int32} (h1 : ¬ x < 1) (h2 : ¬ 99 < x) : ∃ k, 1 ≤ k ∧ k ≤ 99 ∧ x = nI k := by
  obtain ⟨k, hk, rfl⟩ := nn (x := x) (fun q => h1 (by
    have q1 := Int32.lt_iff_toInt_lt.mp q
    rw [show (0 : Int32).toInt = 0 from rfl] at q1
    exact Int32.lt_iff_toInt_lt.mpr (by rw [show (1 : Int32).toInt = 1 from rfl]; omega)))
  exact ⟨k, (nI_leI (a := 1) (by omega) hk).mp (Int32.not_lt.mp h1), (nI_leI (b := 99) hk (by omega)).mp (Int32.not_lt.mp h2), rfl⟩
section
variable {rc roads size otherSize tA tB tC tD nl : Int32} {wn : Nat} {wv : Nat → Nat → Int32} {lengths signs at_ other ns : Nat → Int32}
theorem c_cut (h : SimRoads rc wn wv roads lengths signs) (x y : Int32) : ∃ a b, P4_cut rc wn wv x y = some a ∧ P5_cut roads lengths signs nl ns x y = some b ∧ a.1 = b.1 ∧ SimRoads a.2.1 a.2.2.1 a.2.2.2 b.2.1 b.2.2.1 b.2.2.2.1 := by
  unfold P4_cut P5_cut
  rw [m_within, ob]
  by_cases c1 : x < 1
  · rw [if_pos c1, if_neg (show ¬ (1 ≤ x ∧ x ≤ 99) from fun q => absurd c1 (Int32.not_lt.mpr q.1)), if_pos rfl]
    exact ⟨_, _, rfl, rfl, rfl, h⟩
  · by_cases c2 : 99 < x
    · rw [if_neg c1, if_pos c2, if_neg (show ¬ (1 ≤ x ∧ x ≤ 99) from fun q => absurd c2 (Int32.not_lt.mpr q.2)), if_pos rfl]
      exact ⟨_, _, rfl, rfl, rfl, h⟩
    · rw [if_neg c1, if_neg c2, if_pos (show 1 ≤ x ∧ x ≤ 99 from ⟨Int32.not_lt.mp c1, Int32.not_lt.mp c2⟩), if_neg (show ¬ (1 : Int32) = 0 by decide), m_within, ob]
      by_cases d1 : y < 1
      · rw [if_pos d1, if_neg (show ¬ (1 ≤ y ∧ y ≤ 99) from fun q => absurd d1 (Int32.not_lt.mpr q.1)), if_pos rfl]
        exact ⟨_, _, rfl, rfl, rfl, h⟩
      · by_cases d2 : 99 < y
        · rw [if_neg d1, if_pos d2, if_neg (show ¬ (1 ≤ y ∧ y ≤ 99) from fun q => absurd d2 (Int32.not_lt.mpr q.2)), if_pos rfl]
          exact ⟨_, _, rfl, rfl, rfl, h⟩
        · rw [if_neg d1, if_neg d2, if_pos (show 1 ≤ y ∧ y ≤ 99 from ⟨Int32.not_lt.mp d1, Int32.not_lt.mp d2⟩), if_neg (show ¬ (1 : Int32) = 0 by decide)]
          obtain ⟨p, p1, p2, rfl⟩ := in_1_99 c1 c2
          obtain ⟨q, q1, q2, rfl⟩ := in_1_99 d1 d2
          have g1 := Nat.gcd_le_left q (show 0 < p by omega)
          have g2 := Nat.gcd_pos_of_pos_left q (show 0 < p by omega)
          rw [m_common (ok_nI (by omega)) (ok_nI (by omega)), ob, na_nI (by omega), na_nI (by omega)]
          by_cases he : p = q
          · rw [if_pos (show nI p = nI q by rw [he])]
            by_cases hg : 1 < Nat.gcd p q
            · rw [if_pos (show (1 : Int32) < nI (Nat.gcd p q) from nI_lt (a := 1) hg (by omega))]
              exact ⟨_, _, rfl, rfl, rfl, h⟩
            · rw [if_neg (show ¬ (1 : Int32) < nI (Nat.gcd p q) from fun w => hg ((nI_ltI (a := 1) (by omega) (by omega)).mp w)), if_pos (show nI p = nI q by rw [he])]
              exact ⟨_, _, rfl, rfl, rfl, h⟩
          · rw [if_neg (show ¬ nI p = nI q from fun w => he ((nI_eq (by omega) (by omega)).mp w)), w_common (ok_nI (by omega)) (ok_nI (by omega)), ob, na_nI (by omega), na_nI (by omega), show max 1 (Nat.gcd p q) = Nat.gcd p q by omega]
            by_cases hg : 1 < Nat.gcd p q
            · rw [if_neg (show ¬ nI (Nat.gcd p q) ≤ (1 : Int32) from nI_ge (a := 1) hg (by omega)), if_pos (show (1 : Int32) < nI (Nat.gcd p q) from nI_lt (a := 1) hg (by omega))]
              exact ⟨_, _, rfl, rfl, rfl, h⟩
            · rw [if_pos (show nI (Nat.gcd p q) ≤ (1 : Int32) from nI_le (b := 1) (by omega) (by omega)), if_neg (show ¬ (1 : Int32) < nI (Nat.gcd p q) from fun w => hg ((nI_ltI (a := 1) (by omega) (by omega)).mp w)), if_neg (show ¬ nI p = nI q from fun w => he ((nI_eq (by omega) (by omega)).mp w))]
              obtain ⟨S, C, o, b1, b2, b3, b4, b5, b6, b7⟩ := c_cut_loop 99 p q 0 FU FU (fun _ => 0) ns p1 q1 p2 q2 (by omega) (by unfold FU; omega) (by unfold FU; omega) (fun i hi => by omega) (fun i hi => by omega)
              have b7 := b7 he
              rw [show P4_cut_50 FU 0 0 (nI p) (nI q) = _ from b1, ob]
              unfold P5_layCut
              rw [show P5_layCut_13 FU 0 ns (nI p) (nI q) 0 = _ from b2]
              by_cases h20 : S ≤ 20
              · rw [show min S 20 = S by omega] at b3
                rcases c_add h ⟨b7, h20, b4⟩ b3 with ⟨r1, r2⟩ | ⟨r1, n, ls, ss, wn', wv', hn, r2, r3, r4⟩
                · simp only [ob]
                  rw [r2, if_pos (show nI S ≤ (20 : Int32) from nI_le (b := 20) (by omega) (by omega)), if_pos r1]
                  exact ⟨_, _, rfl, rfl, rfl, h⟩
                · simp only [ob]
                  rw [r2, if_pos (show nI S ≤ (20 : Int32) from nI_le (b := 20) (by omega) (by omega)), if_neg r1, show min S 20 = S by omega, r3]
                  exact ⟨_, _, rfl, rfl, rfl, r4⟩
              · simp only [ob]
                rw [add_long (by omega) (by omega), if_neg (show ¬ nI S ≤ (20 : Int32) from nI_ge (a := 20) (by omega) (by omega))]
                exact ⟨_, _, rfl, rfl, rfl, h⟩
end
theorem sim_cut {v_roadCount v_readings v_psize v_good v_pbits v_letters v_afterLetter v_disc v_rsize v_cycleCount : Int32} {v_codes : Nat → Int32} {v_fo v_cy v_wv : Nat → Nat → Int32} {v_wn : Nat} {m_pageLength m_roads m_wordsRead m_disc m_forms m_cycles m_newLength m_size : Int32} {m_page m_lengths m_signs m_formA m_formB m_formC m_nextOf m_cycleOf m_firstOf m_newSigns : Nat → Int32} (y0 : Int32) (y1 : Int32) (h : SIM v_roadCount v_readings v_psize v_good v_pbits v_letters v_afterLetter v_codes v_disc v_rsize v_cycleCount v_fo v_cy v_wn v_wv m_pageLength m_page m_roads m_lengths m_signs m_wordsRead m_disc m_forms m_formA m_formB m_formC m_nextOf m_cycleOf m_cycles m_firstOf m_size) : ∃ (a : Int32 × Int32 × Nat × (Nat → Nat → Int32)) (b : Int32 × Int32 × (Nat → Int32) × (Nat → Int32) × Int32 × (Nat → Int32)), P4_cut v_roadCount v_wn v_wv y0 y1 = some a ∧ P5_cut m_roads m_lengths m_signs m_newLength m_newSigns y0 y1 = some b ∧ a.1 = b.1 ∧ SIM a.2.1 v_readings v_psize v_good v_pbits v_letters v_afterLetter v_codes v_disc v_rsize v_cycleCount v_fo v_cy a.2.2.1 a.2.2.2 m_pageLength m_page b.2.1 b.2.2.1 b.2.2.2.1 m_wordsRead m_disc m_forms m_formA m_formB m_formC m_nextOf m_cycleOf m_cycles m_firstOf m_size := by
  obtain ⟨a, b, h1, h2, h3, h4⟩ := c_cut (nl := m_newLength) (ns := m_newSigns) h.2.1 y0 y1
  exact ⟨a, b, h1, h2, h3, h.1, h4, h.2.2.1, h.2.2.2.1, h.2.2.2.2⟩
