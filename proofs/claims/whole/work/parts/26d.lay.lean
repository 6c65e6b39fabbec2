-- lay, where, river; the beginning
section
variable {vd vr vc md mf mc : Int32} {fo cy : Nat → Nat → Int32} {fA fB fC nx c fs : Nat → Int32}
/-- the letters of a round -/
noncomputable def rw_ (d s : Nat) : Nat → Nat := fun t => if lfI d (it (nxI d) t s) = true then 0 else 1
theorem rw_lt (d s t : Nat) : rw_ d s t < 2 := by
  unfold rw_
  split <;> omega
theorem w_bits_loop {d q : Nat} {first : Nat → Nat} (R : RV d q first fo cy fA fB fC nx c fs) {s l : Nat} (hs : s < (FL d).length) (hl : l ≤ 320) : ∀ (j t f : Nat), t + j = l → j < f → P2_wordBits_20 (nI (FL d).length) fo (nI l) f (nI (it (nxI d) t s)) (nI (bv (rw_ d s) t)) (nI t) = some (nI (bv (rw_ d s) l))
  | 0, t, f, ht, hf => by
    obtain ⟨f, rfl⟩ : ∃ w, f = w + 1 := ⟨f - 1, by omega⟩
    rw [P2_wordBits_20, if_pos (nI_le (by omega) (by omega)), show t = l by omega]
  | j + 1, t, f, ht, hf => by
    obtain ⟨f, rfl⟩ : ∃ w, f = w + 1 := ⟨f - 1, by omega⟩
    have hi := it_lt (nx_perm R.1) hs t
    have hn := (FL_facts R.1).1
    have ih := w_bits_loop R hs hl j (t + 1) f (by omega) (by omega)
    have e5 : P2_ofForm (nI (FL d).length) fo (nI (it (nxI d) t s)) 5 = some (fo 5 (it (nxI d) t s)) := ofF (w := 5) hi hn (by omega)
    have e4 : P2_ofForm (nI (FL d).length) fo (nI (it (nxI d) t s)) 4 = some (fo 4 (it (nxI d) t s)) := ofF (w := 4) hi hn (by omega)
    rw [(R.2.2.2.2.1 _ hi).1] at e4
    rw [show bv (rw_ d s) (t + 1) = 2 * bv (rw_ d s) t + rw_ d s t from rfl, Nat.mul_comm 2] at ih
    rcases m_letter R hi with ⟨g0, g1, g2⟩ | ⟨g0, g1, g2⟩
    · rw [show rw_ d s t = 0 by unfold rw_; rw [if_pos g0]] at ih
      rw [P2_wordBits_20, if_neg (nI_ge (show t < l by omega) (by omega)), e5, ob, g2, if_neg (by decide), e4, ob, show (0 : Int32) = nI 0 from rfl, n_app _ 0 (by omega), nI_1]
      exact ih
    · rw [show rw_ d s t = 1 by unfold rw_; rw [if_neg (by rw [g0]; decide)]] at ih
      rw [P2_wordBits_20, if_neg (nI_ge (show t < l by omega) (by omega)), e5, ob, g2, if_pos rfl, e4, ob, nI_1, show jshl (nI (bv (rw_ d s) t)) 1 ||| 1 = nI (bv (rw_ d s) t * 2 + 1) from n_app _ 1 (by omega)]
      exact ih
theorem m_lay45 {d q : Nat} {first : Nat → Nat} (R : RV d q first fo cy fA fB fC nx c fs) {e l : Nat} (he : e < q) (hl : l ≤ 20) : ∀ (j t g : Nat) (ns : Nat → Int32), t + j = l → j < g → AO ns t (rw_ d (first e)) → ∃ o, P5_lay_45 fA fB fC nx fs (nI e) (nI l) g ns (nI t) = some o ∧ AO o l (rw_ d (first e))
  | 0, t, g, ns, ht, hg, h => by
    obtain ⟨g, rfl⟩ : ∃ w, g = w + 1 := ⟨g - 1, by omega⟩
    rw [show t = l by omega] at h ⊢
    exact ⟨ns, by rw [P5_lay_45, if_pos (nI_le (Nat.le_refl l) (by omega))], h⟩
  | j + 1, t, g, ns, ht, hg, h => by
    obtain ⟨g, rfl⟩ : ∃ w, g = w + 1 := ⟨g - 1, by omega⟩
    obtain ⟨f1, f2, -⟩ := cyc_at R he
    have hi := it_lt (nx_perm R.1) f1 t
    have hv : vx (nI t) 20 := n_in (show t < 20 by omega) (by omega)
    have put : ∀ v, v = nI (rw_ d (first e) t) → AO (upd ns t v) (t + 1) (rw_ d (first e)) := fun v hv i hi => by
      by_cases w : i = t
      · rw [w, pk_us, hv]
      · rw [pk_un w]
        exact h i (by omega)
    rcases m_letter R hi with ⟨g0, g1, g2⟩ | ⟨g0, g1, g2⟩
    · obtain ⟨o, r1, r2⟩ := m_lay45 R he hl j (t + 1) g (upd ns t 0) (by omega) (by omega) (put 0 (by unfold rw_; rw [if_pos g0]; rfl))
      refine ⟨o, ?_, r2⟩
      rw [P5_lay_45, if_neg (nI_ge (show t < l by omega) (by omega)), m_formAt R he (by omega), ob, g1, ob, if_neg (show ¬ (1 : Int32) = 0 by decide), if_pos hv, n_cl (by omega), nI_1]
      exact r1
    · obtain ⟨o, r1, r2⟩ := m_lay45 R he hl j (t + 1) g (upd ns t 1) (by omega) (by omega) (put 1 (by unfold rw_; rw [if_neg (by rw [g0]; decide)]; rfl))
      refine ⟨o, ?_, r2⟩
      rw [P5_lay_45, if_neg (nI_ge (show t < l by omega) (by omega)), m_formAt R he (by omega), ob, g1, ob, if_pos rfl, if_pos hv, n_cl (by omega), nI_1]
      exact r1
theorem c_lay {rc roads nl : Int32} {wn : Nat} {wv : Nat → Nat → Int32} {lengths signs ns : Nat → Int32} (hW : SimRoads rc wn wv roads lengths signs) (h : SimRiver vd vr vc fo cy md mf mc fA fB fC nx c fs) (x : Int32) : ∃ a b, P4_lay rc vr vc fo cy wn wv x = some a ∧ P5_lay roads lengths signs mf fA fB fC nx c mc fs nl ns x = some b ∧ a.1 = b.1 ∧ SimRoads a.2.1 a.2.2.1 a.2.2.2 b.2.1 b.2.2.1 b.2.2.2.1 := by
  unfold P4_lay P5_lay
  rcases h with ⟨rfl, rfl, rfl, rfl, rfl⟩ | ⟨d, q, first, rfl, rfl, rfl, rfl, rfl, rfl, R⟩
  · rw [no_cycle, ob, if_pos rfl, no_isCycle, ob, if_pos rfl]
    exact ⟨_, _, rfl, rfl, rfl, hW⟩
  · rcases hy (RV_q R) R.2.1 x with ⟨e, he, rfl, a1, a2⟩ | ⟨a1, a2⟩
    · obtain ⟨f1, f2, l, hl, hln, c0, c1, z1, z2⟩ := cyc_at R he
      have hn := (FL_facts R.1).1
      have h10 := R.2.1
      have l1 := hl.1
      have k1 : P2_ofCycle (nI q) cy (nI e) 1 = some (nI l) := by rw [← c1]; exact ofC (w := 1) he h10 (by omega)
      have k0 : P2_ofCycle (nI q) cy (nI e) 0 = some (nI (first e)) := by rw [← c0]; exact ofC (w := 0) he h10 (by omega)
      have kb := w_bits_loop R f1 (l := l) (by omega) l 0 FU (by omega) (by unfold FU; omega)
      unfold P2_wordBits
      rw [a1, ob, if_neg (show ¬ (1 : Int32) = 0 by decide), a2, ob, if_neg (show ¬ (1 : Int32) = 0 by decide), z1, ob, k1, ob, k0, ob, show P2_wordBits_20 (nI (FL d).length) fo (nI l) FU (nI (first e)) 0 0 = _ from kb, ob, ob, ob]
      by_cases h20 : l ≤ 20
      · obtain ⟨o, r1, r2⟩ := m_lay45 R he h20 l 0 FU ns (by omega) (by unfold FU; omega) (fun i hi => by omega)
        rw [if_pos (show nI l ≤ (20 : Int32) from nI_le (b := 20) h20 (by omega))]
        rcases c_add hW (⟨l1, h20, fun i _ => rw_lt d (first e) i⟩ : LW l (rw_ d (first e))) r2 with ⟨q1, q2⟩ | ⟨q1, m, ls, ss, wn', wv', hm, q2, q3, q4⟩
        · rw [q2, if_pos q1]
          exact ⟨_, _, rfl, rfl, rfl, hW⟩
        · rw [q2, if_neg q1, show P5_lay_45 fA fB fC nx fs (nI e) (nI l) FU ns 0 = _ from r1, ob, ob, q3]
          exact ⟨_, _, rfl, rfl, rfl, q4⟩
      · rw [if_neg (show ¬ nI l ≤ (20 : Int32) from nI_ge (a := 20) (by omega) (by omega)), add_long (by omega) (by omega)]
        exact ⟨_, _, rfl, rfl, rfl, hW⟩
    · rw [a1, ob, if_pos rfl, a2, ob, if_pos rfl]
      exact ⟨_, _, rfl, rfl, rfl, hW⟩
theorem disc_at {d i : Nat} (hi : i < (FL d).length) : ((nI (fx d i).1 - 30) * (nI (fx d i).1 - 30)) - ((4 * nI (fx d i).2.1) * (-(nI (fx d i).2.2))) = nI d := by
  have hok := fx_ok hi
  generalize fx d i = x at *
  obtain ⟨k, a, e⟩ := x
  obtain ⟨h1, h2, h3, h4, h5⟩ := hok
  simp only at *
  have e1 : (nI k - 30) * (nI k - 30) - (4 * nI a) * (-(nI e)) = (nI k - 30) * (nI k - 30) + nI 4 * (nI a * nI e) := by
    rw [show nI 4 = (4 : Int32) from rfl]
    grind
  rw [e1, (sq_kb k (by omega)).1, pk_mul, pk_mul, nI_add, h4]
theorem c_where {rc roads size tA tB tC tD fa fb fc fg : Int32} {wn : Nat} {wv : Nat → Nat → Int32} {lengths signs at_ : Nat → Int32} (hW : SimRoads rc wn wv roads lengths signs) (h : SimRiver vd vr vc fo cy md mf mc fA fB fC nx c fs) (x : Int32) : ∃ a b, P4_where rc vr fo wn wv x = some a ∧ P5_where roads lengths signs md mf fA fB fC size at_ tA tB tC tD fa fb fc fg x = some b ∧ a = b.1 ∧ Sz size b.2.1 := by
  rcases rd hW x with ⟨k, N, L, k6, rfl, e4, e5, hL, hl, hs, w0, w1, w2, w3, w4, w5, w6⟩ | ⟨e4, e5⟩
  · obtain ⟨o, ho, hA⟩ := m_isClosed (at_ := at_) hL k6 hl hs
    unfold P4_where P5_where P2_exists P5_isRiver
    rw [e4, e5, ob, ob, if_neg (show ¬ (1 : Int32) = 0 by decide), ho, ob]
    simp only []
    rw [w0, w2, w_isClosed hL, ob]
    by_cases hc : clo N L = true
    · rw [if_pos hc, if_neg (show ¬ (1 : Int32) = 0 by decide), if_neg (show ¬ (1 : Int32) = 0 by decide)]
      rcases h with ⟨rfl, rfl, rfl, rfl, rfl⟩ | ⟨d, q, first, rfl, rfl, rfl, rfl, rfl, rfl, R⟩
      · rw [if_pos (show (0 : Int32) ≤ 0 by decide), ob, if_pos rfl, ob, if_pos rfl]
        exact ⟨_, _, rfl, rfl, rfl, Sz.n hL.2.1⟩
      · have hd5 := R.1.1
        have hd9 := R.1.2.1
        have hn := (FL_facts R.1).1
        obtain ⟨o2, ho2, -⟩ := m_layForm (at_ := o) hL hc k6 hl hs
        obtain ⟨r, r1, r2, r3⟩ := find_both R (frm N L 0) (frm N L 1) (frm N L 2)
        unfold P5_whereNow P5_discOf
        rw [if_neg (show ¬ nI (FL d).length ≤ 0 from nI_ge (a := 0) (FL_facts R.1).2.2 (by omega)), ob, if_neg (show ¬ (1 : Int32) = 0 by decide), if_neg (show ¬ nI d ≤ 0 from nI_ge (a := 0) (by omega) (by omega)), ob, if_neg (show ¬ (1 : Int32) = 0 by decide), w3, w4, w5, w6, w_form hL hc, ob, w_form hL hc, ob, w_form hL hc, ob, r1, ob, ho2, ob, ob]
        simp only []
        by_cases e : (frm N L 1 * frm N L 1) - ((4 * frm N L 0) * frm N L 2) = nI d
        · rw [if_pos e, r2]
          exact ⟨_, _, rfl, rfl, rfl, Sz.n hL.2.1⟩
        · rw [if_neg e]
          have hr : r = -2000000001 := by
            rcases r3 with ⟨i, hi, g1, g2, g3, -⟩ | ⟨-, g⟩
            · exfalso
              apply e
              obtain ⟨m1, m2, m3⟩ := FMt_at R.2.2.1 hi
              rw [← g1, ← g2, ← g3, m1, m2, m3]
              exact disc_at hi
            · exact g
          rw [hr]
          exact ⟨_, _, rfl, rfl, rfl, Sz.n hL.2.1⟩
    · rw [if_neg hc, if_pos rfl, if_pos rfl]
      exact ⟨_, _, rfl, rfl, rfl, Sz.n hL.2.1⟩
  · unfold P4_where P5_where
    rw [e4, e5, ob, ob, if_pos rfl]
    exact ⟨_, _, rfl, rfl, rfl, Sz.r _⟩
theorem w_sq_loop {d : Nat} (hd : d ≤ 900) : ∀ (j i f : Nat), i + j = 31 → j < f → (P4_isSquare_2 (nI d) f (nI i) = some 0 ∧ ∀ r, i ≤ r → r ≤ 30 → ¬ r * r = d) ∨ (P4_isSquare_2 (nI d) f (nI i) = some 1 ∧ ∃ r, r ≤ 30 ∧ r * r = d)
  | 0, i, f, hi, hf => by
    obtain ⟨f, rfl⟩ : ∃ w, f = w + 1 := ⟨f - 1, by omega⟩
    refine Or.inl ⟨?_, fun r h1 h2 => by omega⟩
    rw [P4_isSquare_2, if_pos (show (30 : Int32) < nI i from nI_lt (a := 30) (by omega) (by omega))]
  | j + 1, i, f, hi, hf => by
    obtain ⟨f, rfl⟩ : ∃ w, f = w + 1 := ⟨f - 1, by omega⟩
    have h2 : i * i ≤ 30 * 30 := Nat.mul_le_mul (by omega) (by omega)
    rw [P4_isSquare_2, if_neg (show ¬ (30 : Int32) < nI i from fun w => by have := (nI_ltI (a := 30) (by omega) (by omega)).mp w; omega), pk_mul, nI_1]
    by_cases e : i * i = d
    · rw [if_pos (by rw [e])]
      exact Or.inr ⟨rfl, i, by omega, e⟩
    · rw [if_neg (fun w => e ((nI_eq (by omega) (by omega)).mp w))]
      rcases w_sq_loop hd j (i + 1) f (by omega) (by omega) with ⟨g1, g2⟩ | g
      · refine Or.inl ⟨g1, fun r r1 r2 => ?_⟩
        by_cases w : r = i
        · rw [w]
          exact e
        · exact g2 r (by omega) r2
      · exact Or.inr g
theorem m_sq_loop {d : Nat} (hd : d ≤ 900) : ∀ (j i f : Nat), i + j = 30 → j < f → (∀ r, r < i → r * r < d) → ∃ s, P5_isSquare_2 (nI d) f (nI i) = some (nI s) ∧ s ≤ 30 ∧ d ≤ s * s ∧ ∀ r, r < s → r * r < d
  | 0, i, f, hi, hf, h => by
    obtain ⟨f, rfl⟩ : ∃ w, f = w + 1 := ⟨f - 1, by omega⟩
    obtain rfl : i = 30 := by omega
    refine ⟨30, ?_, by omega, by omega, h⟩
    rw [P5_isSquare_2, pk_mul, if_pos (nI_le (by omega) (by omega))]
  | j + 1, i, f, hi, hf, h => by
    obtain ⟨f, rfl⟩ : ∃ w, f = w + 1 := ⟨f - 1, by omega⟩
    have h2 : i * i ≤ 30 * 30 := Nat.mul_le_mul (by omega) (by omega)
    rw [P5_isSquare_2, pk_mul, nI_1]
    by_cases e : d ≤ i * i
    · rw [if_pos (nI_le e (by omega))]
      exact ⟨i, rfl, by omega, e, h⟩
    · rw [if_neg (nI_ge (by omega) (by omega))]
      refine m_sq_loop hd j (i + 1) f (by omega) (by omega) (fun r hr => ?_)
      by_cases w : r = i
      · rw [w]
        omega
      · exact h r (by omega)
theorem c_square {d : Nat} (hd : d ≤ 900) : (P4_isSquare (nI d) = some 0 ∧ P5_isSquare (nI d) = some 0 ∧ ∀ r, r ≤ 30 → ¬ r * r = d) ∨ (P4_isSquare (nI d) = some 1 ∧ P5_isSquare (nI d) = some 1) := by
  obtain ⟨s, s1, s2, s3, s4⟩ := m_sq_loop hd 30 0 FU (by omega) (by unfold FU; omega) (fun r hr => by omega)
  have h2 : s * s ≤ 30 * 30 := Nat.mul_le_mul s2 s2
  unfold P4_isSquare P5_isSquare
  rw [show P5_isSquare_2 (nI d) FU 0 = _ from s1, ob, pk_mul]
  rcases w_sq_loop hd 31 0 FU (by omega) (by unfold FU; omega) with ⟨g1, g2⟩ | ⟨g1, r, r1, r2⟩
  · rw [if_neg (fun w => g2 s (by omega) s2 ((nI_eq (by omega) (by omega)).mp w))]
    exact Or.inl ⟨g1, rfl, fun r hr => g2 r (by omega) hr⟩
  · have e : s * s = d := by
      rcases Nat.lt_trichotomy r s with w | w | w
      · have := s4 r w
        omega
      · rw [← w]
        exact r2
      · have : s * s < r * r := Nat.mul_lt_mul'' w w
        omega
    rw [if_pos (by rw [e])]
    exact Or.inr ⟨g1, rfl⟩
theorem c_river (h : SimRiver vd vr vc fo cy md mf mc fA fB fC nx c fs) (x : Int32) : ∃ a b, P4_river vd vr vc fo cy x = some a ∧ P5_river md mf fA fB fC nx c mc fs x = some b ∧ a.1 = b.1 ∧ SimRiver a.2.1 a.2.2.1 a.2.2.2.1 a.2.2.2.2.1 a.2.2.2.2.2 b.2.1 b.2.2.1 b.2.2.2.2.2.2.2.2.1 b.2.2.2.1 b.2.2.2.2.1 b.2.2.2.2.2.1 b.2.2.2.2.2.2.1 b.2.2.2.2.2.2.2.1 b.2.2.2.2.2.2.2.2.2 := by
  unfold P4_river P5_river
  rw [m_within, ob]
  by_cases c1 : x < 5
  · rw [if_pos c1, if_neg (show ¬ (5 ≤ x ∧ x ≤ 900) from fun q => absurd c1 (Int32.not_lt.mpr q.1)), if_pos rfl]
    exact ⟨_, _, rfl, rfl, rfl, h⟩
  · by_cases c2 : 900 < x
    · rw [if_neg c1, if_pos c2, if_neg (show ¬ (5 ≤ x ∧ x ≤ 900) from fun q => absurd c2 (Int32.not_lt.mpr q.2)), if_pos rfl]
      exact ⟨_, _, rfl, rfl, rfl, h⟩
    · rw [if_neg c1, if_neg c2, if_pos (show 5 ≤ x ∧ x ≤ 900 from ⟨Int32.not_lt.mp c1, Int32.not_lt.mp c2⟩), if_neg (show ¬ (1 : Int32) = 0 by decide)]
      obtain ⟨d, hd, rfl⟩ := nn (x := x) (fun q => c1 (by
        have q1 := Int32.lt_iff_toInt_lt.mp q
        rw [show (0 : Int32).toInt = 0 from rfl] at q1
        exact Int32.lt_iff_toInt_lt.mpr (by rw [show (5 : Int32).toInt = 5 from rfl]; omega)))
      have d5 : 5 ≤ d := (nI_leI (a := 5) (by omega) hd).mp (Int32.not_lt.mp c1)
      have d9 : d ≤ 900 := (nI_leI (b := 900) hd (by omega)).mp (Int32.not_lt.mp c2)
      rw [show jrem (nI d) 4 = nI (d % 4) from n_rem (d := 4) hd (by omega) (by omega)]
      by_cases c3 : 1 < d % 4
      · rw [if_pos (show (1 : Int32) < nI (d % 4) from nI_lt (a := 1) c3 (by omega)), if_pos (show (1 : Int32) < nI (d % 4) from nI_lt (a := 1) c3 (by omega))]
        exact ⟨_, _, rfl, rfl, rfl, h⟩
      · have c4 : ¬ (1 : Int32) < nI (d % 4) := fun w => c3 ((nI_ltI (a := 1) (by omega) (by omega)).mp w)
        rw [if_neg c4, if_neg c4]
        rcases c_square d9 with ⟨g1, g2, g3⟩ | ⟨g1, g2⟩
        · obtain ⟨q, first, fo', cy', gA, gB, gC, nx', c', fs', r1, r2, r3, R⟩ := river_both (⟨d5, d9, by omega, g3⟩ : VD d) fo cy fA fB fC nx c fs
          rw [g1, ob, if_pos rfl, g2, ob, if_pos rfl, r1, ob, r2, ob]
          simp only []
          rw [r3, ob]
          exact ⟨_, _, rfl, rfl, rfl, Or.inr ⟨d, q, first, rfl, rfl, rfl, rfl, rfl, rfl, R⟩⟩
        · rw [g1, ob, if_neg (show ¬ (1 : Int32) = 0 by decide), g2, ob, if_neg (show ¬ (1 : Int32) = 0 by decide)]
          exact ⟨_, _, rfl, rfl, rfl, h⟩
end
theorem sim_lay {v_roadCount v_readings v_psize v_good v_pbits v_letters v_afterLetter v_disc v_rsize v_cycleCount : Int32} {v_codes : Nat → Int32} {v_fo v_cy v_wv : Nat → Nat → Int32} {v_wn : Nat} {m_pageLength m_roads m_wordsRead m_disc m_forms m_cycles m_newLength m_size : Int32} {m_page m_lengths m_signs m_formA m_formB m_formC m_nextOf m_cycleOf m_firstOf m_newSigns : Nat → Int32} (y0 : Int32) (h : SIM v_roadCount v_readings v_psize v_good v_pbits v_letters v_afterLetter v_codes v_disc v_rsize v_cycleCount v_fo v_cy v_wn v_wv m_pageLength m_page m_roads m_lengths m_signs m_wordsRead m_disc m_forms m_formA m_formB m_formC m_nextOf m_cycleOf m_cycles m_firstOf m_size) : ∃ (a : Int32 × Int32 × Nat × (Nat → Nat → Int32)) (b : Int32 × Int32 × (Nat → Int32) × (Nat → Int32) × Int32 × (Nat → Int32)), P4_lay v_roadCount v_rsize v_cycleCount v_fo v_cy v_wn v_wv y0 = some a ∧ P5_lay m_roads m_lengths m_signs m_forms m_formA m_formB m_formC m_nextOf m_cycleOf m_cycles m_firstOf m_newLength m_newSigns y0 = some b ∧ a.1 = b.1 ∧ SIM a.2.1 v_readings v_psize v_good v_pbits v_letters v_afterLetter v_codes v_disc v_rsize v_cycleCount v_fo v_cy a.2.2.1 a.2.2.2 m_pageLength m_page b.2.1 b.2.2.1 b.2.2.2.1 m_wordsRead m_disc m_forms m_formA m_formB m_formC m_nextOf m_cycleOf m_cycles m_firstOf m_size := by
  obtain ⟨a, b, h1, h2, h3, h4⟩ := c_lay (nl := m_newLength) (ns := m_newSigns) h.2.1 h.2.2.1 y0
  exact ⟨a, b, h1, h2, h3, h.1, h4, h.2.2.1, h.2.2.2.1, h.2.2.2.2⟩
theorem sim_where {v_roadCount v_readings v_psize v_good v_pbits v_letters v_afterLetter v_disc v_rsize v_cycleCount : Int32} {v_codes : Nat → Int32} {v_fo v_cy v_wv : Nat → Nat → Int32} {v_wn : Nat} {m_pageLength m_roads m_wordsRead m_disc m_forms m_cycles m_size m_tableA m_tableB m_tableC m_tableD m_a m_b m_c m_grade : Int32} {m_page m_lengths m_signs m_formA m_formB m_formC m_nextOf m_cycleOf m_firstOf m_at : Nat → Int32} (y0 : Int32) (h : SIM v_roadCount v_readings v_psize v_good v_pbits v_letters v_afterLetter v_codes v_disc v_rsize v_cycleCount v_fo v_cy v_wn v_wv m_pageLength m_page m_roads m_lengths m_signs m_wordsRead m_disc m_forms m_formA m_formB m_formC m_nextOf m_cycleOf m_cycles m_firstOf m_size) : ∃ (a : Int32) (b : Int32 × Int32 × (Nat → Int32) × Int32 × Int32 × Int32 × Int32 × Int32 × Int32 × Int32 × Int32), P4_where v_roadCount v_rsize v_fo v_wn v_wv y0 = some a ∧ P5_where m_roads m_lengths m_signs m_disc m_forms m_formA m_formB m_formC m_size m_at m_tableA m_tableB m_tableC m_tableD m_a m_b m_c m_grade y0 = some b ∧ a = b.1 ∧ SIM v_roadCount v_readings v_psize v_good v_pbits v_letters v_afterLetter v_codes v_disc v_rsize v_cycleCount v_fo v_cy v_wn v_wv m_pageLength m_page m_roads m_lengths m_signs m_wordsRead m_disc m_forms m_formA m_formB m_formC m_nextOf m_cycleOf m_cycles m_firstOf b.2.1 := by
  obtain ⟨a, b, h1, h2, h3, h4⟩ := c_where (size := m_size) (tA := m_tableA) (tB := m_tableB) (tC := m_tableC) (tD := m_tableD) (fa := m_a) (fb := m_b) (fc := m_c) (fg := m_grade) (at_ := m_at) h.2.1 h.2.2.1 y0
  exact ⟨a, b, h1, h2, h3, h.1, h.2.1, h.2.2.1, h.2.2.2.1, h4.ok h.2.2.2.2⟩
theorem sim_river {v_roadCount v_readings v_psize v_good v_pbits v_letters v_afterLetter v_disc v_rsize v_cycleCount : Int32} {v_codes : Nat → Int32} {v_fo v_cy v_wv : Nat → Nat → Int32} {v_wn : Nat} {m_pageLength m_roads m_wordsRead m_disc m_forms m_cycles m_size : Int32} {m_page m_lengths m_signs m_formA m_formB m_formC m_nextOf m_cycleOf m_firstOf : Nat → Int32} (y0 : Int32) (h : SIM v_roadCount v_readings v_psize v_good v_pbits v_letters v_afterLetter v_codes v_disc v_rsize v_cycleCount v_fo v_cy v_wn v_wv m_pageLength m_page m_roads m_lengths m_signs m_wordsRead m_disc m_forms m_formA m_formB m_formC m_nextOf m_cycleOf m_cycles m_firstOf m_size) : ∃ (a : Int32 × Int32 × Int32 × Int32 × (Nat → Nat → Int32) × (Nat → Nat → Int32)) (b : Int32 × Int32 × Int32 × (Nat → Int32) × (Nat → Int32) × (Nat → Int32) × (Nat → Int32) × (Nat → Int32) × Int32 × (Nat → Int32)), P4_river v_disc v_rsize v_cycleCount v_fo v_cy y0 = some a ∧ P5_river m_disc m_forms m_formA m_formB m_formC m_nextOf m_cycleOf m_cycles m_firstOf y0 = some b ∧ a.1 = b.1 ∧ SIM v_roadCount v_readings v_psize v_good v_pbits v_letters v_afterLetter v_codes a.2.1 a.2.2.1 a.2.2.2.1 a.2.2.2.2.1 a.2.2.2.2.2 v_wn v_wv m_pageLength m_page m_roads m_lengths m_signs m_wordsRead b.2.1 b.2.2.1 b.2.2.2.1 b.2.2.2.2.1 b.2.2.2.2.2.1 b.2.2.2.2.2.2.1 b.2.2.2.2.2.2.2.1 b.2.2.2.2.2.2.2.2.1 b.2.2.2.2.2.2.2.2.2 m_size := by
  obtain ⟨a, b, h1, h2, h3, h4⟩ := c_river h.2.2.1 y0
  exact ⟨a, b, h1, h2, h3, h.1, h.2.1, h4, h.2.2.2.1, h.2.2.2.2⟩
theorem sim_init : SIM 0 0 0 0 0 0 0 (fun _ => 0) 0 0 0 (fun _ _ => 0) (fun _ _ => 0) 0 (fun _ _ => 0) 0 (fun _ => 0) 0 (fun _ => 0) (fun _ => 0) 0 0 0 (fun _ => 0) (fun _ => 0) (fun _ => 0) (fun _ => 0) (fun _ => 0) 0 (fun _ => 0) 0 := by
  exact ⟨⟨0, fun _ => 0, by omega, rfl, rfl, fun i hi => by omega, rfl, rfl, rfl, rfl⟩, ⟨0, by omega, by omega, rfl, rfl, fun k hk => by omega⟩, Or.inl ⟨rfl, rfl, rfl, rfl, rfl⟩, rfl, 0, by omega, rfl⟩
