-- THE PAGE
/-- what a state of the reading keeps -/
def PgI (s : Nat × (Nat → Nat) × Bool) : Prop := s.1 ≤ 20 ∧ (∀ i, i < s.1 → s.2.1 i < 2) ∧ (s.2.2 = true → 1 ≤ s.1)
def runL (n : Nat) (L : Nat → Nat) : Nat → Nat := fun i => if i < n then L i else L (n - 1)
theorem nstep_PgI {s t : Nat × (Nat → Nat) × Bool} {x : Nat} (h : PgI s) (e : nstep s x = some t) : PgI t ∧ s.1 < t.1 := by
  obtain ⟨h1, h2, h3⟩ := h
  unfold nstep at e
  by_cases c : x = 76 ∨ x = 82
  · rw [if_pos c] at e
    by_cases d : s.1 = 20
    · rw [if_pos d] at e
      cases e
    · rw [if_neg d] at e
      cases e
      refine ⟨⟨by simp only; omega, fun i hi => ?_, fun _ => by simp only; omega⟩, by simp only; omega⟩
      simp only
      by_cases q : i = s.1
      · rw [if_pos q]
        split <;> omega
      · rw [if_neg q]
        simp only at hi
        exact h2 i (by omega)
  · rw [if_neg c] at e
    by_cases d : s.2.2 = true ∧ 50 ≤ x ∧ x ≤ 57 ∧ s.1 + (x - 49) ≤ 20
    · rw [if_pos d] at e
      have h4 := h3 d.1
      cases e
      refine ⟨⟨d.2.2.2, fun i hi => ?_, fun q => by cases q⟩, by simp only; omega⟩
      simp only
      by_cases q : i < s.1
      · rw [if_pos q]
        exact h2 i q
      · rw [if_neg q]
        exact h2 _ (by omega)
    · rw [if_neg d] at e
      cases e
theorem pst_PgI (c : Nat → Nat) : ∀ j : Nat, PgI (pst c j).2 ∧ (pst c j).1 ≤ j ∧ (pst c j).1 ≤ (pst c j).2.1 ∧ (1 ≤ (pst c j).2.1 → 1 ≤ (pst c j).1)
  | 0 => by
    rw [pst]
    exact ⟨⟨by simp, fun i hi => by simp only at hi; omega, fun q => by cases q⟩, by simp, by simp, by simp⟩
  | j + 1 => by
    obtain ⟨h1, h2, h3, h4⟩ := pst_PgI c j
    rw [pst]
    by_cases q : (pst c j).1 = j
    · rw [if_pos q]
      cases e : nstep (pst c j).2 (c j) with
      | none => exact ⟨h1, Nat.le_succ_of_le h2, h3, h4⟩
      | some t =>
        obtain ⟨g1, g2⟩ := nstep_PgI h1 e
        refine ⟨g1, by simp, ?_, fun _ => by simp⟩
        show j + 1 ≤ t.1
        omega
    · rw [if_neg q]
      exact ⟨h1, by omega, h3, h4⟩
theorem pst_stop (c : Nat → Nat) {j : Nat} (h : (pst c j).1 < j) : ∀ r : Nat, pst c (j + r) = pst c j
  | 0 => rfl
  | r + 1 => by
    rw [← Nat.add_assoc, pst, pst_stop c h r, if_neg (by omega)]
theorem n_dec {x : Nat} (h : x < 127) : (nI x - 49).toInt = (x : Int) - 49 := pk_sub_toInt (b := 49) (by omega) (by omega)
theorem w_digit {x : Nat} (h : x < 127) : (1 ≤ nI x - 49 ∧ nI x - 49 ≤ 8) ↔ (50 ≤ x ∧ x ≤ 57) := by
  rw [Int32.le_iff_toInt_le, Int32.le_iff_toInt_le, n_dec h, show (1 : Int32).toInt = 1 from rfl, show (8 : Int32).toInt = 8 from rfl]
  omega
theorem m_run_loop {n m : Nat} {L : Nat → Nat} (h1 : 1 ≤ n) (hm : n + m ≤ 20) : ∀ (j i k : Nat) (o : Nat → Int32), i + j = m → j < k → AO o (n + i) (runL n L) → ∃ o', P5_takes_97 (nI m) k (nI (n + i)) o (nI i) = some (nI (n + m), o') ∧ AO o' (n + m) (runL n L)
  | 0, i, k, o, hi, hk, h => by
    obtain ⟨k, rfl⟩ : ∃ z, k = z + 1 := ⟨k - 1, by omega⟩
    rw [show i = m by omega] at h ⊢
    exact ⟨o, by rw [P5_takes_97, if_pos (nI_le (by omega) (by omega))], h⟩
  | j + 1, i, k, o, hi, hk, h => by
    obtain ⟨k, rfl⟩ : ∃ z, k = z + 1 := ⟨k - 1, by omega⟩
    have e : nI (n + i) - 1 = nI (n + i - 1) := n_sub (b := 1) (by omega)
    rw [P5_takes_97, if_neg (nI_ge (by omega) (by omega)), e, if_pos (n_in (by omega) (by omega)), if_pos (n_in (by omega) (by omega)), n_cl (by omega), n_cl (by omega), nI_1, nI_1, h (n + i - 1) (by omega)]
    refine m_run_loop h1 hm j (i + 1) k _ (by omega) (by omega) (fun z hz => ?_)
    by_cases q : z = n + i
    · subst q
      rw [pk_us]
      unfold runL
      by_cases q0 : i = 0
      · rw [if_pos (by omega), if_neg (by omega), q0]
        rfl
      · rw [if_neg (by omega), if_neg (by omega)]
    · rw [pk_un q]
      exact h z (by omega)
theorem m_takes {s : Nat × (Nat → Nat) × Bool} {x : Nat} {ns : Nat → Int32} (h : PgI s) (hx : x < 127) (ha : AO ns s.1 s.2.1) : (nstep s x = none ∧ P5_takes (nI s.1) ns (b2 s.2.2) (nI x) = some (0, nI s.1, ns, b2 s.2.2)) ∨ (∃ t o, nstep s x = some t ∧ P5_takes (nI s.1) ns (b2 s.2.2) (nI x) = some (1, nI t.1, o, b2 t.2.2) ∧ AO o t.1 t.2.1) := by
  obtain ⟨h1, h2, h3⟩ := h
  unfold nstep P5_takes
  have key : ∀ l, l < 2 → AO (upd ns s.1 (nI l)) (s.1 + 1) (fun i => if i = s.1 then l else s.2.1 i) := fun l _ i hi => by
    simp only
    by_cases q : i = s.1
    · rw [if_pos q, q, pk_us]
    · rw [if_neg q, pk_un q]
      exact ha i (by omega)
  by_cases c76 : x = 76
  · subst c76
    rw [if_pos (Or.inl rfl), if_pos (show nI 76 = (76 : Int32) by decide), if_pos (show nI 76 = (76 : Int32) by decide)]
    by_cases d : s.1 = 20
    · rw [if_pos d, if_pos (show nI s.1 = (20 : Int32) by rw [d]; rfl)]
      exact Or.inl ⟨rfl, rfl⟩
    · rw [if_neg d, if_neg (show ¬ nI s.1 = (20 : Int32) from fun q => d ((nI_eq (b := 20) (by omega) (by omega)).mp q)), if_pos (n_in (by omega) (by omega)), n_cl (by omega), nI_1]
      exact Or.inr ⟨_, _, rfl, rfl, key 0 (by omega)⟩
  · by_cases c82 : x = 82
    · subst c82
      rw [if_pos (Or.inr rfl), if_neg (show ¬ nI 82 = (76 : Int32) by decide), if_pos (show nI 82 = (82 : Int32) by decide), if_neg (show ¬ nI 82 = (76 : Int32) by decide)]
      by_cases d : s.1 = 20
      · rw [if_pos d, if_pos (show nI s.1 = (20 : Int32) by rw [d]; rfl)]
        exact Or.inl ⟨rfl, rfl⟩
      · rw [if_neg d, if_neg (show ¬ nI s.1 = (20 : Int32) from fun q => d ((nI_eq (b := 20) (by omega) (by omega)).mp q)), if_pos (n_in (by omega) (by omega)), n_cl (by omega), nI_1]
        exact Or.inr ⟨_, _, rfl, rfl, key 1 (by omega)⟩
    · rw [if_neg (by omega), if_neg (show ¬ nI x = (76 : Int32) from fun q => c76 ((nI_eq (b := 76) (by omega) (by omega)).mp q)), if_neg (show ¬ nI x = (82 : Int32) from fun q => c82 ((nI_eq (b := 82) (by omega) (by omega)).mp q)), m_within, ob]
      by_cases r : s.2.2 = true
      · rw [if_neg (show ¬ b2 s.2.2 = 0 by rw [r]; decide)]
        by_cases d : 50 ≤ x ∧ x ≤ 57
        · have e : nI x - 49 = nI (x - 49) := n_sub (b := 49) (by omega)
          rw [if_pos ((w_digit hx).mpr d), if_neg (show ¬ (1 : Int32) = 0 by decide), e, nI_add]
          by_cases f : s.1 + (x - 49) ≤ 20
          · obtain ⟨o, g1, g2⟩ := m_run_loop (L := s.2.1) (h3 r) f (x - 49) 0 FU ns (by omega) (by unfold FU; omega) (fun i hi => by unfold runL; rw [if_pos (by omega)]; exact ha i (by omega))
            rw [if_pos ⟨r, d.1, d.2, f⟩, if_pos (show nI (s.1 + (x - 49)) ≤ (20 : Int32) from nI_le (b := 20) f (by omega)), show P5_takes_97 (nI (x - 49)) FU (nI s.1) ns 0 = _ from g1]
            exact Or.inr ⟨_, _, rfl, rfl, g2⟩
          · rw [if_neg (fun q => f q.2.2.2), if_neg (show ¬ nI (s.1 + (x - 49)) ≤ (20 : Int32) from nI_ge (a := 20) (by omega) (by omega))]
            exact Or.inl ⟨rfl, rfl⟩
        · rw [if_neg (fun q => d ⟨q.2.1, q.2.2.1⟩), if_neg (fun q => d ((w_digit hx).mp q)), if_pos rfl]
          exact Or.inl ⟨rfl, rfl⟩
      · rw [if_neg (fun q => r q.1), if_pos (show b2 s.2.2 = 0 by unfold b2; rw [if_neg r])]
        exact Or.inl ⟨rfl, rfl⟩
theorem m_read_loop {pl : Nat} {c : Nat → Nat} {page : Nat → Int32} (hpl : pl ≤ 20) (hp : ∀ i, i < pl → c i < 127 ∧ page i = nI (c i)) : ∀ (r j n : Nat) (ns : Nat → Int32), j + r = pl → r < n → (pst c j).1 = j → AO ns (pst c j).2.1 (pst c j).2.2.1 → ∃ o, P5_read_12 (nI pl) page n (nI (pst c j).2.1) ns (b2 (pst c j).2.2.2) (nI j) = some (nI (pst c pl).2.1, o, b2 (pst c pl).2.2.2, nI (pst c pl).1) ∧ AO o (pst c pl).2.1 (pst c pl).2.2.1
  | 0, j, n, ns, hj, hn, e, ha => by
    obtain ⟨n, rfl⟩ : ∃ z, n = z + 1 := ⟨n - 1, by omega⟩
    rw [show pl = j by omega]
    exact ⟨ns, by rw [P5_read_12, if_pos (nI_le (by omega) (by omega)), e], ha⟩
  | r + 1, j, n, ns, hj, hn, e, ha => by
    obtain ⟨n, rfl⟩ : ∃ z, n = z + 1 := ⟨n - 1, by omega⟩
    obtain ⟨hc, hp2⟩ := hp j (by omega)
    rw [P5_read_12, if_neg (nI_ge (by omega) (by omega)), if_pos (n_in (by omega) (by omega)), n_cl (by omega), hp2]
    rcases m_takes (pst_PgI c j).1 hc ha with ⟨q1, q2⟩ | ⟨t, o, q1, q2, q3⟩
    · have e1 : pst c (j + 1) = pst c j := by rw [pst, if_pos e, q1]
      have e2 : pst c pl = pst c j := by
        have := pst_stop c (j := j + 1) (by rw [e1]; omega) r
        rw [e1] at this
        rw [← this]
        congr 1
        omega
      rw [q2, ob, if_pos rfl, e2, e]
      exact ⟨ns, rfl, ha⟩
    · have e1 : pst c (j + 1) = (j + 1, t) := by rw [pst, if_pos e, q1]
      have := m_read_loop hpl hp r (j + 1) n o (by omega) (by omega) (by rw [e1]) (by rw [e1]; exact q3)
      rw [e1] at this
      rw [q2, ob, if_neg (show ¬ (1 : Int32) = 0 by decide), nI_1]
      exact this
theorem m_read {pl : Nat} {c : Nat → Nat} {page ns : Nat → Int32} (hpl : pl ≤ 20) (hp : ∀ i, i < pl → c i < 127 ∧ page i = nI (c i)) : ∃ o, P5_read (nI pl) page ns = some (nI (pst c pl).1, nI (pst c pl).2.1, o, b2 (pst c pl).2.2.2) ∧ AO o (pst c pl).2.1 (pst c pl).2.2.1 := by
  obtain ⟨o, h1, h2⟩ := m_read_loop hpl hp pl 0 FU ns (by omega) (by unfold FU; omega) rfl (fun i hi => by simp [pst] at hi)
  refine ⟨o, ?_, h2⟩
  unfold P5_read
  rw [show P5_read_12 (nI pl) page FU 0 ns 0 0 = _ from h1]
  rfl
theorem w_more_loop {n m l : Nat} {C : Nat → Nat} (hl : l < 2) (hm : m < 100) (hC : ∀ i, n ≤ i → i < n + m → C i = l) : ∀ (j i k : Nat), i + j = m → j < k → P1_continues_110 (nI m) (nI l) k (nI (bv C (n + i))) (nI i) = some (nI (bv C (n + m)))
  | 0, i, k, hi, hk => by
    obtain ⟨k, rfl⟩ : ∃ z, k = z + 1 := ⟨k - 1, by omega⟩
    rw [P1_continues_110, if_pos (nI_le (by omega) (by omega)), show i = m by omega]
  | j + 1, i, k, hi, hk => by
    obtain ⟨k, rfl⟩ : ∃ z, k = z + 1 := ⟨k - 1, by omega⟩
    have := w_more_loop hl hm hC j (i + 1) k (by omega) (by omega)
    rw [← Nat.add_assoc, bv, hC (n + i) (by omega) (by omega), Nat.mul_comm] at this
    rw [P1_continues_110, if_neg (nI_ge (by omega) (by omega)), n_app _ l hl, nI_1]
    exact this
theorem w_more {n m l : Nat} {L C : Nat → Nat} (hl : l < 2) (hm : m < 100) (hC : ∀ i, n ≤ i → i < n + m → C i = l) (hL : ∀ i, i < n → C i = L i) : P1_continues_110 (nI m) (nI l) FU (nI (bv L n)) 0 = some (nI (bv C (n + m))) := by
  have := w_more_loop hl hm hC m 0 FU (by omega) (by unfold FU; omega)
  rw [Nat.add_zero, bv_congr hL] at this
  exact this
theorem w_continues {s : Nat × (Nat → Nat) × Bool} {x : Nat} (h : PgI s) (hx : x < 127) : (nstep s x = none ∧ P1_continues (nI (bv s.2.1 s.1)) (nI s.1) (b2 s.2.2) (nI x) = some (0, nI (bv s.2.1 s.1), nI s.1, b2 s.2.2)) ∨ (∃ t, nstep s x = some t ∧ P1_continues (nI (bv s.2.1 s.1)) (nI s.1) (b2 s.2.2) (nI x) = some (1, nI (bv t.2.1 t.1), nI t.1, b2 t.2.2)) := by
  obtain ⟨h1, h2, h3⟩ := h
  unfold nstep P1_continues
  have key : ∀ l, l < 2 → P1_continues_110 1 (nI l) FU (nI (bv s.2.1 s.1)) 0 = some (nI (bv (fun i => if i = s.1 then l else s.2.1 i) (s.1 + 1))) := fun l hl => w_more (m := 1) hl (by omega) (fun i _ _ => by show (if i = s.1 then l else s.2.1 i) = _; rw [if_pos (by omega)]) (fun i hi => by show (if i = s.1 then l else s.2.1 i) = _; rw [if_neg (by omega)])
  have full : ¬ s.1 = 20 → nI s.1 + 1 ≤ 20 := fun d => by
    rw [nI_1]
    exact nI_le (b := 20) (by omega) (by omega)
  have nfull : s.1 = 20 → ¬ nI s.1 + 1 ≤ 20 := fun d => by
    rw [nI_1]
    exact nI_ge (a := 20) (by omega) (by omega)
  by_cases c76 : x = 76
  · subst c76
    rw [if_pos (Or.inl rfl), if_pos (show nI 76 = (76 : Int32) by decide), if_neg (show ¬ nI 76 = (82 : Int32) by decide), if_neg (show ¬ nI 76 < (50 : Int32) by decide), if_pos (show (57 : Int32) < nI 76 by decide), if_neg (show ¬ 76 = 82 by decide)]
    by_cases d : s.1 = 20
    · rw [if_pos d, if_neg (nfull d)]
      refine Or.inl ⟨rfl, ?_⟩
      split <;> rfl
    · rw [if_neg d, if_pos (full d), show P1_continues_110 1 0 FU (nI (bv s.2.1 s.1)) 0 = _ from key 0 (by omega), ob, nI_1]
      refine Or.inr ⟨_, rfl, ?_⟩
      split <;> rfl
  · by_cases c82 : x = 82
    · subst c82
      rw [if_pos (Or.inr rfl), if_neg (show ¬ nI 82 = (76 : Int32) by decide), if_pos (show nI 82 = (82 : Int32) by decide), if_neg (show ¬ nI 82 < (50 : Int32) by decide), if_pos (show (57 : Int32) < nI 82 by decide), if_pos (show 82 = 82 from rfl)]
      by_cases d : s.1 = 20
      · rw [if_pos d, if_neg (nfull d)]
        refine Or.inl ⟨rfl, ?_⟩
        split <;> rfl
      · rw [if_neg d, if_pos (full d), if_pos (show nI 82 = (82 : Int32) by decide), show P1_continues_110 1 1 FU (nI (bv s.2.1 s.1)) 0 = _ from key 1 (by omega), ob, nI_1]
        refine Or.inr ⟨_, rfl, ?_⟩
        split <;> rfl
    · rw [if_neg (by omega), if_neg (show ¬ nI x = (76 : Int32) from fun q => c76 ((nI_eq (b := 76) (by omega) (by omega)).mp q)), if_neg (show ¬ nI x = (82 : Int32) from fun q => c82 ((nI_eq (b := 82) (by omega) (by omega)).mp q))]
      by_cases r : s.2.2 = true
      · rw [if_neg (show ¬ b2 s.2.2 = 0 by rw [r]; decide)]
        by_cases d1 : x < 50
        · rw [if_pos (show nI x < (50 : Int32) from nI_lt (b := 50) d1 (by omega)), if_neg (fun q => by omega)]
          exact Or.inl ⟨rfl, rfl⟩
        · rw [if_neg (show ¬ nI x < (50 : Int32) from fun q => d1 ((nI_ltI (b := 50) (by omega) (by omega)).mp q))]
          by_cases d2 : 57 < x
          · rw [if_pos (show (57 : Int32) < nI x from nI_lt (a := 57) d2 (by omega)), if_neg (fun q => by omega)]
            exact Or.inl ⟨rfl, rfl⟩
          · rw [if_neg (show ¬ (57 : Int32) < nI x from fun q => d2 ((nI_ltI (a := 57) (by omega) (by omega)).mp q)), show nI x - 49 = nI (x - 49) from n_sub (b := 49) (by omega), nI_add]
            by_cases f : s.1 + (x - 49) ≤ 20
            · have h4 := h3 r
              have e1 : bv s.2.1 s.1 % 2 = s.2.1 (s.1 - 1) := by
                have := bv_bit (L := s.2.1) (p := s.1 - 1) (h2 _ (by omega))
                rw [show s.1 - 1 + 1 = s.1 by omega] at this
                exact this
              rw [if_pos ⟨r, by omega, by omega, f⟩, if_pos (show nI (s.1 + (x - 49)) ≤ (20 : Int32) from nI_le (b := 20) f (by omega)), n_mask1, e1, w_more (C := runL s.1 s.2.1) (h2 _ (by omega)) (by omega) (fun i hi _ => by unfold runL; rw [if_neg (by omega)]) (fun i hi => by unfold runL; rw [if_pos hi])]
              exact Or.inr ⟨_, rfl, rfl⟩
            · rw [if_neg (fun q => f q.2.2.2), if_neg (show ¬ nI (s.1 + (x - 49)) ≤ (20 : Int32) from nI_ge (a := 20) (by omega) (by omega))]
              exact Or.inl ⟨rfl, rfl⟩
      · rw [if_neg (fun q => r q.1), if_pos (show b2 s.2.2 = 0 by unfold b2; rw [if_neg r])]
        exact Or.inl ⟨rfl, rfl⟩
theorem pst_congr {c c' : Nat → Nat} : ∀ {j : Nat}, (∀ i, i < j → c i = c' i) → pst c j = pst c' j
  | 0, _ => rfl
  | j + 1, h => by rw [pst, pst, pst_congr (j := j) (fun i hi => h i (by omega)), h j (by omega)]
theorem page_0 (codes page : Nat → Int32) : SimPage 0 0 0 0 0 codes 0 page := ⟨0, fun _ => 0, by omega, rfl, rfl, fun i hi => by omega, rfl, rfl, rfl, rfl⟩
section
variable {psize good pbits letters after pageLength : Int32} {codes page ns : Nat → Int32}
theorem c_letter (h : SimPage psize good pbits letters after codes pageLength page) (x : Int32) : ∃ a b, P4_letter psize good pbits letters after codes x = some a ∧ P5_letter pageLength page x = some b ∧ a.1 = b.1 ∧ SimPage a.2.1 a.2.2.1 a.2.2.2.1 a.2.2.2.2.1 a.2.2.2.2.2.1 a.2.2.2.2.2.2 b.2.1 b.2.2 := by
  have h' := h
  obtain ⟨pl, c, hpl, rfl, rfl, hc, rfl, rfl, rfl, rfl⟩ := h
  unfold P4_letter P5_letter
  rw [m_within, ob]
  by_cases c1 : x < 32
  · rw [if_pos c1, if_neg (show ¬ (32 ≤ x ∧ x ≤ 126) from fun q => absurd c1 (Int32.not_lt.mpr q.1)), if_pos rfl]
    exact ⟨_, _, rfl, rfl, rfl, h'⟩
  · rw [if_neg c1]
    by_cases c2 : x ≤ 126
    · obtain ⟨k, hk, rfl⟩ := nn (x := x) (fun q => c1 (by
        have q1 := Int32.lt_iff_toInt_lt.mp q
        rw [show (0 : Int32).toInt = 0 from rfl] at q1
        exact Int32.lt_iff_toInt_lt.mpr (by rw [show (32 : Int32).toInt = 32 from rfl]; omega)))
      have hk2 : k ≤ 126 := (nI_leI (b := 126) hk (by omega)).mp c2
      rw [if_pos c2, if_pos (show 32 ≤ nI k ∧ nI k ≤ 126 from ⟨Int32.not_lt.mp c1, c2⟩), if_neg (show ¬ (1 : Int32) = 0 by decide)]
      by_cases c3 : pl = 20
      · rw [if_pos (show nI pl = (20 : Int32) by rw [c3]; rfl), if_neg (show ¬ nI pl < (20 : Int32) from fun q => by have := (nI_ltI (b := 20) (by omega) (by omega)).mp q; omega)]
        exact ⟨_, _, rfl, rfl, rfl, h'⟩
      · have hlt : nI pl < (20 : Int32) := nI_lt (b := 20) (by omega) (by omega)
        have hvx := n_in (show pl < 20 by omega) (by omega)
        rw [if_neg (show ¬ nI pl = (20 : Int32) from fun q => c3 ((nI_eq (b := 20) (by omega) (by omega)).mp q)), if_pos hlt, if_pos hvx, nI_1]
        unfold P1_append
        rw [if_neg (n_neg (by omega)), if_pos hlt, if_pos hvx, nI_1]
        obtain ⟨g1, g2, g3, g4⟩ := pst_PgI c pl
        have hcc : ∀ i, i < pl → c i = ext c pl k i := fun i hi => by unfold ext; rw [if_neg (by omega)]
        have e0 : pst c pl = pst (ext c pl k) pl := pst_congr hcc
        have ek : ext c pl k pl = k := by unfold ext; rw [if_pos rfl]
        have hcodes : ∀ i, i < pl + 1 → ext c pl k i < 127 ∧ upd codes pl (nI k) i = nI (ext c pl k i) ∧ upd page pl (nI k) i = nI (ext c pl k i) := fun i hi => by
          by_cases q : i = pl
          · subst q
            rw [ek, pk_us, pk_us]
            exact ⟨by omega, rfl, rfl⟩
          · rw [pk_un q, pk_un q, ← hcc i (by omega)]
            exact hc i (by omega)
        have fin : ∀ (st : Nat × Nat × (Nat → Nat) × Bool), pst (ext c pl k) (pl + 1) = st → SimPage (nI (pl + 1)) (nI st.1) (nI (bv st.2.2.1 st.2.1)) (nI st.2.1) (b2 st.2.2.2) (upd codes pl (nI k)) (nI (pl + 1)) (upd page pl (nI k)) := fun st hst => ⟨pl + 1, ext c pl k, by omega, rfl, rfl, hcodes, by rw [hst], by rw [hst], by rw [hst], by rw [hst]; rfl⟩
        by_cases c4 : (pst c pl).1 = pl
        · rw [if_pos (show nI (pst c pl).1 = nI pl by rw [c4])]
          rcases w_continues (x := k) g1 (by omega) with ⟨q1, q2⟩ | ⟨t, q1, q2⟩
          · have e1 : pst (ext c pl k) (pl + 1) = pst c pl := by rw [pst, ← e0, if_pos c4, ek, q1]
            rw [show P1_continues (nI (bv (pst c pl).2.2.1 (pst c pl).2.1)) (nI (pst c pl).2.1) (if (pst c pl).2.2.2 = true then 1 else 0) (nI k) = _ from q2, ob, if_pos rfl, if_pos hvx, n_cl (by omega)]
            exact ⟨_, _, rfl, rfl, rfl, fin _ e1⟩
          · have e1 : pst (ext c pl k) (pl + 1) = (pl + 1, t) := by rw [pst, ← e0, if_pos c4, ek, q1]
            rw [show P1_continues (nI (bv (pst c pl).2.2.1 (pst c pl).2.1)) (nI (pst c pl).2.1) (if (pst c pl).2.2.2 = true then 1 else 0) (nI k) = _ from q2, ob, if_neg (show ¬ (1 : Int32) = 0 by decide), if_pos hvx, n_cl (by omega), c4, nI_1]
            exact ⟨_, _, rfl, rfl, rfl, fin _ e1⟩
        · have e1 : pst (ext c pl k) (pl + 1) = pst c pl := by rw [pst, ← e0, if_neg c4]
          rw [if_neg (fun q => c4 ((nI_eq (by omega) (by omega)).mp q)), n_cl (by omega)]
          exact ⟨_, _, rfl, rfl, rfl, fin _ e1⟩
    · rw [if_neg c2, if_neg (show ¬ (32 ≤ x ∧ x ≤ 126) from fun q => c2 q.2), if_pos rfl]
      exact ⟨_, _, rfl, rfl, rfl, h'⟩
end
theorem sim_letter {v_roadCount v_readings v_psize v_good v_pbits v_letters v_afterLetter v_disc v_rsize v_cycleCount : Int32} {v_codes : Nat → Int32} {v_fo v_cy v_wv : Nat → Nat → Int32} {v_wn : Nat} {m_pageLength m_roads m_wordsRead m_disc m_forms m_cycles m_size : Int32} {m_page m_lengths m_signs m_formA m_formB m_formC m_nextOf m_cycleOf m_firstOf : Nat → Int32} (y0 : Int32) (h : SIM v_roadCount v_readings v_psize v_good v_pbits v_letters v_afterLetter v_codes v_disc v_rsize v_cycleCount v_fo v_cy v_wn v_wv m_pageLength m_page m_roads m_lengths m_signs m_wordsRead m_disc m_forms m_formA m_formB m_formC m_nextOf m_cycleOf m_cycles m_firstOf m_size) : ∃ (a : Int32 × Int32 × Int32 × Int32 × Int32 × Int32 × (Nat → Int32)) (b : Int32 × Int32 × (Nat → Int32)), P4_letter v_psize v_good v_pbits v_letters v_afterLetter v_codes y0 = some a ∧ P5_letter m_pageLength m_page y0 = some b ∧ a.1 = b.1 ∧ SIM v_roadCount v_readings a.2.1 a.2.2.1 a.2.2.2.1 a.2.2.2.2.1 a.2.2.2.2.2.1 a.2.2.2.2.2.2 v_disc v_rsize v_cycleCount v_fo v_cy v_wn v_wv b.2.1 b.2.2 m_roads m_lengths m_signs m_wordsRead m_disc m_forms m_formA m_formB m_formC m_nextOf m_cycleOf m_cycles m_firstOf m_size := by
  obtain ⟨a, b, h1, h2, h3, h4⟩ := c_letter h.1 y0
  exact ⟨a, b, h1, h2, h3, h4, h.2⟩
theorem sim_blank {v_roadCount v_readings v_psize v_good v_pbits v_letters v_afterLetter v_disc v_rsize v_cycleCount : Int32} {v_codes : Nat → Int32} {v_fo v_cy v_wv : Nat → Nat → Int32} {v_wn : Nat} {m_pageLength m_roads m_wordsRead m_disc m_forms m_cycles m_size : Int32} {m_page m_lengths m_signs m_formA m_formB m_formC m_nextOf m_cycleOf m_firstOf : Nat → Int32} (h : SIM v_roadCount v_readings v_psize v_good v_pbits v_letters v_afterLetter v_codes v_disc v_rsize v_cycleCount v_fo v_cy v_wn v_wv m_pageLength m_page m_roads m_lengths m_signs m_wordsRead m_disc m_forms m_formA m_formB m_formC m_nextOf m_cycleOf m_cycles m_firstOf m_size) : ∃ (a : Int32 × Int32 × Int32 × Int32 × Int32 × Int32) (b : Int32 × Int32), P4_blank v_psize = some a ∧ P5_blank m_pageLength = some b ∧ a.1 = b.1 ∧ SIM v_roadCount v_readings a.2.1 a.2.2.1 a.2.2.2.1 a.2.2.2.2.1 a.2.2.2.2.2 v_codes v_disc v_rsize v_cycleCount v_fo v_cy v_wn v_wv b.2 m_page m_roads m_lengths m_signs m_wordsRead m_disc m_forms m_formA m_formB m_formC m_nextOf m_cycleOf m_cycles m_firstOf m_size := by
  obtain ⟨pl, c, hpl, rfl, rfl, hc, -⟩ := h.1
  exact ⟨_, _, rfl, rfl, rfl, page_0 _ _, h.2⟩
theorem sim_fault {v_roadCount v_readings v_psize v_good v_pbits v_letters v_afterLetter v_disc v_rsize v_cycleCount : Int32} {v_codes : Nat → Int32} {v_fo v_cy v_wv : Nat → Nat → Int32} {v_wn : Nat} {m_pageLength m_roads m_wordsRead m_disc m_forms m_cycles m_size : Int32} {m_page m_lengths m_signs m_formA m_formB m_formC m_nextOf m_cycleOf m_firstOf m_newSigns : Nat → Int32} (h : SIM v_roadCount v_readings v_psize v_good v_pbits v_letters v_afterLetter v_codes v_disc v_rsize v_cycleCount v_fo v_cy v_wn v_wv m_pageLength m_page m_roads m_lengths m_signs m_wordsRead m_disc m_forms m_formA m_formB m_formC m_nextOf m_cycleOf m_cycles m_firstOf m_size) : ∃ (a : Int32) (b : Int32 × Int32 × (Nat → Int32) × Int32), P4_fault v_good = some a ∧ P5_fault m_pageLength m_page m_newSigns = some b ∧ a = b.1 ∧ SIM v_roadCount v_readings v_psize v_good v_pbits v_letters v_afterLetter v_codes v_disc v_rsize v_cycleCount v_fo v_cy v_wn v_wv m_pageLength m_page m_roads m_lengths m_signs m_wordsRead m_disc m_forms m_formA m_formB m_formC m_nextOf m_cycleOf m_cycles m_firstOf m_size := by
  have h' := h
  obtain ⟨pl, c, hpl, rfl, rfl, hc, rfl, -⟩ := h.1
  obtain ⟨o, h1, -⟩ := m_read (ns := m_newSigns) hpl (fun i hi => ⟨(hc i hi).1, (hc i hi).2.2⟩)
  refine ⟨nI (pst c pl).1, (nI (pst c pl).1, nI (pst c pl).2.1, o, b2 (pst c pl).2.2.2), rfl, ?_, rfl, h'⟩
  unfold P5_fault
  rw [h1]
  rfl
theorem sim_word {v_roadCount v_readings v_psize v_good v_pbits v_letters v_afterLetter v_disc v_rsize v_cycleCount : Int32} {v_codes : Nat → Int32} {v_fo v_cy v_wv : Nat → Nat → Int32} {v_wn : Nat} {m_pageLength m_roads m_wordsRead m_disc m_forms m_cycles m_size : Int32} {m_page m_lengths m_signs m_formA m_formB m_formC m_nextOf m_cycleOf m_firstOf m_newSigns : Nat → Int32} (h : SIM v_roadCount v_readings v_psize v_good v_pbits v_letters v_afterLetter v_codes v_disc v_rsize v_cycleCount v_fo v_cy v_wn v_wv m_pageLength m_page m_roads m_lengths m_signs m_wordsRead m_disc m_forms m_formA m_formB m_formC m_nextOf m_cycleOf m_cycles m_firstOf m_size) : ∃ (a : Int32 × Int32 × Int32 × Int32 × Int32 × Int32 × Int32 × Int32 × Nat × (Nat → Nat → Int32)) (b : Int32 × Int32 × Int32 × (Nat → Int32) × (Nat → Int32) × Int32 × Int32 × (Nat → Int32) × Int32), P4_word v_roadCount v_readings v_psize v_good v_pbits v_letters v_afterLetter v_wn v_wv = some a ∧ P5_word m_pageLength m_page m_roads m_lengths m_signs m_wordsRead m_newSigns = some b ∧ a.1 = b.1 ∧ SIM a.2.1 a.2.2.1 a.2.2.2.1 a.2.2.2.2.1 a.2.2.2.2.2.1 a.2.2.2.2.2.2.1 a.2.2.2.2.2.2.2.1 v_codes v_disc v_rsize v_cycleCount v_fo v_cy a.2.2.2.2.2.2.2.2.1 a.2.2.2.2.2.2.2.2.2 b.2.1 m_page b.2.2.1 b.2.2.2.1 b.2.2.2.2.1 b.2.2.2.2.2.1 m_disc m_forms m_formA m_formB m_formC m_nextOf m_cycleOf m_cycles m_firstOf m_size := by
  have h' := h
  obtain ⟨⟨pl, c, hpl, rfl, rfl, hc, rfl, rfl, rfl, rfl⟩, hR, hV, rfl, hz⟩ := h
  obtain ⟨o, h1, h2⟩ := m_read (ns := m_newSigns) hpl (fun i hi => ⟨(hc i hi).1, (hc i hi).2.2⟩)
  obtain ⟨⟨g1, g2, g3⟩, g4, g5, g6⟩ := pst_PgI c pl
  unfold P4_word P5_word P1_isWord
  rw [h1, ob]
  simp only []
  by_cases c1 : (pst c pl).1 < pl
  · rw [if_pos (show nI (pst c pl).1 < nI pl from nI_lt c1 (by omega)), if_neg (show ¬ nI pl ≤ (0 : Int32) from nI_ge (a := 0) (show 0 < pl by omega) (by omega)), if_neg (show ¬ nI (pst c pl).1 = nI pl from fun q => by have := (nI_eq (by omega) (by omega)).mp q; omega), ob, if_pos rfl]
    exact ⟨_, _, rfl, rfl, rfl, h'⟩
  · rw [if_neg (show ¬ nI (pst c pl).1 < nI pl from fun q => c1 ((nI_ltI (by omega) (by omega)).mp q))]
    by_cases c2 : (pst c pl).2.1 = 0
    · rw [if_pos (show nI pl ≤ 0 from nI_le (b := 0) (by omega) (by omega)), ob, if_pos rfl, if_pos (show nI (pst c pl).2.1 = 0 by rw [c2]; rfl)]
      exact ⟨_, _, rfl, rfl, rfl, h'⟩
    · have g7 := g6 (by omega)
      rw [if_neg (show ¬ nI pl ≤ (0 : Int32) from nI_ge (a := 0) (show 0 < pl by omega) (by omega)), if_pos (show nI (pst c pl).1 = nI pl by rw [show (pst c pl).1 = pl by omega]), ob, if_neg (show ¬ (1 : Int32) = 0 by decide), if_neg (nI_ne0 (by omega) (by omega))]
      rcases c_add hR (show LW (pst c pl).2.1 (pst c pl).2.2.1 from ⟨by omega, g1, g2⟩) h2 with ⟨q1, q2⟩ | ⟨q1, n, ls, ss, wn', wv', hn, q2, q3, q4⟩
      · rw [if_pos q1, q2, ob, if_pos (show (-2000000104 : Int32) < 0 by decide)]
        exact ⟨_, _, rfl, rfl, rfl, h'⟩
      · rw [if_neg q1, q2, ob, if_neg (show ¬ nI n < 0 from n_neg (by omega)), q3]
        exact ⟨_, _, rfl, rfl, rfl, page_0 _ _, q4, hV, rfl, hz⟩
