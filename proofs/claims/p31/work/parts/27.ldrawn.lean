-- RANDOM WORDS
theorem d_bits : ∀ (j k n1 n2 s : Nat) (C : Nat → Nat), k + j = 8 → j < n1 → j < n2 → s < 2147483648 → (∀ i, i < k → C i < 2) → ∃ s' C', P0_nextBits_4 n1 (lI s) (nI (bv C k)) (nI k) = some (lI s', nI (bv C' 8)) ∧ P_drawn_31 n2 (lI s) (cw k C) (nI k) = some (lI s', cw 8 C') ∧ s' < 2147483648 ∧ ∀ i, i < 8 → C' i < 2
  | 0, k, n1, n2, s, C, hk, h1, h2, hs, hC => by
    obtain ⟨n1, rfl⟩ : ∃ z, n1 = z + 1 := ⟨n1 - 1, by omega⟩
    obtain ⟨n2, rfl⟩ : ∃ z, n2 = z + 1 := ⟨n2 - 1, by omega⟩
    obtain rfl : k = 8 := by omega
    exact ⟨s, C, by rw [P0_nextBits_4, if_pos (by decide)], by rw [P_drawn_31, if_pos (by decide)], hs, hC⟩
  | j + 1, k, n1, n2, s, C, hk, h1, h2, hs, hC => by
    obtain ⟨n1, rfl⟩ : ∃ z, n1 = z + 1 := ⟨n1 - 1, by omega⟩
    obtain ⟨n2, rfl⟩ : ∃ z, n2 = z + 1 := ⟨n2 - 1, by omega⟩
    have hl : nx s / 65536 % 2 < 2 := Nat.mod_lt _ (by omega)
    have hle : ¬ (8 : Int32) ≤ nI k := nI_ge (b := 8) (by omega) (by omega)
    have ec : lI s * 1103515245 = 1103515245 * lI s := Int64.mul_comm _ _
    have ih := d_bits j (k + 1) n1 n2 (nx s) (ext C k (nx s / 65536 % 2)) (by omega) (by omega) (by omega) (nx_lt s) (ext_lt hl hC)
    rw [bv_ext] at ih
    rw [P0_nextBits_4, if_neg hle, P_drawn_31, if_neg hle, ec, l_nx hs, l_bit (nx_lt s), n_app _ _ hl, nI_1, q_ext (by omega) hC hl, ob]
    exact ih
theorem d_loop {m : Nat} (hm : m ≤ 40) : ∀ (j k n1 n2 s : Nat) (L : Nat → Nat) (was cl tr cr d1 d2 d3 d4 d5 d6 d7 e2 e3 e4 e5 e6 e7 : Int32) (t : Nat → Int32), k + j = m → j < n1 → j < n2 → s < 2147483648 → LW 8 L → ((was = 0 ∧ clo 8 L = false) ∨ was = cw 8 L) → ∃ a o, P0_run_33 (nI m) n1 (lI s) cl tr cr d1 d2 d3 d4 d5 d6 d7 (nI (bv L 8)) e2 e3 e4 e5 e6 e7 (nI k) = some a ∧ P_drawn_19 (nI m) n2 t (lI s) cl tr cr was (nI k) = some (o, a.1, a.2.1, a.2.2.1, a.2.2.2.1)
  | 0, k, n1, n2, s, L, was, cl, tr, cr, d1, d2, d3, d4, d5, d6, d7, e2, e3, e4, e5, e6, e7, t, hk, h1, h2, hs, hL, hw => by
    obtain ⟨n1, rfl⟩ : ∃ z, n1 = z + 1 := ⟨n1 - 1, by omega⟩
    obtain ⟨n2, rfl⟩ : ∃ z, n2 = z + 1 := ⟨n2 - 1, by omega⟩
    exact ⟨_, t, by rw [P0_run_33, if_pos (nI_le (by omega) (by omega))], by rw [P_drawn_19, if_pos (nI_le (by omega) (by omega))]⟩
  | j + 1, k, n1, n2, s, L, was, cl, tr, cr, d1, d2, d3, d4, d5, d6, d7, e2, e3, e4, e5, e6, e7, t, hk, h1, h2, hs, hL, hw => by
    obtain ⟨n1, rfl⟩ : ∃ z, n1 = z + 1 := ⟨n1 - 1, by omega⟩
    obtain ⟨n2, rfl⟩ : ∃ z, n2 = z + 1 := ⟨n2 - 1, by omega⟩
    obtain ⟨s', C, b1, b2', b3, b5⟩ := d_bits 8 0 FU FU s (fun _ => 0) (by omega) (by unfold FU; omega) (by unfold FU; omega) hs (fun i hi => by omega)
    have hC : LW 8 C := ⟨by omega, by omega, b5⟩
    obtain ⟨t', ht, hTB⟩ := q_table hC t
    have T0 : t' (Int32.toNatClampNeg 0) = (mt C 8).1 := hTB.1
    have T3 : t' (Int32.toNatClampNeg 3) = (mt C 8).2.2.2 := hTB.2.2.2
    have v0 : vx 0 40 := by decide
    have v3 : vx 3 40 := by decide
    have ih := fun cl tr cr t => d_loop hm j (k + 1) n1 n2 s' C (cw 8 C) cl tr cr (wrec 8 L).1 (wrec 8 L).2.1 (wrec 8 L).2.2.1 (wrec 8 L).2.2.2.1 (wrec 8 L).2.2.2.2.1 (wrec 8 L).2.2.2.2.2.1 (wrec 8 L).2.2.2.2.2.2 (wrec 8 C).2.1 (wrec 8 C).2.2.1 (wrec 8 C).2.2.2.1 (wrec 8 C).2.2.2.2.1 (wrec 8 C).2.2.2.2.2.1 (wrec 8 C).2.2.2.2.2.2 t (by omega) (by omega) (by omega) b3 hC (Or.inr rfl)
    rw [P0_run_33, if_neg (nI_ge (by omega) (by omega)), show P3_become (nI (bv L 8)) 8 = some (wrec 8 L) from w_become hL, ob]
    unfold P0_nextBits
    rw [show P0_nextBits_4 FU (lI s) 0 0 = _ from b1, ob, ob]
    dsimp only
    rw [show P3_become (nI (bv C 8)) 8 = some (wrec 8 C) from w_become hC, ob]
    unfold P0_tell
    rw [show P3_isClosed (wrec 8 C).1 (wrec 8 C).2.2.1 = _ from w_isClosed hC, ob]
    rw [P_drawn_19, if_neg (nI_ge (by omega) (by omega)), show P_drawn_31 FU (lI s) 0 0 = _ from b2', ob, nI_1]
    dsimp only
    rw [q_isClosed hC, ob]
    by_cases hcC : clo 8 C = true
    · rw [hcC, if_neg (show ¬ b2 true = 0 by decide), if_pos rfl, if_neg (show ¬ (1 : Int32) = 0 by decide), ht, ob, if_pos v0, if_pos v3, T0, T3]
      unfold P3_traceSum
      rw [ob, show P3_isClosed (wrec 8 L).1 (wrec 8 L).2.2.1 = _ from w_isClosed hL, ob]
      by_cases hcL : clo 8 L = true
      · have hwas : was = cw 8 L := by
          rcases hw with ⟨_, q⟩ | q
          · rw [q] at hcL
            cases hcL
          · exact q
        have hl8 := le_lt hL.2.2
        have hw0 : ¬ was = 0 := by
          rw [hwas]
          unfold cw
          exact nI_ne0 (by omega) (by omega)
        rw [if_pos hcL, if_neg (show ¬ (1 : Int32) = 0 by decide), if_neg hw0, hwas, q_isClosed hL, ob, hcL, if_neg (show ¬ b2 true = 0 by decide), q_crossings hL hC, ob, show P3_crossings (wrec 8 C).1 (wrec 8 C).2.1 (wrec 8 L).1 (wrec 8 L).2.1 = _ from w_crossings hC hL, ob, crs_sym hL hC, ob]
        exact ih _ _ _ _
      · rw [if_neg hcL, if_pos rfl, ob]
        by_cases hw0 : was = 0
        · rw [if_pos hw0]
          exact ih _ _ _ _
        · have hwas : was = cw 8 L := by
            rcases hw with ⟨q, _⟩ | q
            · exact absurd q hw0
            · exact q
          rw [if_neg hw0, hwas, q_isClosed hL, ob, Bool.eq_false_iff.mpr hcL, if_pos b2_f]
          exact ih _ _ _ _
    · rw [Bool.eq_false_iff.mpr hcC, if_pos b2_f, if_neg (show ¬ (false = true) by decide), if_pos rfl, ob]
      exact ih _ _ _ _
/-- what the class' run tells: the law's own numbers, whatever stood there before -/
theorem d_run {m s : Nat} (hm : m ≤ 40) (hs : s < 2147483648) (t : Nat → Int32) : ∃ o S CL TR CR, P_drawn_19 (nI m) FU t (lI s) 0 0 0 0 0 = some (o, S, CL, TR, CR) ∧ ∀ d1 d2 d3 d4 d5 d6 d7 : Int32, ∃ a, P0_run d1 d2 d3 d4 d5 d6 d7 (nI m) (nI s) = some a ∧ a.1 = S ∧ a.2.1 = CL ∧ a.2.2.1 = TR ∧ a.2.2.2.1 = CR := by
  have ih := fun d1 d2 d3 d4 d5 d6 d7 => d_loop hm m 0 FU FU s z8 0 0 0 0 d1 d2 d3 d4 d5 d6 d7 (wrec 8 z8).2.1 (wrec 8 z8).2.2.1 (wrec 8 z8).2.2.2.1 (wrec 8 z8).2.2.2.2.1 (wrec 8 z8).2.2.2.2.2.1 (wrec 8 z8).2.2.2.2.2.2 t (by omega) (by unfold FU; omega) (by unfold FU; omega) hs z8_LW (Or.inl ⟨rfl, z8_clo⟩)
  obtain ⟨a0, o0, i1, i2⟩ := ih 0 0 0 0 0 0 0
  refine ⟨o0, _, _, _, _, i2, fun d1 d2 d3 d4 d5 d6 d7 => ?_⟩
  obtain ⟨a, o, j1, j2⟩ := ih d1 d2 d3 d4 d5 d6 d7
  have e := Option.some.inj (j2.symm.trans i2)
  have e1 := congrArg (fun z => z.2.1) e
  have e2 := congrArg (fun z => z.2.2.1) e
  have e3 := congrArg (fun z => z.2.2.2.1) e
  have e4 := congrArg (fun z => z.2.2.2.2) e
  refine ⟨a, ?_, e1, e2, e3, e4⟩
  unfold P0_run
  rw [e64 (by omega), z8_become, ob, show P0_run_33 (nI m) FU (lI s) 0 0 0 d1 d2 d3 d4 d5 d6 d7 (wrec 8 z8).1 (wrec 8 z8).2.1 (wrec 8 z8).2.2.1 (wrec 8 z8).2.2.2.1 (wrec 8 z8).2.2.2.2.1 (wrec 8 z8).2.2.2.2.2.1 (wrec 8 z8).2.2.2.2.2.2 0 = _ from j1, ob]
