-- THE ACTIONS
section
variable {zw zd zt codes : Nat → Int32} {rc rs cc x y : Int32} {wn n k k2 N M : Nat} {wv : Nat → Nat → Int32} {L T : Nat → Nat}
theorem l_cut (h : RS zw rc wn wv n) (hz : zd 0 = nI n) {p q : Nat} (p1 : 1 ≤ p) (p2 : p ≤ 99) (q0 : q < 99) {s0 : Int32} {s1 : Int32} (hat : P_at s1 s0 = some (nI q)) : DOK (P_does_J741 zw zd zt rc (zd 1) 0 0 0 0 0 codes wn wv (nI n) (nI p) s0 s1 1) := by
  have n6 := h.1
  have v0 : vx 0 2 := by decide
  have g1 := Nat.gcd_le_left (1 + q) (show 0 < p by omega)
  have g2 := Nat.gcd_pos_of_pos_left (1 + q) (show 0 < p by omega)
  unfold P_does_J741
  rw [hat, ob, show (1 : Int32) + nI q = nI (1 + q) from nI_add 1 q, cut_no (x := 0) (Or.inl (by decide)), ob]
  dsimp only
  rw [if_pos rfl, cut_no (x := 1) (y := 1) (Or.inr (Or.inr (Or.inr (Or.inr rfl)))), ob]
  dsimp only
  rw [if_pos rfl, cut_no (x := 100) (Or.inr (Or.inl (by decide))), ob]
  dsimp only
  rw [if_pos rfl, cut_42, ob]
  dsimp only
  rw [if_pos rfl, q_gcd (ok_nI (show p < 2 ^ 31 by omega)) (ok_nI (show 1 + q < 2 ^ 31 by omega)), na_nI (by omega), na_nI (by omega), ob]
  by_cases c1 : 1 < Nat.gcd p (1 + q)
  · rw [if_pos (show (1 : Int32) < nI (Nat.gcd p (1 + q)) from nI_lt (a := 1) c1 (by omega)), cut_gcd p1 p2 (by omega) (by omega) c1, ob]
    dsimp only
    rw [if_pos rfl]
    exact DOK_mk h hz
  · rw [if_neg (show ¬ (1 : Int32) < nI (Nat.gcd p (1 + q)) from fun w => c1 ((nI_ltI (a := 1) (by omega) (by omega)).mp w))]
    by_cases c2 : p = 1 + q
    · rw [if_pos (by rw [c2]), cut_no (Or.inr (Or.inr (Or.inr (Or.inr (show nI p = nI (1 + q) by rw [c2]))))), ob]
      dsimp only
      rw [if_pos rfl]
      exact DOK_mk h hz
    · have hg : Nat.gcd p (1 + q) = 1 := by omega
      obtain ⟨S, C, w, b1, b2, b3, b4, b5, b6, b7⟩ := c_both (p := p) (q := 1 + q) 99 p (1 + q) 0 FU FU (fun _ => 0) p1 (by omega) p2 (by omega) (by omega) (by unfold FU; omega) (by unfold FU; omega) (by omega) (fun i hi => by omega) hg (by show 1 * p + 0 * (1 + q) = p; omega) (by show 0 * p + 1 * (1 + q) = 1 + q; omega)
      have b5 := b5 c2
      have e1 : P_cutTo (nI p) (nI (1 + q)) = some w := by
        unfold P_cutTo
        rw [show P_cutTo_7 FU (nI p) (nI (1 + q)) 0 = _ from b2]
        rfl
      have hgo : P4_cut rc wn wv (nI p) (nI (1 + q)) = P4_addRoad rc wn wv (nI (bv C S)) (nI S) := cut_go p1 p2 (by omega) (by omega) hg c2 b1
      obtain ⟨e, zw', rc', wn', wv', a1, a2, a3⟩ : ∃ e zw' rc' wn' wv', Option.bind (P_size w) (fun r85 => P_comes zw (nI n) w r85) = some (e, zw') ∧ P4_addRoad rc wn wv (nI (bv C S)) (nI S) = some (e, rc', wn', wv') ∧ ((e = nI n ∧ RS zw' rc' wn' wv' (n + 1) ∧ n < 6 ∧ P4_end rc' wn' wv' (nI n) 0 = some (nI p) ∧ P4_end rc' wn' wv' (nI n) 1 = some (nI (1 + q))) ∨ (¬ e = nI n ∧ e < 0 ∧ RS zw' rc' wn' wv' n)) := by
        by_cases c3 : S ≤ 20
        · obtain ⟨d1, d2, d3, d4, d5⟩ := b6 c3
          obtain ⟨e, zw', rc', wn', wv', a1, a2, a3⟩ := add_comes (T := C) h (show S < 2 ^ 31 by omega) (bits := nI (bv C S)) (w := w) (fun _ => ⟨⟨by omega, c3, d2⟩, rfl, d1⟩)
          refine ⟨e, zw', rc', wn', wv', by rw [d5, ob]; exact a1, a2, ?_⟩
          rcases a3 with ⟨f1, f2, f3, f4⟩ | f
          · have hat := s_at f2 (show n < n + 1 by omega)
            refine Or.inl ⟨f1, f2, f4, ?_, ?_⟩
            · rw [s_end0 hat f3, mt_q4]
              simp only [q4]
              rw [nI_add, d3]
            · rw [s_end1 hat f3, mt_q4]
              simp only [q4]
              rw [nI_add, d4]
          · exact Or.inr f
        · obtain ⟨z, z1, z2, z3⟩ := b7 (by omega)
          refine ⟨-2000000103, zw, rc, wn, wv, ?_, add_long (by omega) (by omega), Or.inr ⟨fun w => n_neg (show n < 2 ^ 31 by omega) (by rw [← w]; decide), by decide, h⟩⟩
          rw [z3, ob]
          unfold P_comes
          rw [if_neg (show ¬ nI z ≤ (20 : Int32) from nI_ge (a := 20) (by omega) (by omega))]
      obtain ⟨zs, hzs⟩ : ∃ zs, P_size w = some zs := by
        cases hh : P_size w with
        | none =>
          rw [hh] at a1
          cases a1
        | some zs => exact ⟨zs, rfl⟩
      rw [hzs, ob] at a1
      rw [if_neg (fun w => c2 ((nI_eq (by omega) (by omega)).mp w)), e1, ob, hzs, ob, a1, ob]
      dsimp only
      rw [if_pos v0, if_pos v0, if_pos v0, hgo, a2, ob, ob]
      dsimp only
      rw [if_pos rfl, if_pos rfl]
      rcases a3 with ⟨f1, f2, f3, f4, f5⟩ | ⟨f1, f2, f3⟩
      · subst f1
        rw [if_pos rfl, if_neg (n_neg (by omega)), f4, ob, if_pos rfl, f5, ob, if_pos rfl]
        exact DOK_mk (zd := upd zd (Int32.toNatClampNeg 0) (zd (Int32.toNatClampNeg 0) + 1)) f2 (z_up hz)
      · rw [if_neg f1, if_pos f2]
        exact DOK_mk (zd := upd zd (Int32.toNatClampNeg 0) (zd (Int32.toNatClampNeg 0) + 0)) f3 (z_eq hz)
theorem l_J710 (h : RS zw rc wn wv n) (hz : zd 0 = nI n) (x4 : Int32) {b : Nat} (b0 : 0 < b) (b99 : b ≤ 99) : DOK (P_does_J710 zw zd zt rc (zd 1) 0 0 0 0 0 codes wn wv x4 (nI n) (nI b) x4 1) := by
  obtain ⟨p, hp, ep⟩ := q_at x4 b0 (by omega)
  obtain ⟨u, hu, eu⟩ := q_at (jshr x4 14) (n := 3) (by omega) (by omega)
  obtain ⟨q1, hq1, eq1⟩ := q_at (jshr x4 7) (n := 99) (by omega) (by omega)
  obtain ⟨q2, hq2, eq2⟩ := q_at (jshr x4 7) (n := 20) (by omega) (by omega)
  unfold P_does_J710
  rw [ep, ob, show P_at (jshr x4 14) 3 = _ from eu, ob, show (1 : Int32) + nI p = nI (1 + p) from nI_add 1 p]
  by_cases c : nI u = 0
  · rw [if_pos c]
    exact l_cut h hz (by omega) (by omega) (by omega) eq1
  · rw [if_neg c]
    exact l_cut h hz (by omega) (by omega) (show q2 < 99 by omega) eq2
theorem l_turn (h : RS zw rc wn wv n) (hz : zd 0 = nI n) {i : Nat} (hi : i < n) (x3 x4 s0 : Int32) : DOK (P_does_J50 zw zd zt rc (zd 1) 0 0 0 0 0 codes rs cc wn wv x3 x4 (nI n) 2 (nI i) s0) := by
  have n6 := h.1
  obtain ⟨N, L, hR⟩ := h.2.2.2 i hi
  have hL := hR.1
  have h1 := hL.1
  have h2 := hL.2.1
  have ha := s_at h hi
  have vi : vx (nI i) 6 := n_in (show i < 6 by omega) (by omega)
  obtain ⟨z, hzN, ez⟩ := q_at x4 h1 (by omega)
  have zk : zw (Int32.toNatClampNeg (nI i)) = cw N L := by
    rw [n_cl (by omega)]
    exact hR.2.1
  have uk : ∀ v : Int32, upd zw (Int32.toNatClampNeg (nI i)) v (Int32.toNatClampNeg (nI i)) = v := fun v => pk_us
  unfold P_does_J50
  rw [if_neg (by decide), if_neg (nI_ne0 (by omega) (by omega)), if_pos (by decide), if_pos vi, zk, q_size (by omega), ob, ez, ob, if_pos vi, ob, t_big ha hR, ob]
  dsimp only
  rw [if_pos rfl, t_m1 ha, ob]
  dsimp only
  rw [if_pos rfl, t_no (s_no h), ob]
  dsimp only
  rw [if_pos rfl, if_pos vi, q_turned hL (by omega), ob, if_pos vi, t_ok ha hR hzN, ob, if_pos vi, uk, q_period (rot_LW hL), ob]
  dsimp only
  rw [if_pos rfl, n_cl (by omega)]
  exact DOK_mk (RS_set h hi (rot_LW hL)) hz
theorem l_change (h : RS zw rc wn wv n) (hz : zd 0 = nI n) {i : Nat} (hi : i < n) (x3 x4 s0 : Int32) : DOK (P_does_J50 zw zd zt rc (zd 1) 0 0 0 0 0 codes rs cc wn wv x3 x4 (nI n) 3 (nI i) s0) := by
  have n6 := h.1
  obtain ⟨N, L, hR⟩ := h.2.2.2 i hi
  have hL := hR.1
  have h1 := hL.1
  have h2 := hL.2.1
  have ha := s_at h hi
  have vi : vx (nI i) 6 := n_in (show i < 6 by omega) (by omega)
  have v0 : vx 0 40 := by decide
  have v3 : vx 3 40 := by decide
  obtain ⟨z, hz3, ez⟩ := q_at x4 (n := 3) (by omega) (by omega)
  have zk : zw (Int32.toNatClampNeg (nI i)) = cw N L := by
    rw [n_cl (by omega)]
    exact hR.2.1
  have uk : ∀ v : Int32, upd zw (Int32.toNatClampNeg (nI i)) v (Int32.toNatClampNeg (nI i)) = v := fun v => pk_us
  unfold P_does_J50
  rw [if_neg (by decide), if_neg (nI_ne0 (by omega) (by omega)), if_neg (by decide), if_pos (by decide), show P_at x4 3 = _ from ez, ob]
  rcases (show z = 0 ∨ z = 1 ∨ z = 2 by omega) with rfl | rfl | rfl
  · have hT := rev_LW hL
    obtain ⟨t, ht, hTB⟩ := q_table hT zt
    have T0 : t (Int32.toNatClampNeg 0) = (mt (rev N L) N).1 := hTB.1
    have T3 : t (Int32.toNatClampNeg 3) = (mt (rev N L) N).2.2.2 := hTB.2.2.2
    rw [if_pos (by decide), if_pos vi, zk, q_rev hL, ob, if_pos vi, if_pos vi, uk, ht, ob, g_big ha, ob]
    dsimp only
    rw [if_pos rfl, g_no (s_no h), ob]
    dsimp only
    rw [if_pos rfl, g_ok ha hR (by decide) (by decide) hT (by rw [if_pos (by decide)]), ob, if_pos v0, if_pos v3, T0, T3]
    dsimp only
    rw [if_pos rfl, n_cl (by omega)]
    exact DOK_mk (RS_set h hi hT) hz
  · have hT := cpl_LW hL
    obtain ⟨t, ht, hTB⟩ := q_table hT zt
    have T0 : t (Int32.toNatClampNeg 0) = (mt (cpl L) N).1 := hTB.1
    have T3 : t (Int32.toNatClampNeg 3) = (mt (cpl L) N).2.2.2 := hTB.2.2.2
    rw [if_neg (by decide), if_pos (by decide), if_pos vi, zk, q_mirror hL, ob, if_pos vi, if_pos vi, uk, ht, ob, g_big ha, ob]
    dsimp only
    rw [if_pos rfl, g_no (s_no h), ob]
    dsimp only
    rw [if_pos rfl, g_ok ha hR (by decide) (by decide) hT (by rw [if_neg (by decide), if_pos (by decide)]), ob, if_pos v0, if_pos v3, T0, T3]
    dsimp only
    rw [if_pos rfl, n_cl (by omega)]
    exact DOK_mk (RS_set h hi hT) hz
  · have hT := rot_LW (k := lst N L) hL
    obtain ⟨t, ht, hTB⟩ := q_table hT zt
    have T0 : t (Int32.toNatClampNeg 0) = (mt (rot N (lst N L) L) N).1 := hTB.1
    have T3 : t (Int32.toNatClampNeg 3) = (mt (rot N (lst N L) L) N).2.2.2 := hTB.2.2.2
    rw [if_neg (by decide), if_neg (by decide), if_pos vi, zk, q_least hL, ob, if_pos vi, if_pos vi, uk, ht, ob, g_big ha, ob]
    dsimp only
    rw [if_pos rfl, g_no (s_no h), ob]
    dsimp only
    rw [if_pos rfl, g_ok ha hR (by decide) (by decide) hT (by rw [if_neg (by decide), if_neg (by decide)]), ob, if_pos v0, if_pos v3, T0, T3]
    dsimp only
    rw [if_pos rfl, n_cl (by omega)]
    exact DOK_mk (RS_set h hi hT) hz
theorem l_join (h : RS zw rc wn wv n) (hz : zd 0 = nI n) {i j : Nat} (hi : i < n) (hj : j < n) (x3 x4 : Int32) : DOK (P_does_J50 zw zd zt rc (zd 1) 0 0 0 0 0 codes rs cc wn wv x3 x4 (nI n) 4 (nI i) (nI j)) := by
  have n6 := h.1
  obtain ⟨N, L, hR⟩ := h.2.2.2 i hi
  obtain ⟨M, T, hS⟩ := h.2.2.2 j hj
  have hL := hR.1
  have hT := hS.1
  have h1 := hL.1
  have h2 := hL.2.1
  have h4 := hT.2.1
  have ha := s_at h hi
  have hb := s_at h hj
  have vi : vx (nI i) 6 := n_in (show i < 6 by omega) (by omega)
  have vj : vx (nI j) 6 := n_in (show j < 6 by omega) (by omega)
  have v0 : vx 0 2 := by decide
  have zk : zw (Int32.toNatClampNeg (nI i)) = cw N L := by
    rw [n_cl (by omega)]
    exact hR.2.1
  have zj : zw (Int32.toNatClampNeg (nI j)) = cw M T := by
    rw [n_cl (by omega)]
    exact hS.2.1
  unfold P_does_J50
  rw [if_neg (by decide), if_neg (nI_ne0 (by omega) (by omega)), if_neg (by decide), if_neg (by decide), if_pos (by decide), if_pos vi, zk, q_size (by omega), ob, if_pos vj, zj, q_size (by omega), ob, nI_add]
  by_cases c : N + M ≤ 20
  · obtain ⟨e, zw', rc', wn', wv', a1, a2, a3⟩ := add_comes (T := cat N L T) h (show N + M < 2 ^ 31 by omega) (bits := nI (bv (cat N L T) (N + M))) (w := cw (N + M) (cat N L T)) (fun _ => ⟨cat_LW hL hT c, rfl, rfl⟩)
    rw [if_pos (show nI (N + M) ≤ (20 : Int32) from nI_le (b := 20) c (by omega)), if_pos vi, if_pos vj, q_join hL hT c, ob, a1, ob]
    dsimp only
    rw [if_pos v0, if_pos v0, if_pos v0, a_no ha (s_no h), ob, ob]
    dsimp only
    rw [if_pos rfl, if_pos rfl, a_ok ha hR hb hS, a2, ob, ob]
    dsimp only
    rw [if_pos rfl, if_pos rfl]
    rcases a3 with ⟨f1, f2, f3, f4⟩ | ⟨f1, f2, f3⟩
    · rw [if_pos f1]
      exact DOK_mk (zd := upd zd (Int32.toNatClampNeg 0) (zd (Int32.toNatClampNeg 0) + 1)) f2 (z_up hz)
    · rw [if_neg f1]
      exact DOK_mk (zd := upd zd (Int32.toNatClampNeg 0) (zd (Int32.toNatClampNeg 0) + 0)) f3 (z_eq hz)
  · obtain ⟨e, zw', rc', wn', wv', a1, a2, a3⟩ := add_comes (T := cat N L T) h (show N + M < 2 ^ 31 by omega) (bits := nI (bv (cat N L T) (N + M))) (w := 0) (fun q => absurd q c)
    rw [if_neg (show ¬ nI (N + M) ≤ (20 : Int32) from nI_ge (a := 20) (by omega) (by omega)), a1, ob]
    dsimp only
    rw [if_pos v0, if_pos v0, if_pos v0, a_no ha (s_no h), ob, ob]
    dsimp only
    rw [if_pos rfl, if_pos rfl, a_ok ha hR hb hS, a2, ob, ob]
    dsimp only
    rw [if_pos rfl, if_pos rfl]
    rcases a3 with ⟨f1, f2, f3, f4⟩ | ⟨f1, f2, f3⟩
    · rw [if_pos f1]
      exact DOK_mk (zd := upd zd (Int32.toNatClampNeg 0) (zd (Int32.toNatClampNeg 0) + 1)) f2 (z_up hz)
    · rw [if_neg f1]
      exact DOK_mk (zd := upd zd (Int32.toNatClampNeg 0) (zd (Int32.toNatClampNeg 0) + 0)) f3 (z_eq hz)
theorem l_times (h : RS zw rc wn wv n) (hz : zd 0 = nI n) {i : Nat} (hi : i < n) (x3 x4 s0 : Int32) : DOK (P_does_J50 zw zd zt rc (zd 1) 0 0 0 0 0 codes rs cc wn wv x3 x4 (nI n) 5 (nI i) s0) := by
  have n6 := h.1
  obtain ⟨N, L, hR⟩ := h.2.2.2 i hi
  have hL := hR.1
  have h1 := hL.1
  have h2 := hL.2.1
  have ha := s_at h hi
  have vi : vx (nI i) 6 := n_in (show i < 6 by omega) (by omega)
  have v0 : vx 0 2 := by decide
  obtain ⟨z, hz4, ez⟩ := q_at x4 (n := 4) (by omega) (by omega)
  have zk : zw (Int32.toNatClampNeg (nI i)) = cw N L := by
    rw [n_cl (by omega)]
    exact hR.2.1
  have hb : (2 + z) * N ≤ 5 * 20 := Nat.mul_le_mul (by omega) h2
  have hb1 : 1 * 1 ≤ (2 + z) * N := Nat.mul_le_mul (by omega) h1
  obtain ⟨w, hw, hwT⟩ : ∃ w, P_does_548 zw (nI i) (nI (2 + z)) FU (cw N L) 1 = some w ∧ ((2 + z) * N ≤ 20 → w = cw ((2 + z) * N) (rpt N L (2 + z))) := by
    by_cases c : (2 + z) * N ≤ 20
    · have e := l_548 (zw := zw) (show i < 6 by omega) hL hR.2.1 (show 2 + z ≤ 5 by omega) c (1 + z) 1 FU (by omega) (by unfold FU; omega) (by omega)
      have e1 : cw (1 * N) (rpt N L 1) = cw N L := by
        rw [Nat.one_mul]
        show cw N (cat (0 * N) (rpt N L 0) L) = cw N L
        rw [Nat.zero_mul, cat_0]
      rw [e1] at e
      exact ⟨_, e, fun _ => rfl⟩
    · exact ⟨_, l_548s (show i < 6 by omega) hL hR.2.1 (by omega) (by omega) (by omega), fun q => absurd q c⟩
  obtain ⟨e, zw', rc', wn', wv', a1, a2, a3⟩ := add_comes (T := rpt N L (2 + z)) h (show (2 + z) * N < 2 ^ 31 by omega) (bits := nI (bv (rpt N L (2 + z)) ((2 + z) * N))) (w := w) (fun c => ⟨⟨by omega, c, rpt_lt hL.2.2 (2 + z)⟩, rfl, hwT c⟩)
  unfold P_does_J50
  rw [if_neg (by decide), if_neg (nI_ne0 (by omega) (by omega)), if_neg (by decide), if_neg (by decide), if_neg (by decide), if_pos (by decide), show P_at x4 4 = _ from ez, ob, if_pos vi, zk, show (2 : Int32) + nI z = nI (2 + z) from nI_add 2 z, hw, ob, if_pos vi, q_size (by omega), ob, pk_mul, a1, ob]
  dsimp only
  rw [if_pos v0, if_pos v0, if_pos v0, m_1 ha, ob, ob]
  dsimp only
  rw [if_pos rfl, if_pos rfl, m_6 ha, ob, ob]
  dsimp only
  rw [if_pos rfl, if_pos rfl, m_no (s_no h), ob, ob]
  dsimp only
  rw [if_pos rfl, if_pos rfl, m_ok ha hR (by omega) (by omega), a2, ob, ob]
  dsimp only
  rw [if_pos rfl, if_pos rfl]
  rcases a3 with ⟨f1, f2, f3, f4⟩ | ⟨f1, f2, f3⟩
  · rw [if_pos f1]
    exact DOK_mk (zd := upd zd (Int32.toNatClampNeg 0) (zd (Int32.toNatClampNeg 0) + 1)) f2 (z_up hz)
  · rw [if_neg f1]
    exact DOK_mk (zd := upd zd (Int32.toNatClampNeg 0) (zd (Int32.toNatClampNeg 0) + 0)) f3 (z_eq hz)
theorem l_drop (h : RS zw rc wn wv n) (hz : zd 0 = nI n) {i : Nat} (hi : i < n) (x3 x4 s0 : Int32) : DOK (P_does_J50 zw zd zt rc (zd 1) 0 0 0 0 0 codes rs cc wn wv x3 x4 (nI n) 8 (nI i) s0) := by
  have n6 := h.1
  have v0 : vx 0 2 := by decide
  have e1 : nI n - 1 = nI (n - 1) := n_sub (b := 1) (by omega)
  have e2 : P4_drop rc = some (nI (n - 1), nI (n - 1)) := by
    unfold P4_drop
    rw [h.2.2.1, if_pos (show (0 : Int32) < nI n from nI_lt (a := 0) (by omega) (by omega)), e1]
  have z0 : (upd zd (Int32.toNatClampNeg 0) (zd (Int32.toNatClampNeg 0) - 1)) 0 = nI (n - 1) := by
    show zd 0 - 1 = nI (n - 1)
    rw [hz, e1]
  have hd : RS zw (nI (n - 1)) wn wv (n - 1) := ⟨by omega, by have := h.2.1; omega, rfl, fun k hk => h.2.2.2 k (by omega)⟩
  unfold P_does_J50
  rw [if_neg (by decide), if_neg (nI_ne0 (by omega) (by omega)), if_neg (by decide), if_neg (by decide), if_neg (by decide), if_neg (by decide), if_pos (by decide), if_pos (by decide), if_pos v0, if_pos v0, e2, ob, if_pos v0]
  dsimp only
  rw [if_pos (show nI (n - 1) = upd zd (Int32.toNatClampNeg 0) (zd (Int32.toNatClampNeg 0) - 1) (Int32.toNatClampNeg 0) from z0.symm)]
  exact DOK_mk (zd := upd zd (Int32.toNatClampNeg 0) (zd (Int32.toNatClampNeg 0) - 1)) hd z0
theorem l_alikes (h : RS zw rc wn wv n) (hz : zd 0 = nI n) {i j : Nat} (hi : i < n) (hj : j < n) (x3 x4 : Int32) : DOK (P_does_J50 zw zd zt rc (zd 1) 0 0 0 0 0 codes rs cc wn wv x3 x4 (nI n) 9 (nI i) (nI j)) := by
  have n6 := h.1
  obtain ⟨N, L, hR⟩ := h.2.2.2 i hi
  obtain ⟨M, T, hS⟩ := h.2.2.2 j hj
  have hL := hR.1
  have hT := hS.1
  have h2 := hL.2.1
  have h4 := hT.2.1
  have ht := (tell_alk hL hT).1
  have vi : vx (nI i) 6 := n_in (show i < 6 by omega) (by omega)
  have vj : vx (nI j) 6 := n_in (show j < 6 by omega) (by omega)
  have zk : zw (Int32.toNatClampNeg (nI i)) = cw N L := by
    rw [n_cl (by omega)]
    exact hR.2.1
  have zj : zw (Int32.toNatClampNeg (nI j)) = cw M T := by
    rw [n_cl (by omega)]
    exact hS.2.1
  unfold P_does_J50
  rw [if_neg (by decide), if_neg (nI_ne0 (by omega) (by omega)), if_neg (by decide), if_neg (by decide), if_neg (by decide), if_neg (by decide), if_pos (by decide), if_neg (by decide), s_alike (s_at h hi) hR (s_at h hj) hS, ob, if_pos vi, if_pos vi, zk, q_size (by omega), ob, ob, if_pos vj, if_pos vj, zj, q_size (by omega), ob, ob, if_pos vi, if_pos vi, if_pos vj, if_pos vj, q_alike hL hT, ob, ob]
  by_cases c : tell N L M T < 0
  · have a : alk N L M T = false := Bool.eq_false_iff.mpr (fun q => ht.mp q c)
    rw [if_pos c, a, if_pos b2_f]
    by_cases d : nI N = nI M
    · rw [if_pos d]
      exact DOK_mk h hz
    · rw [if_neg d]
      exact DOK_mk h hz
  · have a := ht.mpr c
    have e : N = M := (of_decide_eq_true a).1
    rw [if_neg c, a, if_neg (show ¬ b2 true = 0 by decide), if_pos (show nI N = nI M by rw [e])]
    exact DOK_mk h hz
theorem l_50 (h : RS zw rc wn wv n) (hz : zd 0 = nI n) {i j : Nat} (hi : i < n) (hj : j < n) (x3 x4 : Int32) {u : Nat} (hu : u < 10) : DOK (P_does_J50 zw zd zt rc (zd 1) 0 0 0 0 0 codes rs cc wn wv x3 x4 (nI n) (nI u) (nI i) (nI j)) := by
  have n6 := h.1
  have n0 : ¬ nI n = 0 := nI_ne0 (by omega) (by omega)
  have read : nI u < 2 → DOK (P_does_J50 zw zd zt rc (zd 1) 0 0 0 0 0 codes rs cc wn wv x3 x4 (nI n) (nI u) (nI i) (nI j)) := fun q => by
    unfold P_does_J50
    rw [if_pos q]
    exact l_63 h hz x3 x4
  have cut : ¬ nI u < 2 → ¬ nI u = 2 → ¬ nI u = 3 → ¬ nI u = 4 → ¬ nI u = 5 → ¬ 8 ≤ nI u → DOK (P_does_J50 zw zd zt rc (zd 1) 0 0 0 0 0 codes rs cc wn wv x3 x4 (nI n) (nI u) (nI i) (nI j)) := fun q1 q2 q3 q4 q5 q6 => by
    obtain ⟨z, hz3, ez⟩ := q_at (jshr x4 14) (n := 3) (by omega) (by omega)
    unfold P_does_J50
    rw [if_neg q1, if_neg n0, if_neg q2, if_neg q3, if_neg q4, if_neg q5, if_neg q6, show P_at (jshr x4 14) 3 = _ from ez, ob]
    by_cases c : nI z = 0
    · rw [if_pos c]
      exact l_J710 h hz x4 (b := 99) (by omega) (by omega)
    · rw [if_neg c]
      exact l_J710 h hz x4 (b := 20) (by omega) (by omega)
  rcases (show u = 0 ∨ u = 1 ∨ u = 2 ∨ u = 3 ∨ u = 4 ∨ u = 5 ∨ u = 6 ∨ u = 7 ∨ u = 8 ∨ u = 9 by omega) with rfl | rfl | rfl | rfl | rfl | rfl | rfl | rfl | rfl | rfl
  · exact read (by decide)
  · exact read (by decide)
  · exact l_turn h hz hi x3 x4 _
  · exact l_change h hz hi x3 x4 _
  · exact l_join h hz hi hj x3 x4
  · exact l_times h hz hi x3 x4 _
  · exact cut (by decide) (by decide) (by decide) (by decide) (by decide) (by decide)
  · exact cut (by decide) (by decide) (by decide) (by decide) (by decide) (by decide)
  · exact l_drop h hz hi x3 x4 _
  · exact l_alikes h hz hi hj x3 x4
theorem l_does (h : RS zw rc wn wv n) (hz : zd 0 = nI n) (x3 x4 : Int32) : DOK (P_does zw zd zt rc (zd 1) 0 0 0 0 0 codes rs cc wn wv x3 x4) := by
  have n6 := h.1
  have Z0 : zd (Int32.toNatClampNeg 0) = nI n := hz
  obtain ⟨u, hu, eu⟩ := q_at x3 (n := 10) (by omega) (by omega)
  unfold P_does
  rw [if_pos (by decide), show P_at x3 10 = _ from eu, ob, Z0]
  by_cases c : n = 0
  · subst c
    rw [if_pos (by decide)]
    unfold P_does_J30
    rw [if_pos (by decide)]
    unfold P_does_J50
    by_cases d : nI u < 2
    · rw [if_pos d]
      exact l_63 h hz x3 x4
    · rw [if_neg d, if_pos (by decide)]
      exact l_63 h hz x3 x4
  · have n0 : ¬ nI n = 0 := nI_ne0 (by omega) (by omega)
    obtain ⟨i, hi, ei⟩ := q_at (jshr x3 4) (n := n) (by omega) (by omega)
    obtain ⟨j, hj, ej⟩ := q_at (jshr x3 7) (n := n) (by omega) (by omega)
    rw [if_neg n0, ei, ob]
    unfold P_does_J30
    rw [if_neg n0, ej, ob]
    exact l_50 h hz hi hj x3 x4 hu
end
