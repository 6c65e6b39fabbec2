-- ROAD: of each road what it is by its letters
section
variable {zw t : Nat → Int32} {rc : Int32} {wn n k N : Nat} {wv : Nat → Nat → Int32} {L : Nat → Nat}
theorem r235 (ha : P4_roadAt rc wn (nI k) = some (some k)) (hR : RW zw wv k N L) : ∀ (j i f : Nat), i + j = N → j < f → P_road_235 t rc wn wv (nI k) (cw N L) (nI N) f (nI i) = some (Sum.inr ())
  | 0, i, f, hi, hf => by
    obtain ⟨f, rfl⟩ : ∃ z, f = z + 1 := ⟨f - 1, by omega⟩
    have h2 := hR.1.2.1
    rw [P_road_235, if_pos (nI_le (by omega) (by omega))]
  | j + 1, i, f, hi, hf => by
    obtain ⟨f, rfl⟩ : ∃ z, f = z + 1 := ⟨f - 1, by omega⟩
    have h2 := hR.1.2.1
    have hl := hR.1.2.2 i (by omega)
    rw [P_road_235, if_neg (nI_ge (by omega) (by omega)), s_sign ha hR (by omega), ob, q_bit (by omega) hR.1.2.2 (by omega), ob, nI_1]
    rcases (show L i = 0 ∨ L i = 1 by omega) with q | q
    · rw [q, if_neg (by decide), if_pos (by decide)]
      exact r235 ha hR j (i + 1) f (by omega) (by omega)
    · rw [q, if_pos (by decide), if_pos (by decide)]
      exact r235 ha hR j (i + 1) f (by omega) (by omega)
theorem r280 (ha : P4_roadAt rc wn (nI k) = some (some k)) (hR : RW zw wv k N L) (ht : TB t (mt L N)) : ∀ (j i f : Nat), i + j = 4 → j < f → P_road_280 t rc wn wv (nI k) f (nI i) = some (Sum.inr ())
  | 0, i, f, hi, hf => by
    obtain ⟨f, rfl⟩ : ∃ z, f = z + 1 := ⟨f - 1, by omega⟩
    rw [P_road_280, if_pos (show (4 : Int32) ≤ nI i from nI_le (a := 4) (by omega) (by omega))]
  | j + 1, i, f, hi, hf => by
    obtain ⟨f, rfl⟩ : ∃ z, f = z + 1 := ⟨f - 1, by omega⟩
    rw [P_road_280, if_neg (show ¬ (4 : Int32) ≤ nI i from nI_ge (b := 4) (by omega) (by omega)), s_table ha hR ht (by omega), ob, if_pos (n_in (by omega) (by omega)), n_cl (by omega), if_pos rfl, nI_1]
    exact r280 ha hR ht j (i + 1) f (by omega) (by omega)
theorem j215 (h : RS zw rc wn wv n) (hk : k < n) (hR : RW zw wv k N L) (ht : TB t (mt L N)) (s : Int32) : P_road_J215 t rc wn wv (nI k) (cw N L) (nI N) s s = some (1, t) := by
  have ha := s_at h hk
  have hL := hR.1
  have h2 := hL.2.1
  have T0 : t (Int32.toNatClampNeg 0) = (mt L N).1 := ht.1
  have T1 : t (Int32.toNatClampNeg 1) = (mt L N).2.1 := ht.2.1
  have T2 : t (Int32.toNatClampNeg 2) = (mt L N).2.2.1 := ht.2.2.1
  have T3 : t (Int32.toNatClampNeg 3) = (mt L N).2.2.2 := ht.2.2.2
  have v0 : vx 0 40 := by decide
  have v1 : vx 1 40 := by decide
  have v2 : vx 2 40 := by decide
  have v3 : vx 3 40 := by decide
  have hs := mt_small hL
  have hd := mtN_det L N
  have D1 : lg_cmp (((Int32.toInt64 (mt L N).1) * (Int32.toInt64 (mt L N).2.2.2)) - ((Int32.toInt64 (mt L N).2.1) * (Int32.toInt64 (mt L N).2.2.1))) 1 = 0 := by
    rw [mt_q4]
    simp only [q4]
    rw [e64 (by omega), e64 (by omega), e64 (by omega), e64 (by omega), l_mul, l_mul, hd, l_sub (by omega), Nat.add_sub_cancel_left]
    exact lgc_self _
  have D2 : P_gcd ((mt L N).1 + (mt L N).2.1) ((mt L N).2.2.1 + (mt L N).2.2.2) = some 1 := by
    rw [mt_q4]
    simp only [q4]
    rw [nI_add, nI_add, q_gcd (ok_nI (by omega)) (ok_nI (by omega)), na_nI (by omega), na_nI (by omega), end_gcd]
    rfl
  unfold P_road_J215
  rw [if_pos rfl, s_road10 ha, ob, if_pos rfl, show P_road_235 t rc wn wv (nI k) (cw N L) (nI N) FU 0 = _ from r235 ha hR N 0 FU (by omega) (by unfold FU; omega), sb0_r, show P_road_280 t rc wn wv (nI k) FU 0 = _ from r280 ha hR ht 4 0 FU (by omega) (by unfold FU; omega), sb0_r]
  rw [if_pos v0, if_pos v3, if_pos v1, if_pos v2, T0, T1, T2, T3, if_pos D1, s_end0 ha hR, ob, if_pos v0, if_pos v1, if_pos rfl, s_end1 ha hR, ob, if_pos v2, if_pos v3, if_pos rfl, if_pos v0, if_pos v1, if_pos v2, if_pos v3, D2, ob, if_pos rfl, q_isClosed hL, ob]
  cases hc : clo N L with
  | false =>
    rw [if_pos b2_f, s_formS ha hR hc, ob, if_pos rfl, s_form5 ha, ob, if_pos rfl, s_signN ha hR, ob, if_pos rfl, s_signm ha, ob, if_pos rfl]
  | true =>
    obtain ⟨⟨g, g1, g2, hg⟩, h0, o1, o2, o3⟩ := grd_facts hL hc
    obtain ⟨F1, F2, F3⟩ := form_facts hL hc
    have e1 : P_gcd (mt L N).2.2.1 ((mt L N).2.2.2 - (mt L N).1) = some (nI g) := by rw [q_gcd o1 o2, hg]
    have e2 : P_gcd (nI g) (mt L N).2.1 = some (grd N L) := by
      rw [q_gcd (ok_nI g2) o3, na_nI g2]
      unfold grd
      rw [hg]
    have f0 : frm N L 0 = (mt L N).2.2.1 / grd N L := rfl
    have f1 : frm N L 1 = ((mt L N).2.2.2 - (mt L N).1) / grd N L := rfl
    have f2 : frm N L 2 = (-(mt L N).2.1) / grd N L := rfl
    have f3 : frm N L 3 = grd N L := rfl
    have f4 : frm N L 4 = ((((mt L N).2.2.2 - (mt L N).1) / grd N L) * (((mt L N).2.2.2 - (mt L N).1) / grd N L)) - ((4 * ((mt L N).2.2.1 / grd N L)) * ((-(mt L N).2.1) / grd N L)) := rfl
    rw [if_neg (show ¬ b2 true = 0 by decide), if_pos v2, if_pos v3, if_pos v0, e1, ob, if_pos v1, e2, ob, if_pos v2, if_pos h0, if_pos v3, if_pos v0, if_pos h0, if_pos v1, if_pos h0, if_pos v0, if_pos v3]
    rw [s_form ha hR hc (y := 0) (by decide) (by decide), ob, f0, if_pos rfl, s_form ha hR hc (y := 1) (by decide) (by decide), ob, f1, if_pos rfl, s_form ha hR hc (y := 2) (by decide) (by decide), ob, f2, if_pos rfl, s_form ha hR hc (y := 3) (by decide) (by decide), ob, f3, if_pos rfl, s_form ha hR hc (y := 4) (by decide) (by decide), ob, f4, if_pos rfl]
    rw [if_neg F1, if_neg F2, if_pos F3, s_signN ha hR, ob, if_pos rfl]
theorem j186 (h : RS zw rc wn wv n) (hk : k < n) (hR : RW zw wv k N L) (ht : TB t (mt L N)) (s : Int32) : P_road_J186 t rc wn wv (nI k) (cw N L) (nI N) s s = some (1, t) := by
  have hL := hR.1
  have hC := cpl_LW (rev_LW hL)
  have hC2 : rev N (cpl L) = cpl (rev N L) := rfl
  unfold P_road_J186
  rw [if_pos rfl, s_road9 (s_at h hk) hR, ob, q_mirror hL, ob, q_rev (cpl_LW hL), ob, hC2, q_alike hL hC, ob, alk_conj hL hC]
  cases conj N L (cpl (rev N L)) with
  | false =>
    rw [if_pos b2_f]
    exact j215 h hk hR ht 0
  | true =>
    rw [if_neg (show ¬ b2 true = 0 by decide)]
    exact j215 h hk hR ht 1
theorem j160 (h : RS zw rc wn wv n) (hk : k < n) (hR : RW zw wv k N L) (ht : TB t (mt L N)) (s : Int32) : P_road_J160 t rc wn wv (nI k) (cw N L) (nI N) s s = some (1, t) := by
  have hL := hR.1
  unfold P_road_J160
  rw [if_pos rfl, s_road8 (s_at h hk) hR, ob, q_mirror hL, ob, q_alike hL (cpl_LW hL), ob, alk_conj hL (cpl_LW hL)]
  cases conj N L (cpl L) with
  | false =>
    rw [if_pos b2_f]
    exact j186 h hk hR ht 0
  | true =>
    rw [if_neg (show ¬ b2 true = 0 by decide)]
    exact j186 h hk hR ht 1
theorem j132 (h : RS zw rc wn wv n) (hk : k < n) (hR : RW zw wv k N L) (ht : TB t (mt L N)) (s : Int32) : P_road_J132 t rc wn wv (nI k) (cw N L) (nI N) s s = some (1, t) := by
  have hL := hR.1
  unfold P_road_J132
  rw [if_pos rfl, s_road7 (s_at h hk) hR, ob, q_rev hL, ob, q_alike hL (rev_LW hL), ob, alk_conj hL (rev_LW hL)]
  cases conj N L (rev N L) with
  | false =>
    rw [if_pos b2_f]
    exact j160 h hk hR ht 0
  | true =>
    rw [if_neg (show ¬ b2 true = 0 by decide)]
    exact j160 h hk hR ht 1
theorem l_road (h : RS zw rc wn wv n) (hk : k < n) (hR : RW zw wv k N L) (t0 : Nat → Int32) : ∃ o, P_road t0 rc wn wv (nI k) (cw N L) = some (1, o) := by
  have ha := s_at h hk
  have hL := hR.1
  have h2 := hL.2.1
  obtain ⟨t, ht, hT⟩ := q_table hL t0
  have T0 : t (Int32.toNatClampNeg 0) = (mt L N).1 := hT.1
  have T3 : t (Int32.toNatClampNeg 3) = (mt L N).2.2.2 := hT.2.2.2
  refine ⟨t, ?_⟩
  unfold P_road
  rw [q_size (by omega), ob, q_place hL, ob, ht, ob, s_road0 ha hR, ob, if_pos rfl, s_road1 ha hR, ob, q_rights hL, ob, if_pos rfl, s_road2 ha hR, ob, ob, if_pos rfl, s_road3 ha hR, ob, q_period hL, ob, if_pos rfl, s_road4 ha hR, ob, if_pos rfl, s_road5 ha hR, ob, if_pos (by decide), if_pos (by decide), T0, T3, if_pos rfl, s_road6 ha hR, ob, q_isClosed hL, ob]
  cases clo N L with
  | false =>
    rw [if_pos b2_f]
    exact j132 h hk hR hT 0
  | true =>
    rw [if_neg (show ¬ b2 true = 0 by decide)]
    exact j132 h hk hR hT 1
-- STANDS: the roads, one beside the other
theorem i_closed (ha : P4_roadAt rc wn (nI k) = some (some k)) (hR : RW zw wv k N L) : P4_isClosedRoad rc wn wv (nI k) = some (b2 (clo N L)) := by
  obtain ⟨hL, -, w0, w1, w2, w3, w4, w5, w6⟩ := hR
  unfold P4_isClosedRoad
  rw [ha, ob]
  simp only []
  rw [w0, w2, w_isClosed hL, ob]
  cases clo N L <;> rfl
end
/-- the turns told, from b on -/
def tv (p : Nat → Bool) (N b : Nat) : Int32 := if fnd p b (N - b) < N then nI (fnd p b (N - b)) else (-2000000001)
theorem tv_step (p : Nat → Bool) {N b : Nat} (h : b < N) : tv p N b = if p b = true then nI b else tv p N (b + 1) := by
  unfold tv
  rw [show N - b = (N - (b + 1)) + 1 by omega, fnd]
  by_cases q : p b = true
  · rw [if_pos q, if_pos q, if_pos h]
  · rw [if_neg q, if_neg q]
theorem tv_N (p : Nat → Bool) (N : Nat) : tv p N N = (-2000000001) := by
  unfold tv
  rw [Nat.sub_self, fnd, if_neg (Nat.lt_irrefl N)]
theorem l_133 {zw : Nat → Int32} {k e N M : Nat} {L T : Nat → Nat} (hk : k < 6) (he : e < 6) (hL : LW N L) (hT : LW M T) (h1 : zw k = cw N L) (h2 : zw e = cw M T) : ∀ (b f : Nat), b < N → b + 1 < f → P_stands_133 zw (nI k) (nI e) f (tv (fun i => decide (cw N (rot N i L) = cw M T)) N (b + 1)) (nI b) = some (tv (fun i => decide (cw N (rot N i L) = cw M T)) N 0) := by
  intro b
  induction b with
  | zero =>
    intro f hb hf
    obtain ⟨f, rfl⟩ : ∃ z, f = z + 2 := ⟨f - 2, by omega⟩
    have h3 := hL.2.1
    rw [P_stands_133, if_neg (n_neg (by omega)), if_pos (n_in hk (by omega)), n_cl (by omega), h1, q_turned hL (by omega), ob, if_pos (n_in he (by omega)), n_cl (by omega), h2, tv_step _ hb]
    by_cases q : cw N (rot N 0 L) = cw M T
    · rw [if_pos q, P_stands_133, if_pos (by decide), if_pos (decide_eq_true q)]
    · rw [if_neg q, P_stands_133, if_pos (by decide), if_neg (by rw [decide_eq_true_iff]; exact q)]
  | succ b ih =>
    intro f hb hf
    obtain ⟨f, rfl⟩ : ∃ z, f = z + 1 := ⟨f - 1, by omega⟩
    have h3 := hL.2.1
    have ih := ih f (by omega) (by omega)
    rw [tv_step _ hb] at ih
    rw [P_stands_133, if_neg (n_neg (by omega)), if_pos (n_in hk (by omega)), n_cl (by omega), h1, q_turned hL (by omega), ob, if_pos (n_in he (by omega)), n_cl (by omega), h2, pk_m1]
    by_cases q : cw N (rot N (b + 1) L) = cw M T
    · rw [if_pos (decide_eq_true q)] at ih
      rw [if_pos q]
      exact ih
    · rw [if_neg (by rw [decide_eq_true_iff]; exact q)] at ih
      rw [if_neg q]
      exact ih
theorem tv_tell {N M : Nat} {L T : Nat → Nat} (hL : LW N L) (hT : LW M T) : tv (fun i => decide (cw N (rot N i L) = cw M T)) N 0 = tell N L M T := by
  unfold tv tell
  rw [Nat.sub_zero]
  by_cases q : N = M
  · subst q
    rw [fnd_congr (q := eqr N L T) N 0 (fun i _ _ => by
      show decide _ = decide _
      rw [Bool.eq_iff_iff, decide_eq_true_iff, decide_eq_true_iff]
      exact cw_iff (rot_LW hL) hT)]
    by_cases r : fnd (eqr N L T) 0 N < N
    · rw [if_pos r, if_pos ⟨rfl, r⟩]
    · rw [if_neg r, if_neg (fun w => r w.2)]
  · have hne : ¬ fnd (fun i => decide (cw N (rot N i L) = cw M T)) 0 N < N := fun w => by
      have h := (fnd_iff (fun i => decide (cw N (rot N i L) = cw M T)) N 0).mp (by omega)
      obtain ⟨i, -, -, hi⟩ := h
      exact cw_ne (rot_LW hL) hT q (of_decide_eq_true hi)
    rw [if_neg hne, if_neg (fun w => q w.1)]
section
variable {zw : Nat → Int32} {rc : Int32} {wn n k N : Nat} {wv : Nat → Nat → Int32} {L : Nat → Nat}
theorem l_112 (h : RS zw rc wn wv n) (hk : k < n) (hR : RW zw wv k N L) (t : Nat → Int32) : ∀ (j e f : Nat), e + j = n → j < f → P_stands_112 zw t rc wn wv (nI n) (nI k) f (nI e) = some (Sum.inr ())
  | 0, e, f, he, hf => by
    obtain ⟨f, rfl⟩ : ∃ z, f = z + 1 := ⟨f - 1, by omega⟩
    have h6 := h.1
    rw [P_stands_112, if_pos (nI_le (by omega) (by omega))]
  | j + 1, e, f, he, hf => by
    obtain ⟨f, rfl⟩ : ∃ z, f = z + 1 := ⟨f - 1, by omega⟩
    have h6 := h.1
    have h1 := hR.1.1
    have h2 := hR.1.2.1
    obtain ⟨M, T, hS⟩ := h.2.2.2 e (by omega)
    have hl := l_133 (show k < 6 by omega) (show e < 6 by omega) hR.1 hS.1 hR.2.1 hS.2.1 (N - 1) FU (by omega) (by unfold FU; omega)
    rw [show N - 1 + 1 = N by omega, tv_N, tv_tell hR.1 hS.1] at hl
    rw [P_stands_112, if_neg (nI_ge (show e < n by omega) (by omega)), if_pos (n_in (show k < 6 by omega) (by omega)), n_cl (by omega), hR.2.1, q_size (by omega), ob, show nI N - 1 = nI (N - 1) from n_sub (b := 1) h1, hl, ob, s_alike (s_at h hk) hR (s_at h (by omega)) hS, ob, if_pos rfl, nI_1]
    exact l_112 h hk hR t j (e + 1) f (by omega) (by omega)
/-- no road ahead of k is a turn of it -/
def fst1 (zw : Nat → Int32) (k : Nat) : Nat → Bool
  | 0 => true
  | e + 1 => fst1 zw k e && decide (P_alike (zw k) (zw e) = some 0)
theorem alk_dec {k2 M : Nat} {T : Nat → Nat} (hR : RW zw wv k N L) (hS : RW zw wv k2 M T) : decide (P_alike (zw k) (zw k2) = some 0) = ! alk N L M T := by
  rw [hR.2.1, hS.2.1, q_alike hR.1 hS.1]
  cases alk N L M T
  · rfl
  · rfl
theorem l_57 (h : RS zw rc wn wv n) (hk : k < n) (hR : RW zw wv k N L) : ∀ (j e f : Nat), e + j = k → j < f → P_stands_57 zw (nI k) f (b2 (fst1 zw k e)) (nI e) = some (b2 (fst1 zw k k))
  | 0, e, f, he, hf => by
    obtain ⟨f, rfl⟩ : ∃ z, f = z + 1 := ⟨f - 1, by omega⟩
    have h6 := h.1
    rw [P_stands_57, if_pos (nI_le (by omega) (by omega)), show e = k by omega]
  | j + 1, e, f, he, hf => by
    obtain ⟨f, rfl⟩ : ∃ z, f = z + 1 := ⟨f - 1, by omega⟩
    have h6 := h.1
    obtain ⟨M, T, hS⟩ := h.2.2.2 e (by omega)
    have ih := l_57 h hk hR j (e + 1) f (by omega) (by omega)
    rw [fst1, alk_dec hR hS] at ih
    rw [P_stands_57, if_neg (nI_ge (show e < k by omega) (by omega)), if_pos (n_in (show k < 6 by omega) (by omega)), if_pos (n_in (show e < 6 by omega) (by omega)), n_cl (by omega), n_cl (by omega), hR.2.1, hS.2.1, q_alike hR.1 hS.1, ob, nI_1]
    cases ha : alk N L M T with
    | false =>
      rw [ha] at ih
      rw [if_pos b2_f]
      cases hf1 : fst1 zw k e with
      | false =>
        rw [hf1] at ih
        exact ih
      | true =>
        rw [hf1] at ih
        exact ih
    | true =>
      rw [ha] at ih
      rw [if_neg (show ¬ b2 true = 0 by decide)]
      cases hf1 : fst1 zw k e with
      | false =>
        rw [hf1] at ih
        exact ih
      | true =>
        rw [hf1] at ih
        exact ih
theorem l_first (h : RS zw rc wn wv n) (hk : k < n) (hR : RW zw wv k N L) : ∀ (j e f : Nat), e + j = k → j < f → fst1 zw k e = true → P4_isFirstOfClass_2 rc wn wv (nI k) f (nI e) = some (b2 (fst1 zw k k))
  | 0, e, f, he, hf, h1 => by
    obtain ⟨f, rfl⟩ : ∃ z, f = z + 1 := ⟨f - 1, by omega⟩
    have h6 := h.1
    obtain rfl : e = k := by omega
    rw [P4_isFirstOfClass_2, if_pos (nI_le (by omega) (by omega)), h1]
    rfl
  | j + 1, e, f, he, hf, h1 => by
    obtain ⟨f, rfl⟩ : ∃ z, f = z + 1 := ⟨f - 1, by omega⟩
    have h6 := h.1
    obtain ⟨M, T, hS⟩ := h.2.2.2 e (by omega)
    have ht := (tell_alk hS.1 hR.1).1
    rw [P4_isFirstOfClass_2, if_neg (nI_ge (show e < k by omega) (by omega)), s_alike (s_at h (by omega)) hS (s_at h hk) hR, ob, nI_1]
    have step : fst1 zw k (e + 1) = ! alk N L M T := by rw [fst1, h1, Bool.true_and, alk_dec hR hS]
    cases ha : alk N L M T with
    | false =>
      rw [alk_sym, ha] at ht
      rw [ha] at step
      rw [if_pos (Decidable.of_not_not (fun q => by have := ht.mpr q; cases this))]
      exact l_first h hk hR j (e + 1) f (by omega) (by omega) step
    | true =>
      rw [alk_sym, ha] at ht
      rw [ha] at step
      rw [if_neg (ht.mp rfl)]
      have key : ∀ m, fst1 zw k (e + 1 + m) = false := fun m => by
        induction m with
        | zero => exact step
        | succ m ihm => rw [← Nat.add_assoc, fst1, ihm, Bool.false_and]
      have := key (k - (e + 1))
      rw [show e + 1 + (k - (e + 1)) = k by omega] at this
      rw [this]
      rfl
/-- how many are closed, and how many are the first of their kind -/
def nc (zw : Nat → Int32) : Nat → Nat
  | 0 => 0
  | k + 1 => nc zw k + (if P_isClosed (zw k) = some 0 then 0 else 1)
def nu (zw : Nat → Int32) : Nat → Nat
  | 0 => 0
  | k + 1 => nu zw k + (if fst1 zw k k = true then 1 else 0)
theorem clo_dec (hR : RW zw wv k N L) : nc zw (k + 1) = nc zw k + (if clo N L = true then 1 else 0) := by
  rw [nc, hR.2.1, q_isClosed hR.1]
  cases clo N L
  · rfl
  · rfl
theorem l_closed (h : RS zw rc wn wv n) : ∀ (j k f : Nat), k + j = n → j < f → P4_closedRoads_4 rc wn wv f (nI (nc zw k)) (nI k) = some (nI (nc zw n))
  | 0, k, f, hk, hf => by
    obtain ⟨f, rfl⟩ : ∃ z, f = z + 1 := ⟨f - 1, by omega⟩
    have h6 := h.1
    rw [P4_closedRoads_4, h.2.2.1, if_pos (nI_le (by omega) (by omega)), show k = n by omega]
  | j + 1, k, f, hk, hf => by
    obtain ⟨f, rfl⟩ : ∃ z, f = z + 1 := ⟨f - 1, by omega⟩
    have h6 := h.1
    obtain ⟨N, L, hR⟩ := h.2.2.2 k (by omega)
    have ih := l_closed h j (k + 1) f (by omega) (by omega)
    rw [clo_dec hR] at ih
    have hc := i_closed (s_at h (show k < n by omega)) hR
    rw [P4_closedRoads_4, hc, ob, nI_1, if_neg (show ¬ rc ≤ nI k by rw [h.2.2.1]; exact nI_ge (show k < n by omega) (by omega))]
    cases hq : clo N L with
    | false =>
      rw [hq] at ih
      rw [if_pos b2_f]
      exact ih
    | true =>
      rw [hq] at ih
      rw [if_neg (show ¬ b2 true = 0 by decide), nI_1]
      exact ih
theorem l_classes (h : RS zw rc wn wv n) : ∀ (j k f : Nat), k + j = n → j < f → P4_roadClasses_4 rc wn wv f (nI (nu zw k)) (nI k) = some (nI (nu zw n))
  | 0, k, f, hk, hf => by
    obtain ⟨f, rfl⟩ : ∃ z, f = z + 1 := ⟨f - 1, by omega⟩
    have h6 := h.1
    rw [P4_roadClasses_4, h.2.2.1, if_pos (nI_le (by omega) (by omega)), show k = n by omega]
  | j + 1, k, f, hk, hf => by
    obtain ⟨f, rfl⟩ : ∃ z, f = z + 1 := ⟨f - 1, by omega⟩
    have h6 := h.1
    obtain ⟨N, L, hR⟩ := h.2.2.2 k (by omega)
    have ih := l_classes h j (k + 1) f (by omega) (by omega)
    rw [nu] at ih
    have hc : P4_isFirstOfClass rc wn wv (nI k) = some (b2 (fst1 zw k k)) := l_first h (show k < n by omega) hR k 0 FU (by omega) (by unfold FU; omega) rfl
    rw [P4_roadClasses_4, hc, ob, nI_1, if_neg (show ¬ rc ≤ nI k by rw [h.2.2.1]; exact nI_ge (show k < n by omega) (by omega))]
    cases hq : fst1 zw k k with
    | false =>
      rw [hq] at ih
      rw [if_pos b2_f]
      exact ih
    | true =>
      rw [hq] at ih
      rw [if_neg (show ¬ b2 true = 0 by decide), nI_1]
      exact ih
theorem l_9 (h : RS zw rc wn wv n) : ∀ (j k f : Nat) (t : Nat → Int32), k + j = n → j < f → ∃ o, P_stands_9 zw rc wn wv (nI n) f t (nI (nc zw k)) (nI (nu zw k)) (nI k) = some (Sum.inr (o, nI (nc zw n), nI (nu zw n)))
  | 0, k, f, t, hk, hf => by
    obtain ⟨f, rfl⟩ : ∃ z, f = z + 1 := ⟨f - 1, by omega⟩
    have h6 := h.1
    exact ⟨t, by rw [P_stands_9, if_pos (nI_le (by omega) (by omega)), show k = n by omega]⟩
  | j + 1, k, f, t, hk, hf => by
    obtain ⟨f, rfl⟩ : ∃ z, f = z + 1 := ⟨f - 1, by omega⟩
    have h6 := h.1
    obtain ⟨N, L, hR⟩ := h.2.2.2 k (by omega)
    obtain ⟨o, ho⟩ := l_road h (show k < n by omega) hR t
    obtain ⟨u, hu⟩ := l_9 h j (k + 1) f o (by omega) (by omega)
    have h57 : P_stands_57 zw (nI k) FU 1 0 = _ := l_57 h (show k < n by omega) hR k 0 FU (by omega) (by unfold FU; omega)
    have h112 : P_stands_112 zw o rc wn wv (nI n) (nI k) FU 0 = _ := l_112 h (show k < n by omega) hR o n 0 FU (by omega) (by unfold FU; omega)
    have zk : zw (Int32.toNatClampNeg (nI k)) = cw N L := by
      rw [n_cl (by omega)]
      exact hR.2.1
    refine ⟨u, ?_⟩
    rw [clo_dec hR, nu] at hu
    rw [P_stands_9, if_neg (nI_ge (show k < n by omega) (by omega)), if_pos (n_in (show k < 6 by omega) (by omega)), zk, ho, ob]
    simp only []
    rw [if_neg (by decide), if_pos (n_in (show k < 6 by omega) (by omega)), q_isClosed hR.1, ob, h57, ob, ob, h112, sb1_r, sb1_r, nI_1, nI_1, nI_1, n_a0, n_a0]
    cases hq : clo N L with
    | false =>
      rw [hq] at hu
      rw [if_pos b2_f]
      cases hw : fst1 zw k k with
      | false =>
        rw [hw] at hu
        rw [if_pos b2_f]
        exact hu
      | true =>
        rw [hw] at hu
        rw [if_neg (show ¬ b2 true = 0 by decide)]
        exact hu
    | true =>
      rw [hq] at hu
      rw [if_neg (show ¬ b2 true = 0 by decide)]
      cases hw : fst1 zw k k with
      | false =>
        rw [hw] at hu
        rw [if_pos b2_f]
        exact hu
      | true =>
        rw [hw] at hu
        rw [if_neg (show ¬ b2 true = 0 by decide)]
        exact hu
theorem l_stands (h : RS zw rc wn wv n) (t : Nat → Int32) (rd ps rs cc : Int32) : ∃ o, P_stands zw t rc rd ps rs cc wn wv (nI n) = some (1, o) := by
  have h6 := h.1
  obtain ⟨o, ho⟩ := l_9 h n 0 FU t (by omega) (by unfold FU; omega)
  have hn := s_no h
  obtain ⟨o0, h0⟩ := s_any h
  refine ⟨o, ?_⟩
  have c0 : P4_count rc rd ps rs cc wn wv 0 = some (nI n) := by
    unfold P4_count
    rw [if_pos rfl, h.2.2.1]
  have c1 : P4_count rc rd ps rs cc wn wv 1 = some (nI (nc zw n)) := by
    unfold P4_count P4_closedRoads
    rw [if_neg (by decide), if_pos rfl, show P4_closedRoads_4 rc wn wv FU 0 0 = _ from l_closed h n 0 FU (by omega) (by unfold FU; omega)]
    rfl
  have c2 : P4_count rc rd ps rs cc wn wv 2 = some (nI (nu zw n)) := by
    unfold P4_count P4_roadClasses
    rw [if_neg (by decide), if_neg (by decide), if_pos rfl, show P4_roadClasses_4 rc wn wv FU 0 0 = _ from l_classes h n 0 FU (by omega) (by unfold FU; omega)]
    rfl
  unfold P_stands
  rw [show P_stands_9 zw rc wn wv (nI n) FU t 0 0 0 = _ from ho, sb0_r, c0, ob, if_pos rfl, c1, ob, if_pos rfl, c2, ob, if_pos rfl, u_road hn, ob, if_pos rfl, u_road s_m1, ob, if_pos rfl, u_sign hn, ob, if_pos rfl, u_table hn, ob, if_pos rfl, u_form hn, ob, if_pos rfl, u_end hn, ob, if_pos rfl, u_alike hn h0, ob, if_pos rfl, u_cross h0 hn, ob, if_pos rfl]
  by_cases q : n = 0
  · subst q
    rw [if_pos (by decide)]
  · have ha : P4_roadAt rc wn 0 = some (some 0) := s_at h (k := 0) (by omega)
    rw [if_neg (nI_ne0 (by omega) (by omega)), s_table4 ha, ob, if_pos rfl, s_end2 ha, ob, if_pos rfl]
-- CROSSES
theorem l_10 (h : RS zw rc wn wv n) (hk : k < n) (hR : RW zw wv k N L) : ∀ (j e f : Nat), e + j = n → j < f → P_crosses_10 zw rc wn wv (nI n) (nI k) f (nI e) = some (Sum.inr ())
  | 0, e, f, he, hf => by
    obtain ⟨f, rfl⟩ : ∃ z, f = z + 1 := ⟨f - 1, by omega⟩
    have h6 := h.1
    rw [P_crosses_10, if_pos (nI_le (by omega) (by omega))]
  | j + 1, e, f, he, hf => by
    obtain ⟨f, rfl⟩ : ∃ z, f = z + 1 := ⟨f - 1, by omega⟩
    have h6 := h.1
    have hL := hR.1
    have h2 := hL.2.1
    obtain ⟨M, T, hS⟩ := h.2.2.2 e (by omega)
    have hT := hS.1
    have vk : vx (nI k) 6 := n_in (show k < 6 by omega) (by omega)
    have ve : vx (nI e) 6 := n_in (show e < 6 by omega) (by omega)
    have zk : zw (Int32.toNatClampNeg (nI k)) = cw N L := by
      rw [n_cl (by omega)]
      exact hR.2.1
    have ze : zw (Int32.toNatClampNeg (nI e)) = cw M T := by
      rw [n_cl (by omega)]
      exact hS.2.1
    have ih := l_10 h hk hR j (e + 1) f (by omega) (by omega)
    have hcr := s_cross (s_at h hk) hR (s_at h (show e < n by omega)) hS
    rw [P_crosses_10, if_neg (nI_ge (show e < n by omega) (by omega)), if_pos vk, zk, ze, q_isClosed hL, ob, nI_1]
    by_cases c : clo N L = true
    · rw [c, if_neg (show ¬ b2 true = 0 by decide), if_pos ve, q_isClosed hT, ob]
      by_cases d : clo M T = true
      · have hle := crs_le hL hT
        rw [if_pos ⟨c, d⟩] at hcr
        rw [d, if_neg (show ¬ b2 true = 0 by decide), if_pos vk, if_pos ve, q_crossings hL hT, ob, hcr, ob, if_pos rfl, if_pos ve, if_pos vk, q_crossings hT hL, ob, crs_sym hL hT, if_pos rfl, if_pos vk, show P_turned (cw N L) 1 = _ from q_turned (b := 1) hL (by omega), ob, if_pos ve, q_crossings (rot_LW hL) hT, ob, crs_rot hL hT, if_pos rfl, if_pos vk, q_mirror hL, ob, if_pos ve, q_mirror hT, ob, q_crossings (cpl_LW hL) (cpl_LW hT), ob, crs_cpl hL hT, if_pos rfl, if_pos vk, q_rev hL, ob, if_pos ve, q_rev hT, ob, q_crossings (rev_LW hL) (rev_LW hT), ob, crs_rev hL hT, if_pos rfl, if_pos vk, q_size (by omega), ob, q_alike hL hT, ob]
        have ev : alk N L M T = true → jrem (nI (crs L T N M)) 2 = 0 := fun q => by
          have q1 : N = M := (of_decide_eq_true q).1
          subst q1
          rw [alk_conj hL hT, conj_iff] at q
          obtain ⟨z, hz, ez⟩ := q
          have e2 := crs_even hL hT (fun i hi => (bv_inj (rot_lt hL) hT.2.2 ez i hi).symm)
          rw [show (2 : Int32) = nI 2 from rfl, n_rem (by omega) (by omega) (by omega), e2]
          rfl
        have fin : (if b2 (alk N L M T) = 0 then P_crosses_10 zw rc wn wv (nI n) (nI k) f (nI (e + 1)) else if jrem (nI (crs L T N M)) 2 = 0 then P_crosses_10 zw rc wn wv (nI n) (nI k) f (nI (e + 1)) else some (Sum.inl 0)) = some (Sum.inr ()) := by
          by_cases a : alk N L M T = true
          · rw [a, if_neg (show ¬ b2 true = 0 by decide), if_pos (ev a)]
            exact ih
          · rw [Bool.eq_false_iff.mpr a, if_pos b2_f]
            exact ih
        by_cases l11 : 11 ≤ N
        · rw [if_pos (show (11 : Int32) ≤ nI N from nI_le (a := 11) l11 (by omega)), if_pos vk, if_pos ve]
          exact fin
        · rw [if_neg (show ¬ (11 : Int32) ≤ nI N from nI_ge (b := 11) (by omega) (by omega)), if_pos vk, if_pos vk, q_join hL hL (by omega), ob, if_pos ve, q_crossings (cat_LW hL hL (by omega)) hT, ob, crs_two hL hT (by omega), show (2 : Int32) * nI (crs L T N M) = nI (2 * crs L T N M) from pk_mul 2 _, if_pos rfl, if_pos vk, if_pos ve]
          exact fin
      · rw [if_neg (fun q => d q.2)] at hcr
        rw [Bool.eq_false_iff.mpr d, if_pos b2_f, hcr, ob, if_pos rfl]
        exact ih
    · rw [if_neg (fun q => c q.1)] at hcr
      rw [Bool.eq_false_iff.mpr c, if_pos b2_f, hcr, ob, if_pos rfl]
      exact ih
theorem l_2 (h : RS zw rc wn wv n) : ∀ (j k f : Nat), k + j = n → j < f → P_crosses_2 zw rc wn wv (nI n) f (nI k) = some (Sum.inr ())
  | 0, k, f, hk, hf => by
    obtain ⟨f, rfl⟩ : ∃ z, f = z + 1 := ⟨f - 1, by omega⟩
    have h6 := h.1
    rw [P_crosses_2, if_pos (nI_le (by omega) (by omega))]
  | j + 1, k, f, hk, hf => by
    obtain ⟨f, rfl⟩ : ∃ z, f = z + 1 := ⟨f - 1, by omega⟩
    have h6 := h.1
    obtain ⟨N, L, hR⟩ := h.2.2.2 k (by omega)
    rw [P_crosses_2, if_neg (nI_ge (show k < n by omega) (by omega)), show P_crosses_10 zw rc wn wv (nI n) (nI k) FU 0 = _ from l_10 h (show k < n by omega) hR n 0 FU (by omega) (by unfold FU; omega), sb1_r, nI_1]
    exact l_2 h j (k + 1) f (by omega) (by omega)
theorem l_crosses (h : RS zw rc wn wv n) : P_crosses zw rc wn wv (nI n) = some 1 := by
  have h6 := h.1
  unfold P_crosses
  rw [show P_crosses_2 zw rc wn wv (nI n) FU 0 = _ from l_2 h n 0 FU (by omega) (by unfold FU; omega), sb0_r]
end
