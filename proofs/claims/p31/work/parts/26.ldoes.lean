-- DOES: one action, by the class and by the law
def INV (v_zw v_zd : Nat → Int32) (v_roadCount v_readings v_psize v_good v_pbits v_letters v_afterLetter : Int32) (v_wn : Nat) (v_wv : Nat → Nat → Int32) : Prop := ∃ n : Nat, RS v_zw v_roadCount v_wn v_wv n ∧ v_zd 0 = nI n ∧ v_readings = v_zd 1 ∧ v_psize = 0 ∧ v_good = 0 ∧ v_pbits = 0 ∧ v_letters = 0 ∧ v_afterLetter = 0
def DOK (p : Option (Int32 × (Nat → Int32) × (Nat → Int32) × (Nat → Int32) × Int32 × Int32 × Int32 × Int32 × Int32 × Int32 × Int32 × (Nat → Int32) × Nat × (Nat → Nat → Int32))) : Prop := ∃ r, p = some r ∧ r.1 = 1 ∧ INV r.2.1 r.2.2.1 r.2.2.2.2.1 r.2.2.2.2.2.1 r.2.2.2.2.2.2.1 r.2.2.2.2.2.2.2.1 r.2.2.2.2.2.2.2.2.1 r.2.2.2.2.2.2.2.2.2.1 r.2.2.2.2.2.2.2.2.2.2.1 r.2.2.2.2.2.2.2.2.2.2.2.2.1 r.2.2.2.2.2.2.2.2.2.2.2.2.2
theorem DOK_mk {zw zd zt codes : Nat → Int32} {rc : Int32} {wn : Nat} {wv : Nat → Nat → Int32} {n : Nat} (h : RS zw rc wn wv n) (hz : zd 0 = nI n) : DOK (some (1, zw, zd, zt, rc, zd 1, 0, 0, 0, 0, 0, codes, wn, wv)) := ⟨_, rfl, rfl, n, h, hz, rfl, rfl, rfl, rfl, rfl, rfl⟩
section
variable {zw zd zt codes : Nat → Int32} {rc rs cc x y : Int32} {wn n k k2 N M : Nat} {wv : Nat → Nat → Int32} {L T : Nat → Nat}
theorem RS_set (h : RS zw rc wn wv n) (hk : k < n) (hL : LW N L) : RS (upd zw k (cw N L)) rc wn (wvr wv k (wrec N L)) n := by
  obtain ⟨n6, nw, e, hr⟩ := h
  refine ⟨n6, nw, e, fun k' hk' => ?_⟩
  by_cases q : k' = k
  · subst q
    exact ⟨N, L, hL, pk_us, wvr_at _ _ _ _⟩
  · obtain ⟨M, T, hT, h1, h2⟩ := hr k' hk'
    exact ⟨M, T, hT, by rw [pk_un q]; exact h1, wvr_ne q h2⟩
theorem RS_add (h : RS zw rc wn wv n) (h6 : n < 6) (hL : LW N L) : RS (upd zw n (cw N L)) (nI (n + 1)) (if n < wn then wn else wn + 1) (wvr wv n (wrec N L)) (n + 1) ∧ RW (upd zw n (cw N L)) (wvr wv n (wrec N L)) n N L := by
  obtain ⟨n6, nw, e, hr⟩ := h
  refine ⟨⟨by omega, by split <;> omega, rfl, fun k' hk' => ?_⟩, hL, pk_us, wvr_at _ _ _ _⟩
  by_cases q : k' = n
  · subst q
    exact ⟨N, L, hL, pk_us, wvr_at _ _ _ _⟩
  · obtain ⟨M, T, hT, h1, h2⟩ := hr k' (by omega)
    exact ⟨M, T, hT, by rw [pk_un q]; exact h1, wvr_ne q h2⟩
theorem add_ok (h : RS zw rc wn wv n) (h6 : n < 6) (hL : LW N L) : P4_addRoad rc wn wv (nI (bv L N)) (nI N) = some (nI n, nI (n + 1), (if n < wn then wn else wn + 1), wvr wv n (wrec N L)) := by
  obtain ⟨n6, nw, rfl, hr⟩ := h
  have h2 := hL.2.1
  unfold P4_addRoad
  rw [if_pos (show nI N ≤ (20 : Int32) from nI_le (b := 20) (by omega) (by omega)), if_neg (n_neg (by omega)), if_pos (show nI n < (6 : Int32) from nI_lt (b := 6) h6 (by omega)), w_become hL, ob, n_cl (by omega), if_pos nw, nI_1]
  rfl
theorem add_full (h : RS zw rc wn wv 6) {b : Int32} (hN : N ≤ 20) : P4_addRoad rc wn wv b (nI N) = some (-2000000104, rc, wn, wv) := by
  obtain ⟨n6, nw, rfl, hr⟩ := h
  unfold P4_addRoad
  rw [if_pos (show nI N ≤ (20 : Int32) from nI_le (b := 20) (by omega) (by omega)), if_neg (n_neg (by omega)), if_neg (by decide)]
/-- a road that comes, by the law and by the class -/
theorem add_comes (h : RS zw rc wn wv n) {s : Nat} (hs : s < 2 ^ 31) {bits w : Int32} (hT : s ≤ 20 → LW s T ∧ bits = nI (bv T s) ∧ w = cw s T) : ∃ e zw' rc' wn' wv', P_comes zw (nI n) w (nI s) = some (e, zw') ∧ P4_addRoad rc wn wv bits (nI s) = some (e, rc', wn', wv') ∧ ((e = nI n ∧ RS zw' rc' wn' wv' (n + 1) ∧ RW zw' wv' n s T ∧ n < 6) ∨ (¬ e = nI n ∧ e < 0 ∧ RS zw' rc' wn' wv' n)) := by
  have n6 := h.1
  have hne : ∀ e : Int32, e < 0 → ¬ e = nI n := fun e he q => n_neg (show n < 2 ^ 31 by omega) (by rw [← q]; exact he)
  unfold P_comes
  by_cases c : s ≤ 20
  · obtain ⟨h1, rfl, rfl⟩ := hT c
    rw [if_pos (show nI s ≤ (20 : Int32) from nI_le (b := 20) c (by omega))]
    by_cases d : n = 6
    · subst d
      rw [if_pos (by decide), add_full h c]
      exact ⟨_, _, _, _, _, rfl, rfl, Or.inr ⟨hne _ (by decide), by decide, h⟩⟩
    · obtain ⟨g1, g2⟩ := RS_add h (show n < 6 by omega) h1
      rw [if_neg (show ¬ nI n = (6 : Int32) from fun q => d ((nI_eq (b := 6) (by omega) (by omega)).mp q)), if_pos (n_in (by omega) (by omega)), n_cl (by omega), add_ok h (by omega) h1]
      exact ⟨_, _, _, _, _, rfl, rfl, Or.inl ⟨rfl, g1, g2, by omega⟩⟩
  · rw [if_neg (show ¬ nI s ≤ (20 : Int32) from nI_ge (a := 20) (by omega) hs), add_long (by omega) hs]
    exact ⟨_, _, _, _, _, rfl, rfl, Or.inr ⟨hne _ (by decide), by decide, h⟩⟩
-- a word read
theorem l_63 (h : RS zw rc wn wv n) (hz : zd 0 = nI n) (x3 x4 : Int32) : DOK (P_does_J63 zw zd zt rc (zd 1) 0 0 0 0 0 codes rs cc wn wv x3 x4 (nI n)) := by
  have n6 := h.1
  obtain ⟨N, L, hL, e1⟩ := q_wordBy x4
  obtain ⟨m, t', e2, m0, mN, hT⟩ := q_write hL (jshr x3 9) zt
  have h2 := hL.2.1
  obtain ⟨f, o, e3⟩ := q_spell (show m ≤ 20 by omega) hT codes
  have v0 : vx 0 2 := by decide
  have v1 : vx 1 2 := by decide
  have isW : P1_isWord (nI m) (nI m) = some 1 := by
    unfold P1_isWord
    rw [if_neg (nI_nle m0 (by omega)), if_pos rfl]
  unfold P_does_J63
  rw [e1, ob, e2, ob]
  dsimp only
  rw [e3, ob]
  dsimp only
  rw [if_neg (show ¬ (1 : Int32) = 0 by decide)]
  unfold P4_fault
  rw [ob, if_pos rfl]
  by_cases c : n = 6
  · subst c
    have e4 : P4_word rc (zd 1) (nI m) (nI m) (nI (bv L N)) (nI N) (b2 f) wn wv = some (-2000000104, rc, zd 1, nI m, nI m, nI (bv L N), nI N, b2 f, wn, wv) := by
      unfold P4_word
      rw [isW, ob, if_neg (show ¬ (1 : Int32) = 0 by decide), add_full h h2, ob]
      dsimp only
      rw [if_pos (by decide)]
    have e5 : ∀ (a b c d : Int32) (w : Nat) (v : Nat → Nat → Int32), P4_count a b (nI m) c d w v 3 = some (nI m) := fun _ _ _ _ _ _ => rfl
    rw [if_pos (show nI 6 = (6 : Int32) from rfl), e4, ob]
    dsimp only
    rw [if_pos rfl, e5, ob, if_pos rfl]
    unfold P4_blank P1_clear
    rw [ob, ob]
    dsimp only
    rw [if_pos rfl]
    exact DOK_mk h hz
  · obtain ⟨g1, g2⟩ := RS_add h (show n < 6 by omega) hL
    have e4 : P4_word rc (zd 1) (nI m) (nI m) (nI (bv L N)) (nI N) (b2 f) wn wv = some (nI n, nI (n + 1), zd 1 + 1, 0, 0, 0, 0, 0, (if n < wn then wn else wn + 1), wvr wv n (wrec N L)) := by
      unfold P4_word P1_clear
      rw [isW, ob, if_neg (show ¬ (1 : Int32) = 0 by decide), add_ok h (by omega) hL, ob]
      dsimp only
      rw [if_neg (n_neg (by omega)), ob]
    have e5 : ∀ (a b c d : Int32) (w : Nat) (v : Nat → Nat → Int32), P4_count a b 0 c d w v 3 = some 0 := fun _ _ _ _ _ _ => rfl
    have e6 : ∀ (a b c d e : Int32) (w : Nat) (v : Nat → Nat → Int32), P4_count a b e c d w v 4 = some b := fun _ _ _ _ _ _ _ => rfl
    rw [if_neg (show ¬ nI n = (6 : Int32) from fun q => c ((nI_eq (b := 6) (by omega) (by omega)).mp q)), if_pos (n_in (show n < 6 by omega) (by omega)), if_pos v0, if_pos v0, if_pos v1, if_pos v1, e4, ob]
    dsimp only
    rw [if_pos rfl, e5, ob, if_pos rfl, e6, ob, if_pos v1, if_pos (show zd 1 + 1 = upd (upd zd (Int32.toNatClampNeg 0) (zd (Int32.toNatClampNeg 0) + 1)) (Int32.toNatClampNeg 1) ((upd zd (Int32.toNatClampNeg 0) (zd (Int32.toNatClampNeg 0) + 1)) (Int32.toNatClampNeg 1) + 1) (Int32.toNatClampNeg 1) from rfl), n_cl (by omega)]
    exact DOK_mk (zd := upd (upd zd (Int32.toNatClampNeg 0) (zd (Int32.toNatClampNeg 0) + 1)) (Int32.toNatClampNeg 1) ((upd zd (Int32.toNatClampNeg 0) (zd (Int32.toNatClampNeg 0) + 1)) (Int32.toNatClampNeg 1) + 1)) g1 (by
      show zd 0 + 1 = nI (n + 1)
      rw [hz, nI_1])
-- a road turned
theorem t_big (ha : P4_roadAt rc wn x = some (some k)) (hR : RW zw wv k N L) : P4_turn rc wn wv x (nI N) = some (-2000000102, wv) := by
  obtain ⟨hL, -, w0, w1, w2, w3, w4, w5, w6⟩ := hR
  have h2 := hL.2.1
  unfold P4_turn
  rw [ha, ob]
  dsimp only
  rw [if_neg (n_neg (by omega)), w1, if_neg (fun q => by have := (nI_ltI (by omega) (by omega)).mp q; omega)]
theorem t_m1 (ha : P4_roadAt rc wn x = some (some k)) : P4_turn rc wn wv x (-1) = some (-2000000102, wv) := by
  unfold P4_turn
  rw [ha, ob]
  dsimp only
  rw [if_pos (by decide)]
theorem t_no (ha : P4_roadAt rc wn x = some none) : P4_turn rc wn wv x y = some (-2000000101, wv) := by
  unfold P4_turn
  rw [ha, ob]
theorem t_ok {z : Nat} (ha : P4_roadAt rc wn x = some (some k)) (hR : RW zw wv k N L) (hz : z < N) : P4_turn rc wn wv x (nI z) = some (nI (fnd (eqr N (rot N z L) (rot N z L)) 1 (N - 1)), wvr wv k (wrec N (rot N z L))) := by
  obtain ⟨hL, -, w0, w1, w2, w3, w4, w5, w6⟩ := hR
  have h2 := hL.2.1
  have hw2 := wvr_at wv k N (rot N z L)
  unfold P4_turn
  rw [ha, ob]
  dsimp only
  rw [if_neg (n_neg (by omega)), w1, if_pos (nI_lt hz (by omega)), w0, w2, w_rotation hL hz, ob, w_become (rot_LW hL), ob]
  show Option.bind (P3_period (wvr wv k (wrec N (rot N z L)) k 0) (wvr wv k (wrec N (rot N z L)) k 1) (wvr wv k (wrec N (rot N z L)) k 2)) _ = _
  rw [hw2.1, hw2.2.1, hw2.2.2.1, w_period (rot_LW hL)]
  rfl
-- a road changed
theorem g_big (ha : P4_roadAt rc wn x = some (some k)) : P4_change rc wn wv x 3 = some (-2000000102, wv) := by
  unfold P4_change
  rw [ha, ob]
  dsimp only
  rw [if_neg (by decide), if_neg (by decide)]
theorem g_no (ha : P4_roadAt rc wn x = some none) : P4_change rc wn wv x y = some (-2000000101, wv) := by
  unfold P4_change
  rw [ha, ob]
theorem g_ok (ha : P4_roadAt rc wn x = some (some k)) (hR : RW zw wv k N L) (h0 : ¬ y < 0) (h3 : y < 3) (hT : LW N T) (hc : (if y = 0 then rev N L else if y = 1 then cpl L else rot N (lst N L) L) = T) : P4_change rc wn wv x y = some ((mt T N).1 + (mt T N).2.2.2, wvr wv k (wrec N T)) := by
  obtain ⟨hL, -, w0, w1, w2, w3, w4, w5, w6⟩ := hR
  unfold P4_change
  rw [ha, ob]
  dsimp only
  rw [if_neg h0, if_pos h3, w0, w1, w2, w_changed hL, hc, ob, w_become hT, ob]
  show Option.bind (P3_traceSum (wvr wv k (wrec N T) k 3) (wvr wv k (wrec N T) k 6)) _ = _
  rw [w_sum_at]
  rfl
-- roads joined, repeated
theorem a_no (ha : P4_roadAt rc wn x = some (some k)) (hb : P4_roadAt rc wn y = some none) : P4_join rc wn wv x y = some (-2000000101, rc, wn, wv) := by
  unfold P4_join
  rw [ha, ob]
  dsimp only
  rw [hb, ob]
theorem a_ok (ha : P4_roadAt rc wn x = some (some k)) (hR : RW zw wv k N L) (hb : P4_roadAt rc wn y = some (some k2)) (hS : RW zw wv k2 M T) : P4_join rc wn wv x y = P4_addRoad rc wn wv (nI (bv (cat N L T) (N + M))) (nI (N + M)) := by
  obtain ⟨hL, -, w0, w1, w2, w3, w4, w5, w6⟩ := hR
  obtain ⟨hT, -, v0, v1, v2, v3, v4, v5, v6⟩ := hS
  unfold P4_join
  rw [ha, ob]
  dsimp only
  rw [hb, ob]
  dsimp only
  rw [w0, w1, v0, v1, n_cat hT.2.1 hT.2.2, ← bv_cat, nI_add]
  cases P4_addRoad rc wn wv (nI (bv (cat N L T) (N + M))) (nI (N + M)) <;> rfl
theorem m_1 (ha : P4_roadAt rc wn x = some (some k)) : P4_times rc wn wv x 1 = some (-2000000102, rc, wn, wv) := by
  unfold P4_times
  rw [ha, ob]
  dsimp only
  rw [if_pos (by decide)]
theorem m_6 (ha : P4_roadAt rc wn x = some (some k)) : P4_times rc wn wv x 6 = some (-2000000102, rc, wn, wv) := by
  unfold P4_times
  rw [ha, ob]
  dsimp only
  rw [if_neg (by decide), if_neg (by decide)]
theorem m_no (ha : P4_roadAt rc wn x = some none) : P4_times rc wn wv x y = some (-2000000101, rc, wn, wv) := by
  unfold P4_times
  rw [ha, ob]
theorem m_ok {m : Nat} (ha : P4_roadAt rc wn x = some (some k)) (hR : RW zw wv k N L) (h2 : 2 ≤ m) (h5 : m ≤ 5) : P4_times rc wn wv x (nI m) = P4_addRoad rc wn wv (nI (bv (rpt N L m) (m * N))) (nI (m * N)) := by
  obtain ⟨hL, -, w0, w1, w2, w3, w4, w5, w6⟩ := hR
  have e := w_times_loop hL w0 w1 h5 m 0 FU (by omega) (by unfold FU; omega)
  rw [Nat.zero_mul] at e
  unfold P4_times
  rw [ha, ob]
  dsimp only
  rw [if_neg (show ¬ nI m < (2 : Int32) from fun q => by have := (nI_ltI (b := 2) (by omega) (by omega)).mp q; omega), if_pos (show nI m ≤ (5 : Int32) from nI_le (b := 5) h5 (by omega)), show P4_times_32 k wv (nI m) FU 0 0 = _ from e, ob, w1, pk_mul]
  cases P4_addRoad rc wn wv (nI (bv (rpt N L m) (m * N))) (nI (m * N)) <;> rfl
theorem l_548 {i m : Nat} (hi : i < 6) (hL : LW N L) (hw : zw i = cw N L) (hm : m ≤ 5) (hmN : m * N ≤ 20) : ∀ (j t f : Nat), t + j = m → j < f → 1 ≤ t → P_does_548 zw (nI i) (nI m) f (cw (t * N) (rpt N L t)) (nI t) = some (cw (m * N) (rpt N L m))
  | 0, t, f, ht, hf, h1 => by
    obtain ⟨f, rfl⟩ : ∃ z, f = z + 1 := ⟨f - 1, by omega⟩
    obtain rfl : t = m := by omega
    rw [P_does_548, if_pos (nI_le (by omega) (by omega))]
  | j + 1, t, f, ht, hf, h1 => by
    obtain ⟨f, rfl⟩ : ∃ z, f = z + 1 := ⟨f - 1, by omega⟩
    have h2 := hL.2.1
    have hp := hL.1
    have hle : (t + 1) * N ≤ m * N := Nat.mul_le_mul_right N (by omega)
    rw [Nat.succ_mul] at hle
    have htN : 1 ≤ t * N := Nat.mul_le_mul h1 hp
    have ih := l_548 hi hL hw hm hmN j (t + 1) f (by omega) (by omega) (by omega)
    rw [Nat.succ_mul] at ih
    have zk : zw (Int32.toNatClampNeg (nI i)) = cw N L := by
      rw [n_cl (by omega)]
      exact hw
    rw [P_does_548, if_neg (nI_ge (show t < m by omega) (by omega)), if_pos (n_in hi (by omega)), zk, q_size (by omega), ob, pk_mul, if_neg (show ¬ (21 : Int32) ≤ nI (m * N) from nI_ge (b := 21) (by omega) (by omega)), if_pos (n_in hi (by omega)), q_join ⟨htN, by omega, rpt_lt hL.2.2 t⟩ hL (by omega), ob, nI_1]
    exact ih
theorem l_548s {i m : Nat} (hi : i < 6) (hL : LW N L) (hw : zw i = cw N L) (hm : m ≤ 5) (hm2 : 2 ≤ m) (hmN : 20 < m * N) : P_does_548 zw (nI i) (nI m) FU (cw N L) 1 = some (cw N L) := by
  have h2 := hL.2.1
  have hb : m * N ≤ 5 * 20 := Nat.mul_le_mul hm h2
  have zk : zw (Int32.toNatClampNeg (nI i)) = cw N L := by
    rw [n_cl (by omega)]
    exact hw
  rw [show FU = 3999 + 1 from rfl, P_does_548, if_neg (show ¬ nI m ≤ (1 : Int32) from nI_ge (a := 1) (by omega) (by omega)), if_pos (n_in hi (by omega)), zk, q_size (by omega), ob, pk_mul, if_pos (show (21 : Int32) ≤ nI (m * N) from nI_le (a := 21) (by omega) (by omega))]
-- the number of roads, after one may have come
theorem z_up {zd : Nat → Int32} {n : Nat} (hz : zd 0 = nI n) : (upd zd (Int32.toNatClampNeg 0) (zd (Int32.toNatClampNeg 0) + 1)) 0 = nI (n + 1) := by
  show zd 0 + 1 = nI (n + 1)
  rw [hz, nI_1]
theorem z_eq {zd : Nat → Int32} {n : Nat} (hz : zd 0 = nI n) : (upd zd (Int32.toNatClampNeg 0) (zd (Int32.toNatClampNeg 0) + 0)) 0 = nI n := by
  show zd 0 + 0 = nI n
  rw [hz, n_a0]
end
