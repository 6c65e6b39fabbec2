-- CELLS: any int is a number below 2^32
theorem any_nI (x : Int32) : ∃ v : Nat, v < 2 ^ 32 ∧ x = nI v := ⟨x.toBitVec.toNat, x.toBitVec.isLt, Int32.toBitVec_inj.1 (by
  show x.toBitVec = BitVec.ofNat 32 x.toBitVec.toNat
  rw [BitVec.ofNat_toNat, BitVec.setWidth_eq])⟩
theorem half (x : Int32) : ∃ u : Nat, u < 2 ^ 31 ∧ jushr x 1 = nI u := by
  obtain ⟨v, hv, rfl⟩ := any_nI x
  refine ⟨v / 2, by omega, ?_⟩
  apply Int32.toBitVec_inj.1
  apply BitVec.eq_of_toNat_eq
  unfold jushr
  show ((nI v).toUInt32 >>> ((nI 1).toUInt32 &&& Int32.toUInt32 31)).toNat = (v / 2) % 2 ^ 32
  rw [UInt32.toNat_shiftRight, jus_k 1 (by omega), Nat.mod_eq_of_lt (show 1 < 32 by omega), Nat.shiftRight_eq_div_pow]
  show (v % 2 ^ 32) / 2 ^ 1 = (v / 2) % 2 ^ 32
  omega
theorem q_at (x : Int32) {n : Nat} (h : 0 < n) (hn : n < 2 ^ 31) : ∃ z, z < n ∧ P_at x (nI n) = some (nI z) := by
  obtain ⟨u, hu, e⟩ := half x
  refine ⟨u % n, Nat.mod_lt u h, ?_⟩
  unfold P_at
  rw [if_pos (nI_ne0 h hn), e, n_rem hu h hn]
theorem low (x : Int32) : ∃ l, l < 2 ∧ x &&& 1 = nI l := by
  obtain ⟨v, hv, rfl⟩ := any_nI x
  exact ⟨v % 2, Nat.mod_lt v (by omega), n_mask1 v⟩
theorem q_ext {k l : Nat} {C : Nat → Nat} (hk : k ≤ 20) (hC : ∀ i, i < k → C i < 2) (hl : l < 2) : P_with (cw k C) (nI l) = some (cw (k + 1) (ext C k l)) := by
  have e1 : cw k C = cw k (ext C k l) := cw_congr (fun i hi => by
    unfold ext
    rw [if_neg (by omega)])
  have e2 : ext C k l k = l := by
    unfold ext
    rw [if_pos rfl]
  have := q_with (T := ext C k l) hk (ext_lt hl hC)
  rw [e2, ← e1] at this
  exact this
theorem q_wordBy_loop (x : Int32) {m : Nat} (hm : m ≤ 20) : ∀ (j k n : Nat) (C : Nat → Nat), k + j = m → j < n → (∀ i, i < k → C i < 2) → ∃ C', P_wordBy_13 x (nI m) n (cw k C) (nI k) = some (cw m C') ∧ ∀ i, i < m → C' i < 2
  | 0, k, n, C, hk, hn, hC => by
    obtain ⟨n, rfl⟩ : ∃ z, n = z + 1 := ⟨n - 1, by omega⟩
    obtain rfl : k = m := by omega
    exact ⟨C, by rw [P_wordBy_13, if_pos (nI_le (by omega) (by omega))], hC⟩
  | j + 1, k, n, C, hk, hn, hC => by
    obtain ⟨n, rfl⟩ : ∃ z, n = z + 1 := ⟨n - 1, by omega⟩
    obtain ⟨z, hz, ez⟩ := q_at x (n := 5) (by omega) (by omega)
    obtain ⟨l, hl, el⟩ := low (jshr x (jrem (4 + nI k) 31))
    have step : ∀ l, l < 2 → ∃ C', P_wordBy_13 x (nI m) n (cw (k + 1) (ext C k l)) (nI (k + 1)) = some (cw m C') ∧ ∀ i, i < m → C' i < 2 := fun l hl => q_wordBy_loop x hm j (k + 1) n (ext C k l) (by omega) (by omega) (ext_lt hl hC)
    rw [P_wordBy_13, if_neg (nI_ge (by omega) (by omega)), show P_at x 5 = _ from ez, ob, el, nI_1, q_ext (by omega) hC hl]
    by_cases c1 : nI z = 0
    · rw [if_pos c1]
      by_cases c2 : nI k ≤ 0
      · rw [if_pos c2, ob]
        exact step l hl
      · have hk0 : ¬ k = 0 := fun q => c2 (by rw [q]; decide)
        have hb := hC (k - 1) (by omega)
        have e : 1 - nI (C (k - 1)) = nI (1 - C (k - 1)) := n_sub (a := 1) (by omega)
        rw [if_neg c2, show nI k - 1 = nI (k - 1) from n_sub (b := 1) (by omega), q_bit (by omega) hC (by omega), ob, e, q_ext (by omega) hC (by omega), ob]
        exact step _ (by omega)
    · rw [if_neg c1, ob]
      exact step l hl
theorem q_wordBy (x : Int32) : ∃ N L, LW N L ∧ P_wordBy x 20 = some (cw N L) := by
  obtain ⟨z, hz, ez⟩ := q_at x (n := 20) (by omega) (by omega)
  obtain ⟨C, h1, h2⟩ := q_wordBy_loop x (m := 1 + z) (by omega) (1 + z) 0 FU (fun _ => 0) (by omega) (by unfold FU; omega) (fun i hi => by omega)
  refine ⟨1 + z, C, ⟨by omega, by omega, h2⟩, ?_⟩
  unfold P_wordBy
  rw [show P_at x 20 = _ from ez, ob, show (1 : Int32) + nI z = nI (1 + z) from nI_add 1 z, show P_wordBy_13 x (nI (1 + z)) FU 0 0 = _ from h1]
  rfl
-- WRITING
theorem q_run {N k : Nat} {L : Nat → Nat} (h : LW N L) (hk : k < N) : ∀ (j r n : Nat), r + j = 9 → j < n → 1 ≤ r → k + r ≤ N → (∀ i, i < r → L (k + i) = L k) → ∃ r', 1 ≤ r' ∧ r' ≤ 9 ∧ k + r' ≤ N ∧ (∀ i, i < r' → L (k + i) = L k) ∧ P_write_17 (cw N L) (nI k) n (nI r) = some (nI r')
  | 0, r, n, hr, hn, h1, h2, h3 => by
    obtain ⟨n, rfl⟩ : ∃ z, n = z + 1 := ⟨n - 1, by omega⟩
    exact ⟨r, h1, by omega, h2, h3, by rw [P_write_17, if_pos (show (9 : Int32) ≤ nI r from nI_le (a := 9) (by omega) (by omega))]⟩
  | j + 1, r, n, hr, hn, h1, h2, h3 => by
    obtain ⟨n, rfl⟩ : ∃ z, n = z + 1 := ⟨n - 1, by omega⟩
    have h20 := h.2.1
    rw [P_write_17, if_neg (show ¬ (9 : Int32) ≤ nI r from nI_ge (b := 9) (by omega) (by omega)), q_size (by omega), ob, nI_add, nI_1]
    by_cases c : N ≤ k + r
    · exact ⟨r, h1, by omega, h2, h3, by rw [if_pos (nI_le c (by omega))]⟩
    · have l1 := h.2.2 (k + r) (by omega)
      have l2 := h.2.2 k hk
      rw [if_neg (nI_ge (by omega) (by omega)), q_bit (by omega) h.2.2 (show k + r < N by omega), ob, q_bit (by omega) h.2.2 hk, ob]
      by_cases d : L (k + r) = L k
      · rw [if_pos (by rw [d])]
        exact q_run h hk j (r + 1) n (by omega) (by omega) (by omega) (by omega) (fun i hi => by
          by_cases q : i = r
          · rw [q]
            exact d
          · exact h3 i (by omega))
      · exact ⟨r, h1, by omega, h2, h3, by rw [if_neg (fun q => d ((nI_eq (by omega) (by omega)).mp q))]⟩
/-- a text of m characters that says the first k letters -/
def TX (t : Nat → Int32) (L : Nat → Nat) (m k : Nat) : Prop := ∃ (c : Nat → Nat) (C : Nat → Nat) (f : Bool), (∀ i, i < m → t i = nI (c i)) ∧ pst c m = (m, k, C, f) ∧ ∀ i, i < k → C i = L i
theorem TX_letter {t : Nat → Int32} {L : Nat → Nat} {m k x : Nat} (h : TX t L m k) (hk : k < 20) (hx : (x = 76 ∧ L k = 0) ∨ (x = 82 ∧ L k = 1)) : ∃ (c : Nat → Nat) (C : Nat → Nat), (∀ i, i < m + 1 → upd t m (nI x) i = nI (c i)) ∧ pst c (m + 1) = (m + 1, k + 1, C, true) ∧ ∀ i, i < k + 1 → C i = L i := by
  obtain ⟨c, C, f, h1, h2, h3⟩ := h
  have hcc : ∀ i, i < m → c i = ext c m x i := fun i hi => by
    unfold ext
    rw [if_neg (by omega)]
  have ex : ext c m x m = x := by
    unfold ext
    rw [if_pos rfl]
  have e0 : pst (ext c m x) m = (m, k, C, f) := by
    have : ∀ j, j ≤ m → pst c j = pst (ext c m x) j := fun j => by
      induction j with
      | zero => exact fun _ => rfl
      | succ j ih =>
        intro hj
        rw [pst, pst, ih (by omega), hcc j (by omega)]
    rw [← this m (Nat.le_refl m)]
    exact h2
  have hn : nstep (k, C, f) x = some (k + 1, fun i => if i = k then (if x = 82 then 1 else 0) else C i, true) := by
    unfold nstep
    rw [if_pos (by omega), if_neg (by show ¬ k = 20; omega)]
  refine ⟨ext c m x, fun i => if i = k then (if x = 82 then 1 else 0) else C i, fun i hi => ?_, ?_, fun i hi => ?_⟩
  · by_cases q : i = m
    · rw [q, pk_us, ex]
    · rw [pk_un q, h1 i (by omega), hcc i (by omega)]
  · rw [pst, e0, ex]
    show (if m = m then (match nstep (k, C, f) x with | none => (m, k, C, f) | some s => (m + 1, s)) else (m, k, C, f)) = _
    rw [if_pos rfl, hn]
  · show (if i = k then (if x = 82 then 1 else 0) else C i) = L i
    by_cases q : i = k
    · rw [if_pos q, q]
      rcases hx with ⟨a, b⟩ | ⟨a, b⟩
      · rw [if_neg (by omega), b]
      · rw [if_pos a, b]
    · rw [if_neg q]
      exact h3 i (by omega)
theorem TX_one {t : Nat → Int32} {L : Nat → Nat} {m k x : Nat} (h : TX t L m k) (hk : k < 20) (hx : (x = 76 ∧ L k = 0) ∨ (x = 82 ∧ L k = 1)) : TX (upd t m (nI x)) L (m + 1) (k + 1) := by
  obtain ⟨c, C, h1, h2, h3⟩ := TX_letter h hk hx
  exact ⟨c, C, true, h1, h2, h3⟩
theorem TX_many {t : Nat → Int32} {L : Nat → Nat} {m k x r : Nat} (h : TX t L m k) (hx : (x = 76 ∧ L k = 0) ∨ (x = 82 ∧ L k = 1)) (r2 : 2 ≤ r) (r9 : r ≤ 9) (hk : k + r ≤ 20) (hr : ∀ i, i < r → L (k + i) = L k) : TX (upd (upd t m (nI x)) (m + 1) (nI (48 + r))) L (m + 2) (k + r) := by
  obtain ⟨c, C, h1, h2, h3⟩ := TX_letter h (by omega) hx
  have hcc : ∀ i, i < m + 1 → c i = ext c (m + 1) (48 + r) i := fun i hi => by
    unfold ext
    rw [if_neg (by omega)]
  have ex : ext c (m + 1) (48 + r) (m + 1) = 48 + r := by
    unfold ext
    rw [if_pos rfl]
  have e0 : pst (ext c (m + 1) (48 + r)) (m + 1) = (m + 1, k + 1, C, true) := by
    have : ∀ j, j ≤ m + 1 → pst c j = pst (ext c (m + 1) (48 + r)) j := fun j => by
      induction j with
      | zero => exact fun _ => rfl
      | succ j ih =>
        intro hj
        rw [pst, pst, ih (by omega), hcc j (by omega)]
    rw [← this (m + 1) (Nat.le_refl _)]
    exact h2
  have hn : nstep (k + 1, C, true) (48 + r) = some (k + r, fun i => if i < k + 1 then C i else C (k + 1 - 1), false) := by
    unfold nstep
    rw [if_neg (by omega), if_pos ⟨rfl, by omega, by omega, by show k + 1 + (48 + r - 49) ≤ 20; omega⟩]
    show some (k + 1 + (48 + r - 49), _, _) = _
    rw [show k + 1 + (48 + r - 49) = k + r by omega]
  refine ⟨ext c (m + 1) (48 + r), fun i => if i < k + 1 then C i else C (k + 1 - 1), false, fun i hi => ?_, ?_, fun i hi => ?_⟩
  · by_cases q : i = m + 1
    · rw [q, pk_us, ex]
    · rw [pk_un q, h1 i (by omega), hcc i (by omega)]
  · rw [pst, e0, ex]
    show (if m + 1 = m + 1 then (match nstep (k + 1, C, true) (48 + r) with | none => (m + 1, k + 1, C, true) | some s => (m + 2, s)) else (m + 1, k + 1, C, true)) = _
    rw [if_pos rfl, hn]
  · show (if i < k + 1 then C i else C (k + 1 - 1)) = L i
    by_cases q : i < k + 1
    · rw [if_pos q]
      exact h3 i q
    · rw [if_neg q, Nat.add_sub_cancel, h3 k (by omega)]
      have := hr (i - k) (by omega)
      rw [show k + (i - k) = i by omega] at this
      exact this.symm
theorem q_write_loop {N : Nat} {L : Nat → Nat} (h : LW N L) (how : Int32) : ∀ (j k m n : Nat) (t : Nat → Int32), k + j = N → j < n → m ≤ k → (k = 0 → m = 0) → (0 < k → 0 < m) → TX t L m k → ∃ m' t', P_write_5 (cw N L) how n t (nI m) (nI k) = some (t', nI m') ∧ 0 < m' ∧ m' ≤ N ∧ TX t' L m' N := by
  intro j
  induction j using Nat.strongRecOn with
  | ind j ih =>
    intro k m n t hk hn hm hm0 hm1 hT
    obtain ⟨n, rfl⟩ : ∃ z, n = z + 1 := ⟨n - 1, by omega⟩
    have h1 := h.1
    have h2 := h.2.1
    rw [P_write_5, q_size (by omega), ob]
    by_cases c : N ≤ k
    · obtain rfl : k = N := by omega
      exact ⟨m, t, by rw [if_pos (nI_le c (by omega))], hm1 (by omega), hm, hT⟩
    · obtain ⟨r, r1, r9, rN, hr, er⟩ := q_run h (show k < N by omega) 8 1 FU (by omega) (by unfold FU; omega) (by omega) (by omega) (fun i hi => by rw [show i = 0 by omega]; rfl)
      have hl := h.2.2 k (by omega)
      obtain ⟨z, hz, ez⟩ := q_at (jshr how (nI k)) (n := 3) (by omega) (by omega)
      have vm : vx (nI m) 40 := n_in (by omega) (by omega)
      have vm1 : vx (nI m + 1) 40 := by
        rw [nI_1]
        exact n_in (by omega) (by omega)
      have one : ∀ x, ((x = 76 ∧ L k = 0) ∨ (x = 82 ∧ L k = 1)) → ∃ m' t', P_write_5 (cw N L) how n (upd t (Int32.toNatClampNeg (nI m)) (nI x)) (nI m + 1) (nI k + 1) = some (t', nI m') ∧ 0 < m' ∧ m' ≤ N ∧ TX t' L m' N := fun x hx => by
        rw [n_cl (by omega), nI_1, nI_1]
        exact ih (j - 1) (by omega) (k + 1) (m + 1) n _ (by omega) (by omega) (by omega) (by omega) (by omega) (TX_one hT (by omega) hx)
      have many : 2 ≤ r → ∀ x, ((x = 76 ∧ L k = 0) ∨ (x = 82 ∧ L k = 1)) → ∃ m' t', P_write_5 (cw N L) how n (upd (upd t (Int32.toNatClampNeg (nI m)) (nI x)) (Int32.toNatClampNeg (nI m + 1)) (48 + nI r)) ((nI m + 1) + 1) (nI k + nI r) = some (t', nI m') ∧ 0 < m' ∧ m' ≤ N ∧ TX t' L m' N := fun r2 x hx => by
        rw [nI_1, n_cl (by omega), n_cl (by omega), nI_1, nI_add, show (48 : Int32) + nI r = nI (48 + r) from nI_add 48 r]
        exact ih (j - r) (by omega) (k + r) (m + 2) n _ (by omega) (by omega) (by omega) (by omega) (by omega) (TX_many hT hx r2 r9 (by omega) hr)
      rw [if_neg (nI_ge (by omega) (by omega)), show P_write_17 (cw N L) (nI k) FU 1 = _ from er, ob, q_bit (by omega) h.2.2 (by omega), ob, if_pos vm, if_pos vm, show P_at (jshr how (nI k)) 3 = _ from ez, ob, ob, if_pos vm1, if_pos vm1]
      rcases (show L k = 0 ∨ L k = 1 by omega) with e | e
      · rw [e, if_neg (by decide)]
        by_cases c1 : nI r ≤ 1
        · rw [if_pos c1]
          exact one 76 (Or.inl ⟨rfl, e⟩)
        · have r2 : 2 ≤ r := Nat.lt_of_not_le (fun q => c1 (nI_le (b := 1) q (by omega)))
          rw [if_neg c1]
          by_cases c2 : nI z ≤ 0
          · rw [if_pos c2]
            exact one 76 (Or.inl ⟨rfl, e⟩)
          · rw [if_neg c2]
            exact many r2 76 (Or.inl ⟨rfl, e⟩)
      · rw [e, if_pos (by decide)]
        by_cases c1 : nI r ≤ 1
        · rw [if_pos c1]
          exact one 82 (Or.inr ⟨rfl, e⟩)
        · have r2 : 2 ≤ r := Nat.lt_of_not_le (fun q => c1 (nI_le (b := 1) q (by omega)))
          rw [if_neg c1]
          by_cases c2 : nI z ≤ 0
          · rw [if_pos c2]
            exact one 82 (Or.inr ⟨rfl, e⟩)
          · rw [if_neg c2]
            exact many r2 82 (Or.inr ⟨rfl, e⟩)
theorem q_write {N : Nat} {L : Nat → Nat} (h : LW N L) (how : Int32) (t : Nat → Int32) : ∃ m t', P_write t (cw N L) how = some (nI m, t') ∧ 0 < m ∧ m ≤ N ∧ TX t' L m N := by
  have h2 := h.2.1
  obtain ⟨m, t', e, m0, mN, hT⟩ := q_write_loop h how N 0 0 FU t (by omega) (by unfold FU; omega) (by omega) (fun _ => rfl) (fun q => by omega) ⟨fun _ => 0, fun _ => 0, false, fun i hi => by omega, rfl, fun i hi => by omega⟩
  refine ⟨m, t', ?_, m0, mN, hT⟩
  unfold P_write
  rw [show P_write_5 (cw N L) how FU t 0 0 = _ from e]
  rfl
-- SPELLING
theorem pst_all {c : Nat → Nat} {n : Nat} (h : (pst c n).1 = n) : ∀ j i, i + j = n → (pst c i).1 = i
  | 0, i, hi => by
    obtain rfl : i = n := by omega
    exact h
  | j + 1, i, hi => by
    have h1 := pst_all h j (i + 1) (by omega)
    rw [pst] at h1
    by_cases q : (pst c i).1 = i
    · exact q
    · rw [if_neg q] at h1
      have : ∀ z, (pst c z).1 ≤ z := fun z => by
        induction z with
        | zero => exact Nat.le_refl 0
        | succ z ihz =>
          rw [pst]
          by_cases w : (pst c z).1 = z
          · rw [if_pos w]
            cases nstep (pst c z).2 (c z) with
            | none => exact Nat.le_succ_of_le ihz
            | some s => exact Nat.le_refl _
          · rw [if_neg w]
            exact Nat.le_succ_of_le ihz
      have := this i
      omega
theorem pst_step {c : Nat → Nat} {i : Nat} (h : (pst c i).1 = i) (h2 : (pst c (i + 1)).1 = i + 1) : ∃ s, nstep (pst c i).2 (c i) = some s ∧ pst c (i + 1) = (i + 1, s) := by
  rw [pst, if_pos h] at h2 ⊢
  cases e : nstep (pst c i).2 (c i) with
  | none =>
    rw [e] at h2
    simp only at h2
    omega
  | some s => exact ⟨s, rfl, rfl⟩
theorem nstep_ch {s t : Nat × (Nat → Nat) × Bool} {x : Nat} (h : nstep s x = some t) : 32 ≤ x ∧ x ≤ 126 := by
  unfold nstep at h
  by_cases c : x = 76 ∨ x = 82
  · omega
  · rw [if_neg c] at h
    by_cases d : s.2.2 = true ∧ 50 ≤ x ∧ x ≤ 57 ∧ s.1 + (x - 49) ≤ 20
    · omega
    · rw [if_neg d] at h
      cases h
theorem pst_ok (c : Nat → Nat) : ∀ j, PgI (pst c j).2
  | 0 => ⟨by simp [pst], fun i hi => by simp [pst] at hi, fun q => by simp [pst] at q⟩
  | j + 1 => by
    have h := pst_ok c j
    rw [pst]
    by_cases q : (pst c j).1 = j
    · rw [if_pos q]
      cases e : nstep (pst c j).2 (c j) with
      | none => exact h
      | some s => exact (nstep_PgI h e).1
    · rw [if_neg q]
      exact h
theorem q_letter {i : Nat} {s t : Nat × (Nat → Nat) × Bool} {x : Nat} (hi : i < 20) (hs : PgI s) (h : nstep s x = some t) (codes : Nat → Int32) : ∃ o, P4_letter (nI i) (nI i) (nI (bv s.2.1 s.1)) (nI s.1) (b2 s.2.2) codes (nI x) = some (nI (i + 1), nI (i + 1), nI (i + 1), nI (bv t.2.1 t.1), nI t.1, b2 t.2.2, o) := by
  obtain ⟨x1, x2⟩ := nstep_ch h
  have hv : vx (nI i) 20 := n_in hi (by omega)
  rcases w_continues hs (show x < 127 by omega) with ⟨a, b⟩ | ⟨t', a, b⟩
  · rw [h] at a
    cases a
  · rw [h] at a
    cases a
    refine ⟨upd codes (Int32.toNatClampNeg (nI i)) (nI x), ?_⟩
    unfold P4_letter P1_append
    rw [if_neg (show ¬ nI x < (32 : Int32) from fun q => by have := (nI_ltI (b := 32) (by omega) (by omega)).mp q; omega), if_pos (show nI x ≤ (126 : Int32) from nI_le (b := 126) (by omega) (by omega)), if_pos (show nI i < (20 : Int32) from nI_lt (b := 20) hi (by omega)), if_neg (n_neg (by omega)), if_pos rfl, b, ob, if_neg (show ¬ (1 : Int32) = 0 by decide), if_pos hv, if_pos (show nI i < (20 : Int32) from nI_lt (b := 20) hi (by omega)), ob, nI_1]
theorem q_spell_loop {c : Nat → Nat} {t : Nat → Int32} {n : Nat} (hn : n ≤ 20) (ht : ∀ i, i < n → t i = nI (c i)) (hc : (pst c n).1 = n) : ∀ (j i f : Nat) (codes : Nat → Int32), i + j = n → j < f → ∃ o, P_spell_2 t (nI n) f (nI i) (nI i) (nI (bv (pst c i).2.2.1 (pst c i).2.1)) (nI (pst c i).2.1) (b2 (pst c i).2.2.2) codes (nI i) = some (Sum.inr (nI n, nI n, nI (bv (pst c n).2.2.1 (pst c n).2.1), nI (pst c n).2.1, b2 (pst c n).2.2.2, o))
  | 0, i, f, codes, hi, hf => by
    obtain ⟨f, rfl⟩ : ∃ z, f = z + 1 := ⟨f - 1, by omega⟩
    obtain rfl : i = n := by omega
    exact ⟨codes, by rw [P_spell_2, if_pos (nI_le (by omega) (by omega))]⟩
  | j + 1, i, f, codes, hi, hf => by
    obtain ⟨f, rfl⟩ : ∃ z, f = z + 1 := ⟨f - 1, by omega⟩
    obtain ⟨s, h1, h2⟩ := pst_step (pst_all hc (j + 1) i (by omega)) (pst_all hc j (i + 1) (by omega))
    obtain ⟨o, ho⟩ := q_letter (show i < 20 by omega) (pst_ok c i) h1 codes
    obtain ⟨u, hu⟩ := q_spell_loop hn ht hc j (i + 1) f o (by omega) (by omega)
    rw [h2] at hu
    refine ⟨u, ?_⟩
    rw [P_spell_2, if_neg (nI_ge (by omega) (by omega)), if_pos (n_in (by omega) (by omega)), n_cl (by omega), ht i (by omega), ho, ob, nI_1, if_pos rfl]
    exact hu
theorem q_spell {t : Nat → Int32} {L : Nat → Nat} {m N : Nat} (hm : m ≤ 20) (hT : TX t L m N) (codes : Nat → Int32) : ∃ f o, P_spell t 0 0 0 0 0 codes (nI m) = some (1, nI m, nI m, nI (bv L N), nI N, b2 f, o) := by
  obtain ⟨c, C, f, h1, h2, h3⟩ := hT
  obtain ⟨o, ho⟩ := q_spell_loop hm h1 (by rw [h2]) m 0 FU codes (by omega) (by unfold FU; omega)
  rw [h2] at ho
  simp only at ho
  rw [bv_congr h3] at ho
  refine ⟨f, o, ?_⟩
  unfold P_spell
  rw [show P_spell_2 t (nI m) FU 0 0 0 0 0 codes 0 = _ from ho, sb0_r]
