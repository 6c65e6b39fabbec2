-- WORDS OF THE REFERENCE: what its decompiled functions answer
def AO (f : Nat → Int32) (N : Nat) (L : Nat → Nat) : Prop := ∀ i, i < N → f i = nI (L i)
theorem m_within (v lo hi : Int32) : P5_within v lo hi = some (if lo ≤ v ∧ v ≤ hi then 1 else 0) := by
  unfold P5_within
  by_cases h1 : v < lo
  · rw [if_pos h1, if_neg (fun q => absurd h1 (Int32.not_lt.mpr q.1))]
  · rw [if_neg h1]
    by_cases h2 : hi < v
    · rw [if_pos h2, if_neg (fun q => absurd h2 (Int32.not_lt.mpr q.2))]
    · rw [if_neg h2, if_pos ⟨Int32.not_lt.mp h1, Int32.not_lt.mp h2⟩]
theorem m_look_loop {signs : Nat → Int32} {N r : Nat} {L : Nat → Nat} (hN : N ≤ 20) (hr : r < 6) (hs : ∀ i, i < N → signs (20 * r + i) = nI (L i)) : ∀ (j k n : Nat) (at_ : Nat → Int32), k + j = N → j < n → AO at_ k L → ∃ o, P5_look_12 signs (nI N) (nI r) n at_ (nI k) = some o ∧ AO o N L
  | 0, k, n, at_, hk, hn, ha => by
    obtain ⟨n, rfl⟩ : ∃ z, n = z + 1 := ⟨n - 1, by omega⟩
    refine ⟨at_, ?_, ?_⟩
    · rw [P5_look_12, if_pos (nI_le (by omega) (by omega))]
    · rw [show N = k by omega]
      exact ha
  | j + 1, k, n, at_, hk, hn, ha => by
    obtain ⟨n, rfl⟩ : ∃ z, n = z + 1 := ⟨n - 1, by omega⟩
    rw [P5_look_12, if_neg (nI_ge (by omega) (by omega)), show (20 : Int32) = nI 20 from rfl, pk_mul, nI_add, if_pos (n_in (by omega) (by omega)), if_pos (n_in (by omega) (by omega)), n_cl (by omega), n_cl (by omega), hs k (by omega), nI_1]
    refine m_look_loop hN hr hs j (k + 1) n _ (by omega) (by omega) (fun i hi => ?_)
    by_cases h : i = k
    · subst h
      exact pk_us
    · rw [pk_un h]
      exact ha i (by omega)
theorem m_look {lengths signs at_ : Nat → Int32} {N r : Nat} {L : Nat → Nat} (hN : N ≤ 20) (hr : r < 6) (hl : lengths r = nI N) (hs : ∀ i, i < N → signs (20 * r + i) = nI (L i)) : ∃ o, P5_look lengths signs at_ (nI r) = some (nI N, o) ∧ AO o N L := by
  obtain ⟨o, h1, h2⟩ := m_look_loop hN hr hs N 0 FU at_ (by omega) (by unfold FU; omega) (fun i hi => by omega)
  refine ⟨o, ?_, h2⟩
  unfold P5_look
  rw [if_pos (n_in hr (by omega)), n_cl (by omega), hl, show (0 : Int32) = nI 0 from rfl, h1, ob]
/-- how many of the first letters are L -/
def zc (L : Nat → Nat) : Nat → Nat
  | 0 => 0
  | n + 1 => zc L n + (if L n = 0 then 1 else 0)
theorem zc_le (L : Nat → Nat) : ∀ n, zc L n ≤ n
  | 0 => Nat.le_refl 0
  | n + 1 => by
    have := zc_le L n
    rw [zc]
    split <;> omega
theorem m_lefts_loop {at_ : Nat → Int32} {N : Nat} {L : Nat → Nat} (h : LW N L) (ha : AO at_ N L) : ∀ (j k n : Nat), k + j = N → j < n → P5_lefts_4 (nI N) at_ n (nI (zc L k)) (nI k) = some (nI (zc L N))
  | 0, k, n, hk, hn => by
    obtain ⟨n, rfl⟩ : ∃ z, n = z + 1 := ⟨n - 1, by omega⟩
    have h2 := h.2.1
    rw [P5_lefts_4, if_pos (nI_le (by omega) (by omega)), show N = k by omega]
  | j + 1, k, n, hk, hn => by
    obtain ⟨n, rfl⟩ : ∃ z, n = z + 1 := ⟨n - 1, by omega⟩
    have h2 := h.2.1
    have hl := h.2.2 k (by omega)
    have ih := m_lefts_loop h ha j (k + 1) n (by omega) (by omega)
    rw [P5_lefts_4, if_neg (nI_ge (by omega) (by omega)), if_pos (n_in (by omega) (by omega)), n_cl (by omega), ha k (by omega), nI_1, nI_1]
    by_cases h0 : L k = 0
    · rw [h0, if_pos (show nI 0 = (0 : Int32) from rfl)]
      simp only [zc, h0, if_true] at ih
      exact ih
    · rw [show L k = 1 by omega, if_neg (by decide), Int32.add_zero]
      simp only [zc, h0, if_false] at ih
      exact ih
theorem m_lefts {at_ : Nat → Int32} {N : Nat} {L : Nat → Nat} (h : LW N L) (ha : AO at_ N L) : P5_lefts (nI N) at_ = some (nI (zc L N)) := by
  have h2 := h.2.1
  have := m_lefts_loop h ha N 0 FU (by omega) (by unfold FU; omega)
  unfold P5_lefts
  rw [show (0 : Int32) = nI 0 from rfl]
  show Option.bind (P5_lefts_4 (nI N) at_ FU (nI (zc L 0)) (nI 0)) _ = _
  rw [this]
  rfl
theorem zc_bv {L : Nat → Nat} : ∀ {n : Nat}, (∀ i, i < n → L i < 2) → (bv L n = 0 ↔ zc L n = n) ∧ (bv L n + 1 = 2 ^ n ↔ zc L n = 0)
  | 0, _ => by simp [bv, zc]
  | n + 1, h => by
    obtain ⟨h1, h2⟩ := zc_bv (n := n) (fun i hi => h i (by omega))
    have h3 := h n (by omega)
    have h4 := zc_le L n
    have h5 := bv_lt (L := L) (n := n) (fun i hi => h i (by omega))
    show (2 * bv L n + L n = 0 ↔ zc L n + (if L n = 0 then 1 else 0) = n + 1) ∧ (2 * bv L n + L n + 1 = 2 ^ (n + 1) ↔ zc L n + (if L n = 0 then 1 else 0) = 0)
    rw [Nat.pow_succ]
    by_cases h0 : L n = 0
    · rw [if_pos h0, h0]
      omega
    · rw [if_neg h0, show L n = 1 by omega]
      omega
theorem clo_iff {N : Nat} {L : Nat → Nat} (h : LW N L) : clo N L = true ↔ 0 < zc L N ∧ zc L N < N := by
  obtain ⟨h1, h2⟩ := zc_bv h.2.2
  have h3 := zc_le L N
  have h4 := Nat.one_le_two_pow (n := N)
  unfold clo
  rw [decide_eq_true_iff]
  constructor
  · intro q
    omega
  · intro q
    omega
theorem m_isClosedNow {at_ : Nat → Int32} {N : Nat} {L : Nat → Nat} (h : LW N L) (ha : AO at_ N L) : P5_isClosedNow (nI N) at_ = some (if clo N L = true then 1 else 0) := by
  have h2 := h.2.1
  have h3 := zc_le L N
  unfold P5_isClosedNow
  rw [m_lefts h ha, ob, ob, show (0 : Int32) = nI 0 from rfl]
  by_cases c1 : zc L N ≤ 0
  · rw [if_pos (nI_le c1 (by omega)), if_neg (fun q => by have := (clo_iff h).mp q; omega)]
  · rw [if_neg (fun q => c1 ((nI_leI (by omega) (by omega)).mp q))]
    by_cases c2 : N ≤ zc L N
    · rw [if_pos (nI_le c2 (by omega)), if_neg (fun q => by have := (clo_iff h).mp q; omega)]
    · rw [if_neg (fun q => c2 ((nI_leI (by omega) (by omega)).mp q)), if_pos ((clo_iff h).mpr ⟨by omega, by omega⟩)]
/-- the first difference of two words, from a place on -/
def ct (A B : Nat → Nat) : Nat → Nat → Int32
  | _, 0 => 0
  | k, j + 1 => if A k = B k then ct A B (k + 1) j else nI (A k) - nI (B k)
theorem ct_spec {A B : Nat → Nat} {N : Nat} (hA : ∀ i, i < N → A i < 2) (hB : ∀ i, i < N → B i < 2) : ∀ (j k : Nat), k + j = N → (∀ i, i < k → A i = B i) → (ct A B k j = 0 ↔ bv A N = bv B N) ∧ (ct A B k j < 0 ↔ bv A N < bv B N)
  | 0, k, hk, he => by
    have e : bv A N = bv B N := bv_congr (fun i hi => he i (by omega))
    rw [ct, e]
    simp
  | j + 1, k, hk, he => by
    rw [ct]
    by_cases h : A k = B k
    · rw [if_pos h]
      exact ct_spec hA hB j (k + 1) (by omega) (fun i hi => by
        by_cases q : i = k
        · subst q
          exact h
        · exact he i (by omega))
    · rw [if_neg h]
      have h1 := hA k (by omega)
      have h2 := hB k (by omega)
      rcases (show (A k = 0 ∧ B k = 1) ∨ (A k = 1 ∧ B k = 0) by omega) with ⟨a, b⟩ | ⟨a, b⟩
      · have hl := bv_lex hA (show k < N by omega) he (show A k < B k by omega)
        rw [a, b, show nI 0 - nI 1 = (-1 : Int32) from rfl]
        exact ⟨⟨fun q => absurd q (by decide), fun q => by omega⟩, ⟨fun _ => hl, fun _ => by decide⟩⟩
      · have hl := bv_lex hB (show k < N by omega) (fun i hi => (he i hi).symm) (show B k < A k by omega)
        rw [a, b, show nI 1 - nI 0 = (1 : Int32) from rfl]
        exact ⟨⟨fun q => absurd q (by decide), fun q => by omega⟩, ⟨fun q => absurd q (by decide), fun q => by omega⟩⟩
theorem m_cmp_loop {at_ : Nat → Int32} {N a b : Nat} {L : Nat → Nat} (h : LW N L) (ha : AO at_ N L) (hA : a < N) (hB : b < N) : ∀ (j k n : Nat), k + j = N → j < n → P5_compareTurns_2 (nI N) at_ (nI a) (nI b) n (nI k) = some (ct (rot N a L) (rot N b L) k j)
  | 0, k, n, hk, hn => by
    obtain ⟨n, rfl⟩ : ∃ z, n = z + 1 := ⟨n - 1, by omega⟩
    have h2 := h.2.1
    rw [P5_compareTurns_2, if_pos (nI_le (by omega) (by omega)), ct]
  | j + 1, k, n, hk, hn => by
    obtain ⟨n, rfl⟩ : ∃ z, n = z + 1 := ⟨n - 1, by omega⟩
    have h1 := h.1
    have h2 := h.2.1
    have m1 := Nat.mod_lt (a + k) h1
    have m2 := Nat.mod_lt (b + k) h1
    rw [P5_compareTurns_2, if_neg (nI_ge (by omega) (by omega)), nI_add, nI_add, n_rem (by omega) (by omega) (by omega), n_rem (by omega) (by omega) (by omega), if_pos (nI_ne0 (by omega) (by omega)), if_pos (n_in (by omega) (by omega)), if_pos (nI_ne0 (by omega) (by omega)), if_pos (n_in (by omega) (by omega)), n_cl (by omega), n_cl (by omega), ha _ m1, ha _ m2, nI_1, ct]
    have l1 := h.2.2 _ m1
    have l2 := h.2.2 _ m2
    have r1 : rot N a L k = L ((a + k) % N) := rfl
    have r2 : rot N b L k = L ((b + k) % N) := rfl
    by_cases he : rot N a L k = rot N b L k
    · rw [if_pos he, if_pos (by rw [← r1, ← r2, he]; exact Int32.sub_self _)]
      exact m_cmp_loop h ha hA hB j (k + 1) n (by omega) (by omega)
    · rw [if_neg he, r1, r2, if_neg]
      intro q
      rw [r1, r2] at he
      rcases (show (L ((a + k) % N) = 0 ∧ L ((b + k) % N) = 1) ∨ (L ((a + k) % N) = 1 ∧ L ((b + k) % N) = 0) by omega) with ⟨x, y⟩ | ⟨x, y⟩
      · rw [x, y] at q
        exact absurd q (by decide)
      · rw [x, y] at q
        exact absurd q (by decide)
theorem m_cmp {at_ : Nat → Int32} {N a b : Nat} {L : Nat → Nat} (h : LW N L) (ha : AO at_ N L) (hA : a < N) (hB : b < N) : ∃ c : Int32, P5_compareTurns (nI N) at_ (nI a) (nI b) = some c ∧ (c = 0 ↔ bv (rot N a L) N = bv (rot N b L) N) ∧ (c < 0 ↔ bv (rot N a L) N < bv (rot N b L) N) := by
  have h2 := h.2.1
  obtain ⟨s1, s2⟩ := ct_spec (rot_lt (k := a) h) (rot_lt (k := b) h) N 0 (by omega) (fun i hi => by omega)
  refine ⟨_, m_cmp_loop h ha hA hB N 0 FU (by omega) (by unfold FU; omega), s1, s2⟩
theorem rot_0 {N : Nat} {L : Nat → Nat} : bv (rot N 0 L) N = bv L N := bv_congr (fun i hi => by
  unfold rot
  rw [Nat.zero_add, Nat.mod_eq_of_lt hi])
theorem m_period_loop {at_ : Nat → Int32} {N : Nat} {L : Nat → Nat} (h : LW N L) (ha : AO at_ N L) : ∀ (j k n : Nat), k + j = N → j < n → P5_periodNow_2 (nI N) at_ n (nI k) = some (nI (fnd (eqr N L L) k j))
  | 0, k, n, hk, hn => by
    obtain ⟨n, rfl⟩ : ∃ z, n = z + 1 := ⟨n - 1, by omega⟩
    have h1 := h.1
    have h2 := h.2.1
    obtain ⟨c, hc, c0, -⟩ := m_cmp (a := 0) (b := 0) h ha (by omega) (by omega)
    rw [P5_periodNow_2, if_pos (nI_ne0 (by omega) (by omega)), n_rem (by omega) (by omega) (by omega), show k % N = 0 by rw [show k = N by omega]; exact Nat.mod_self N, show P5_compareTurns (nI N) at_ (nI 0) 0 = some c from hc, ob, if_pos (c0.mpr rfl), fnd]
  | j + 1, k, n, hk, hn => by
    obtain ⟨n, rfl⟩ : ∃ z, n = z + 1 := ⟨n - 1, by omega⟩
    have h1 := h.1
    have h2 := h.2.1
    obtain ⟨c, hc, c0, -⟩ := m_cmp (a := k) (b := 0) h ha (by omega) (by omega)
    rw [P5_periodNow_2, if_pos (nI_ne0 (by omega) (by omega)), n_rem (by omega) (by omega) (by omega), Nat.mod_eq_of_lt (by omega), show P5_compareTurns (nI N) at_ (nI k) 0 = some c from hc, ob, nI_1, fnd]
    rw [rot_0] at c0
    by_cases he : bv (rot N k L) N = bv L N
    · rw [if_pos (c0.mpr he), if_pos (by simp [eqr, he])]
    · rw [if_neg (fun q => he (c0.mp q)), if_neg (by simp [eqr, he])]
      exact m_period_loop h ha j (k + 1) n (by omega) (by omega)
theorem m_periodNow {at_ : Nat → Int32} {N : Nat} {L : Nat → Nat} (h : LW N L) (ha : AO at_ N L) : P5_periodNow (nI N) at_ = some (nI (fnd (eqr N L L) 1 (N - 1))) := by
  have h1 := h.1
  have h2 := h.2.1
  unfold P5_periodNow
  rw [show (1 : Int32) = nI 1 from rfl, m_period_loop h ha (N - 1) 1 FU (by omega) (by unfold FU; omega)]
  rfl
theorem m_least_loop {at_ : Nat → Int32} {N : Nat} {L : Nat → Nat} (h : LW N L) (ha : AO at_ N L) : ∀ (j k b n : Nat), k + j = N → b < N → j < n → P5_leastTurnNow_4 (nI N) at_ n (nI b) (nI k) = some (nI (ltn N L j b k))
  | 0, k, b, n, hk, hb, hn => by
    obtain ⟨n, rfl⟩ : ∃ z, n = z + 1 := ⟨n - 1, by omega⟩
    have h2 := h.2.1
    rw [P5_leastTurnNow_4, if_pos (nI_le (by omega) (by omega)), ltn]
  | j + 1, k, b, n, hk, hb, hn => by
    obtain ⟨n, rfl⟩ : ∃ z, n = z + 1 := ⟨n - 1, by omega⟩
    have h2 := h.2.1
    obtain ⟨c, hc, -, c1⟩ := m_cmp (a := k) (b := b) h ha (by omega) hb
    rw [P5_leastTurnNow_4, if_neg (nI_ge (by omega) (by omega)), hc, ob, nI_1, ltn]
    by_cases he : bv (rot N k L) N < bv (rot N b L) N
    · rw [if_neg (Int32.not_le.mpr (c1.mpr he)), if_pos he]
      exact m_least_loop h ha j (k + 1) k n (by omega) (by omega) (by omega)
    · rw [if_pos (Int32.not_lt.mp (fun q => he (c1.mp q))), if_neg he]
      exact m_least_loop h ha j (k + 1) b n (by omega) hb (by omega)
theorem m_leastTurnNow {at_ : Nat → Int32} {N : Nat} {L : Nat → Nat} (h : LW N L) (ha : AO at_ N L) : P5_leastTurnNow (nI N) at_ = some (nI (lst N L)) := by
  have h1 := h.1
  have h2 := h.2.1
  unfold P5_leastTurnNow
  rw [show (0 : Int32) = nI 0 from rfl, show (1 : Int32) = nI 1 from rfl, m_least_loop h ha (N - 1) 1 0 FU (by omega) (by omega) (by unfold FU; omega)]
  rfl
def allq (A B : Nat → Nat) : Nat → Nat → Bool
  | _, 0 => true
  | k, j + 1 => decide (A k = B k) && allq A B (k + 1) j
theorem allq_iff {A B : Nat → Nat} : ∀ (j k : Nat), allq A B k j = true ↔ ∀ i, k ≤ i → i < k + j → A i = B i
  | 0, k => by
    rw [allq]
    exact ⟨fun _ i h1 h2 => by omega, fun _ => rfl⟩
  | j + 1, k => by
    rw [allq, Bool.and_eq_true, decide_eq_true_iff, allq_iff j (k + 1)]
    constructor
    · intro q i h1 h2
      by_cases h : i = k
      · subst h
        exact q.1
      · exact q.2 i (by omega) (by omega)
    · intro q
      exact ⟨q k (Nat.le_refl k) (by omega), fun i h1 h2 => q i (by omega) (by omega)⟩
theorem m_turnIn_loop {at_ other : Nat → Int32} {N b : Nat} {L T : Nat → Nat} (h : LW N L) (ha : AO at_ N L) (hT : ∀ i, i < N → T i < 2) (ho : AO other N T) (hb : b < N) : ∀ (j k n : Nat) (f : Bool), k + j = N → j < n → P5_turnTo_25 (nI N) at_ other (nI b) n (if f = true then 1 else 0) (nI k) = some (if (f && allq (rot N b L) T k j) = true then 1 else 0)
  | 0, k, n, f, hk, hn => by
    obtain ⟨n, rfl⟩ : ∃ z, n = z + 1 := ⟨n - 1, by omega⟩
    have h2 := h.2.1
    rw [P5_turnTo_25, if_pos (nI_le (by omega) (by omega)), allq, Bool.and_true]
  | j + 1, k, n, f, hk, hn => by
    obtain ⟨n, rfl⟩ : ∃ z, n = z + 1 := ⟨n - 1, by omega⟩
    have h1 := h.1
    have h2 := h.2.1
    have m1 := Nat.mod_lt (b + k) h1
    rw [P5_turnTo_25, if_neg (nI_ge (by omega) (by omega)), nI_1, allq]
    have ih0 := m_turnIn_loop h ha hT ho hb j (k + 1) n false (by omega) (by omega)
    have ih1 := m_turnIn_loop h ha hT ho hb j (k + 1) n true (by omega) (by omega)
    cases f
    · exact ih0
    · rw [if_pos rfl, if_neg (show ¬ (1 : Int32) = 0 by decide), nI_add, n_rem (by omega) (by omega) (by omega), if_pos (nI_ne0 (by omega) (by omega)), if_pos (n_in (by omega) (by omega)), if_pos (n_in (by omega) (by omega)), n_cl (by omega), n_cl (by omega), ha _ m1, ho k (by omega)]
      have l1 := h.2.2 _ m1
      have l2 := hT k (by omega)
      have hr : rot N b L k = L ((b + k) % N) := rfl
      by_cases he : L ((b + k) % N) = T k
      · rw [if_pos (by rw [he]), show decide (rot N b L k = T k) = true by rw [hr]; simp [he], Bool.true_and]
        exact ih1
      · rw [if_neg (fun q => he ((nI_eq (by omega) (by omega)).mp q)), show decide (rot N b L k = T k) = false by rw [hr]; simp [he], Bool.false_and]
        exact ih0
theorem m_turnTo_loop {at_ other : Nat → Int32} {N : Nat} {L T : Nat → Nat} (h : LW N L) (ha : AO at_ N L) (hT : ∀ i, i < N → T i < 2) (ho : AO other N T) : ∀ (j k n : Nat), k + j = N → j < n → P5_turnTo_2 (nI N) at_ (nI N) other n (nI k) = some (if fnd (eqr N L T) k j < N then nI (fnd (eqr N L T) k j) else (-2000000001))
  | 0, k, n, hk, hn => by
    obtain ⟨n, rfl⟩ : ∃ z, n = z + 1 := ⟨n - 1, by omega⟩
    have h2 := h.2.1
    rw [P5_turnTo_2, if_pos (nI_le (by omega) (by omega)), fnd, if_neg (by omega)]
  | j + 1, k, n, hk, hn => by
    obtain ⟨n, rfl⟩ : ∃ z, n = z + 1 := ⟨n - 1, by omega⟩
    have h2 := h.2.1
    have hin := m_turnIn_loop (b := k) h ha hT ho (by omega) N 0 FU true (by omega) (by unfold FU; omega)
    rw [P5_turnTo_2, if_neg (nI_ge (by omega) (by omega)), if_pos rfl, show P5_turnTo_25 (nI N) at_ other (nI k) FU 1 0 = _ from hin, ob, nI_1, fnd]
    have hiff : bv (rot N k L) N = bv T N ↔ (true && allq (rot N k L) T 0 N) = true := by
      rw [Bool.true_and, allq_iff, bv_iff (rot_lt h) hT]
      exact ⟨fun q i _ hi => q i (by omega), fun q i hi => q i (Nat.zero_le _) (by omega)⟩
    by_cases he : bv (rot N k L) N = bv T N
    · rw [if_pos (hiff.mp he), if_neg (by decide), if_pos (show eqr N L T k = true by simp [eqr, he]), if_pos (by omega)]
    · rw [if_neg (fun q => he (hiff.mpr q)), if_pos rfl, if_neg (show ¬ eqr N L T k = true by simp [eqr, he])]
      exact m_turnTo_loop h ha hT ho j (k + 1) n (by omega) (by omega)
theorem m_turnTo {at_ other : Nat → Int32} {N : Nat} {L T : Nat → Nat} (h : LW N L) (ha : AO at_ N L) (hT : ∀ i, i < N → T i < 2) (ho : AO other N T) : P5_turnTo (nI N) at_ (nI N) other = some (if fnd (eqr N L T) 0 N < N then nI (fnd (eqr N L T) 0 N) else (-2000000001)) := by
  have h2 := h.2.1
  exact m_turnTo_loop h ha hT ho N 0 FU (by omega) (by unfold FU; omega)
theorem m_turnTo_ne {at_ other : Nat → Int32} {N M : Nat} (hN : 1 ≤ N) (hN2 : N ≤ 20) (hM : M ≤ 20) (hne : ¬ N = M) : P5_turnTo (nI N) at_ (nI M) other = some (-2000000001) := by
  unfold P5_turnTo
  rw [show FU = 3999 + 1 from rfl, P5_turnTo_2, show (0 : Int32) = nI 0 from rfl, if_neg (nI_ge (by omega) (by omega)), if_neg (fun q => hne ((nI_eq (by omega) (by omega)).mp q))]
/-- the other word that is laid: back, mirrored -/
def oth (N : Nat) (L : Nat → Nat) (x y : Int32) : Nat → Nat := fun i => if y = 0 then (if x = 0 then L i else L (N - 1 - i)) else 1 - (if x = 0 then L i else L (N - 1 - i))
theorem m_layOther_loop {at_ : Nat → Int32} {N : Nat} {L : Nat → Nat} (hN : N ≤ 20) (hL : ∀ i, i < N → L i < 2) (ha : AO at_ N L) (x y : Int32) : ∀ (j k n : Nat) (other : Nat → Int32), k + j = N → j < n → AO other k (oth N L x y) → ∃ o, P5_layOther_10 (nI N) at_ x y n other (nI k) = some o ∧ AO o N (oth N L x y)
  | 0, k, n, other, hk, hn, h0 => by
    obtain ⟨n, rfl⟩ : ∃ z, n = z + 1 := ⟨n - 1, by omega⟩
    refine ⟨other, ?_, ?_⟩
    · rw [P5_layOther_10, if_pos (nI_le (by omega) (by omega))]
    · rw [show N = k by omega] at h0 ⊢
      exact h0
  | j + 1, k, n, other, hk, hn, h0 => by
    obtain ⟨n, rfl⟩ : ∃ z, n = z + 1 := ⟨n - 1, by omega⟩
    have step : ∀ v : Int32, v = nI (oth N L x y k) → AO (upd other k v) (k + 1) (oth N L x y) := fun v hv i hi => by
      by_cases q : i = k
      · subst q
        rw [pk_us, hv]
      · rw [pk_un q]
        exact h0 i (by omega)
    have e1 : nI N - 1 - nI k = nI (N - 1 - k) := by rw [show (1 : Int32) = nI 1 from rfl, n_sub (by omega), n_sub (by omega)]
    have l1 := hL k (by omega)
    have l2 := hL (N - 1 - k) (by omega)
    have v1 : vx (nI k) 20 := n_in (show k < 20 by omega) (by omega)
    have v2 : vx (nI (N - 1 - k)) 20 := n_in (show N - 1 - k < 20 by omega) (by omega)
    rw [P5_layOther_10, if_neg (nI_ge (by omega) (by omega)), nI_1, e1]
    by_cases hx : x = 0
    · rw [if_pos hx, if_pos v1]
      by_cases hy : y = 0
      · rw [if_pos hy, if_pos v1, n_cl (by omega), ha k (by omega)]
        exact m_layOther_loop hN hL ha x y j (k + 1) n _ (by omega) (by omega) (step _ (by simp [oth, hx, hy]))
      · rw [if_neg hy, if_pos v1, n_cl (by omega), ha k (by omega)]
        exact m_layOther_loop hN hL ha x y j (k + 1) n _ (by omega) (by omega) (step _ (by simp only [oth, hx, hy, if_true, if_false]; rw [show (1 : Int32) = nI 1 from rfl, n_sub (by omega)]))
    · rw [if_neg hx, if_pos v2]
      by_cases hy : y = 0
      · rw [if_pos hy, if_pos v1, n_cl (by omega), n_cl (by omega), ha (N - 1 - k) (by omega)]
        exact m_layOther_loop hN hL ha x y j (k + 1) n _ (by omega) (by omega) (step _ (by simp [oth, hx, hy]))
      · rw [if_neg hy, if_pos v1, n_cl (by omega), n_cl (by omega), ha (N - 1 - k) (by omega)]
        exact m_layOther_loop hN hL ha x y j (k + 1) n _ (by omega) (by omega) (step _ (by simp only [oth, hx, hy, if_false]; rw [show (1 : Int32) = nI 1 from rfl, n_sub (by omega)]))
theorem m_layOther {at_ other : Nat → Int32} {N : Nat} {L : Nat → Nat} (hN : N ≤ 20) (hL : ∀ i, i < N → L i < 2) (ha : AO at_ N L) (x y : Int32) : ∃ o, P5_layOther (nI N) at_ other x y = some (nI N, o) ∧ AO o N (oth N L x y) := by
  obtain ⟨o, h1, h2⟩ := m_layOther_loop hN hL ha x y N 0 FU other (by omega) (by unfold FU; omega) (fun i hi => by omega)
  refine ⟨o, ?_, h2⟩
  unfold P5_layOther
  rw [show (0 : Int32) = nI 0 from rfl, h1]
  rfl
theorem oth_lt {N : Nat} {L : Nat → Nat} (h : LW N L) (x y : Int32) : ∀ i, i < N → oth N L x y i < 2 := fun i hi => by
  have l1 := h.2.2 i hi
  have l2 := h.2.2 (N - 1 - i) (by omega)
  unfold oth
  split <;> split <;> omega
theorem m_isAlike {at_ other : Nat → Int32} {N : Nat} {L : Nat → Nat} (h : LW N L) (ha : AO at_ N L) (x y : Int32) : ∃ o, P5_isAlike (nI N) at_ other x y = some ((if conj N L (oth N L x y) = true then 1 else 0), nI N, o) ∧ AO o N (oth N L x y) := by
  have h2 := h.2.1
  obtain ⟨o, h1, ho⟩ := m_layOther (other := other) h.2.1 h.2.2 ha x y
  refine ⟨o, ?_, ho⟩
  unfold P5_isAlike
  rw [h1, ob]
  show Option.bind (P5_turnTo (nI N) at_ (nI N) o) _ = _
  rw [m_turnTo h ha (oth_lt h x y) ho, ob]
  unfold conj
  by_cases hc : fnd (eqr N L (oth N L x y)) 0 N < N
  · rw [if_pos hc, if_neg (n_none (by omega)), if_pos (by simp [hc])]
  · rw [if_neg hc, if_pos rfl, if_neg (by simp [hc])]
-- the matrix, from the last letter on
def mb (L : Nat → Nat) (N : Nat) : Nat → Int32 × Int32 × Int32 × Int32
  | 0 => (1, 0, 0, 1)
  | j + 1 => if L (N - 1 - j) = 0 then ((mb L N j).1, (mb L N j).2.1, (mb L N j).2.2.1 + (mb L N j).1, (mb L N j).2.2.2 + (mb L N j).2.1) else ((mb L N j).1 + (mb L N j).2.2.1, (mb L N j).2.1 + (mb L N j).2.2.2, (mb L N j).2.2.1, (mb L N j).2.2.2)
def mm (X Y : Int32 × Int32 × Int32 × Int32) : Int32 × Int32 × Int32 × Int32 := (X.1 * Y.1 + X.2.1 * Y.2.2.1, X.1 * Y.2.1 + X.2.1 * Y.2.2.2, X.2.2.1 * Y.1 + X.2.2.2 * Y.2.2.1, X.2.2.1 * Y.2.1 + X.2.2.2 * Y.2.2.2)
theorem mt_mb {L : Nat → Nat} {N : Nat} (hL : ∀ i, i < N → L i < 2) : ∀ (j k : Nat), k + j = N → mm (mt L k) (mb L N j) = mt L N
  | 0, k, hk => by
    rw [show N = k by omega, mb]
    unfold mm
    simp
  | j + 1, k, hk => by
    rw [← mt_mb hL j (k + 1) (by omega), mb, mt, show N - 1 - j = k by omega]
    have hk2 := hL k (by omega)
    obtain ⟨a, b, c, d⟩ := mt L k
    obtain ⟨a2, b2, c2, d2⟩ := mb L N j
    by_cases h0 : L k = 0
    · rw [if_pos h0, if_neg (by omega)]
      simp only [mm, Prod.mk.injEq]
      refine ⟨?_, ?_, ?_, ?_⟩ <;> grind
    · rw [if_neg h0, if_pos (by omega)]
      simp only [mm, Prod.mk.injEq]
      refine ⟨?_, ?_, ?_, ?_⟩ <;> grind
theorem mb_mt {L : Nat → Nat} {N : Nat} (hL : ∀ i, i < N → L i < 2) : mb L N N = mt L N := by
  rw [← mt_mb hL N 0 (by omega), mt]
  unfold mm
  simp
theorem m_table_loop {at_ : Nat → Int32} {N : Nat} {L : Nat → Nat} (h : LW N L) (ha : AO at_ N L) : ∀ (k j n : Nat), k + j + 1 = N → k + 1 < n → P5_layTable_27 at_ n (mb L N j).1 (mb L N j).2.1 (mb L N j).2.2.1 (mb L N j).2.2.2 (nI k) = some (mb L N N) := by
  intro k
  induction k with
  | zero =>
    intro j n hk hn
    obtain ⟨n, rfl⟩ : ∃ z, n = z + 2 := ⟨n - 2, by omega⟩
    have h2 := h.2.1
    have hl := h.2.2 0 (by omega)
    have e : mb L N N = mb L N (j + 1) := by rw [show N = j + 1 by omega]
    rw [P5_layTable_27, if_neg (n_neg (by omega)), if_pos (n_in (by omega) (by omega)), n_cl (by omega), ha 0 (by omega), e, mb, show N - 1 - j = 0 by omega]
    by_cases h0 : L 0 = 0
    · rw [h0, if_pos (show nI 0 = (0 : Int32) from rfl), if_pos rfl, P5_layTable_27, if_pos (by decide)]
    · rw [if_neg h0, show L 0 = 1 by omega, if_neg (by decide), P5_layTable_27, if_pos (by decide)]
  | succ k ih =>
    intro j n hk hn
    obtain ⟨n, rfl⟩ : ∃ z, n = z + 1 := ⟨n - 1, by omega⟩
    have h2 := h.2.1
    have hl := h.2.2 (k + 1) (by omega)
    have ih := ih (j + 1) n (by omega) (by omega)
    rw [mb, show N - 1 - j = k + 1 by omega] at ih
    rw [P5_layTable_27, if_neg (n_neg (by omega)), if_pos (n_in (by omega) (by omega)), n_cl (by omega), ha (k + 1) (by omega), pk_m1]
    by_cases h0 : L (k + 1) = 0
    · rw [h0, if_pos (show nI 0 = (0 : Int32) from rfl)]
      rw [if_pos h0] at ih
      exact ih
    · rw [if_neg h0] at ih
      rw [show L (k + 1) = 1 by omega, if_neg (by decide)]
      exact ih
theorem m_layTable {at_ : Nat → Int32} {N : Nat} {L : Nat → Nat} (h : LW N L) (ha : AO at_ N L) : P5_layTable (nI N) at_ = some (mt L N) := by
  have h1 := h.1
  have h2 := h.2.1
  unfold P5_layTable
  have := m_table_loop h ha (N - 1) 0 FU (by omega) (by unfold FU; omega)
  rw [mb_mt h.2.2] at this
  rw [show nI N - 1 = nI (N - 1) from n_sub (a := N) (b := 1) h1]
  show Option.bind (P5_layTable_27 at_ FU (mb L N 0).1 (mb L N 0).2.1 (mb L N 0).2.2.1 (mb L N 0).2.2.2 (nI (N - 1))) _ = _
  rw [this]
  rfl
