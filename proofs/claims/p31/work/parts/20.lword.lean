-- THE LAW'S WORDS: what its own functions answer
def le (L : Nat → Nat) : Nat → Nat
  | 0 => 0
  | n + 1 => le L n + L n * 2 ^ n
theorem le_lt {L : Nat → Nat} : ∀ {n : Nat}, (∀ i, i < n → L i < 2) → le L n < 2 ^ n
  | 0, _ => by simp [le]
  | n + 1, h => by
    have h1 := le_lt (n := n) (fun i hi => h i (by omega))
    have h2 := h n (by omega)
    rw [le, Nat.pow_succ]
    rcases (show L n = 0 ∨ L n = 1 by omega) with q | q
    · rw [q]
      omega
    · rw [q]
      omega
theorem le_congr {A B : Nat → Nat} : ∀ {n : Nat}, (∀ i, i < n → A i = B i) → le A n = le B n
  | 0, _ => rfl
  | n + 1, h => by rw [le, le, le_congr (n := n) (fun i hi => h i (by omega)), h n (by omega)]
theorem le_bit {L : Nat → Nat} : ∀ {n i : Nat}, (∀ i, i < n → L i < 2) → i < n → le L n / 2 ^ i % 2 = L i
  | 0, i, _, hi => by omega
  | n + 1, i, h, hi => by
    have h1 := le_lt (n := n) (fun i hi => h i (by omega))
    have h2 := h n (by omega)
    rw [le]
    by_cases q : i = n
    · subst q
      rw [Nat.add_comm, Nat.mul_comm, Nat.mul_add_div (Nat.two_pow_pos _), Nat.div_eq_of_lt h1, Nat.add_zero, Nat.mod_eq_of_lt h2]
    · have ih := le_bit (n := n) (i := i) (fun i hi => h i (by omega)) (by omega)
      have e : L n * 2 ^ n = 2 ^ i * (2 * (L n * 2 ^ (n - i - 1))) := by
        have e2 : 2 ^ n = 2 ^ i * (2 * 2 ^ (n - i - 1)) := by
          rw [← Nat.pow_succ', ← Nat.pow_add]
          congr 1
          omega
        rw [e2]
        simp only [Nat.mul_left_comm, Nat.mul_assoc, Nat.mul_comm]
      rw [e, Nat.add_comm, Nat.mul_add_div (Nat.two_pow_pos _), Nat.mul_add_mod, ih]
theorem le_inj {A B : Nat → Nat} {n : Nat} (hA : ∀ i, i < n → A i < 2) (hB : ∀ i, i < n → B i < 2) (h : le A n = le B n) : ∀ i, i < n → A i = B i := fun i hi => by
  rw [← le_bit hA hi, ← le_bit hB hi, h]
/-- a word as the law writes it: its length, and its letters above -/
def cw (N : Nat) (L : Nat → Nat) : Int32 := nI (N + 32 * le L N)
theorem cw_congr {N : Nat} {A B : Nat → Nat} (h : ∀ i, i < N → A i = B i) : cw N A = cw N B := by
  unfold cw
  rw [le_congr h]
theorem cw_0 (T : Nat → Nat) : cw 0 T = 0 := rfl
theorem tp21 {N : Nat} (h : N ≤ 21) : 2 ^ N ≤ 2097152 := Nat.pow_le_pow_right (n := 2) (by decide) h
theorem cw_lt {N : Nat} {L : Nat → Nat} (hN : N ≤ 21) (h : ∀ i, i < N → L i < 2) : N + 32 * le L N < 2 ^ 31 := by
  have h1 := le_lt h
  have h2 := tp21 hN
  omega
theorem cw_inj {N M : Nat} {A B : Nat → Nat} (hN : N ≤ 21) (hM : M ≤ 21) (hA : ∀ i, i < N → A i < 2) (hB : ∀ i, i < M → B i < 2) (h : cw N A = cw M B) : N = M ∧ ∀ i, i < N → A i = B i := by
  have h1 := (nI_eq (cw_lt hN hA) (cw_lt hM hB)).mp h
  have e : N = M := by omega
  subst e
  exact ⟨rfl, le_inj hA hB (by omega)⟩
theorem q_size {N : Nat} {L : Nat → Nat} (hN : N < 32) : P_size (cw N L) = some (nI N) := by
  unfold P_size cw
  rw [show (31 : Int32) = nI (2 ^ 5 - 1) from rfl, n_mask]
  congr 2
  omega
theorem q_bit {N i : Nat} {L : Nat → Nat} (hN : N ≤ 21) (h : ∀ i, i < N → L i < 2) (hi : i < N) : P_bit (cw N L) (nI i) = some (nI (L i)) := by
  have hl := cw_lt hN h
  unfold P_bit cw
  rw [show (5 : Int32) = nI 5 from rfl, nI_add, n_shr hl (by omega), n_mask1, Nat.pow_add, ← Nat.div_div_eq_div_mul, show (N + 32 * le L N) / 2 ^ 5 = le L N by omega, le_bit h hi]
theorem q_with {k : Nat} {T : Nat → Nat} (hk : k ≤ 20) (h : ∀ i, i < k + 1 → T i < 2) : P_with (cw k T) (nI (T k)) = some (cw (k + 1) T) := by
  have h1 := le_lt (L := T) (n := k) (fun i hi => h i (by omega))
  have h2 := h k (by omega)
  unfold P_with
  rw [q_size (by omega), ob]
  unfold cw
  rw [show (5 : Int32) = nI 5 from rfl, nI_add, nI_1, n_shl _ (by omega), n_or]
  congr 2
  have h3 : k + 32 * le T k + 1 < 2 ^ (5 + k) := by
    rw [Nat.pow_add]
    have : k + 1 < 32 := by omega
    omega
  rw [Nat.mul_comm (T k), Nat.or_comm, ← Nat.two_pow_add_eq_or_of_lt h3, le, Nat.pow_add, Nat.mul_add]
  have e : 32 * (T k * 2 ^ k) = 2 ^ 5 * 2 ^ k * T k := by rw [Nat.mul_comm (T k), ← Nat.mul_assoc]
  omega
theorem q_round {N x : Nat} {L : Nat → Nat} (h : LW N L) (hx : x < 1000) : P_round (cw N L) (nI x) = some (nI (L (x % N))) := by
  obtain ⟨h1, h2, h3⟩ := h
  have hm := Nat.mod_lt x h1
  unfold P_round
  rw [q_size (by omega), ob, if_pos (nI_ne0 h1 (by omega)), if_pos (nI_ne0 h1 (by omega)), n_rem (by omega) h1 (by omega), nI_add, n_rem (by omega) h1 (by omega), Nat.add_mod_right, Nat.mod_mod, q_bit (by omega) h3 hm, ob]
theorem rnd : ∀ d, d < 64 → ∀ n, n < 21 → 1 ≤ n → jrem (jrem (nI d - nI 40) (nI n) + nI n) (nI n) = nI ((d + 40 * (n - 1)) % n) := by decide +kernel
theorem q_back {N i k : Nat} {L : Nat → Nat} (h : LW N L) (hi : i < N) (hk : k ≤ 40) : P_round (cw N L) (nI i - nI k) = some (nI (L (bks N k i))) := by
  obtain ⟨h1, h2, h3⟩ := h
  have e : nI i - nI k = nI (i + (40 - k)) - nI 40 := by
    rw [show (40 : Nat) = (40 - k) + k by omega, ← nI_add (40 - k) k, ← nI_add i]
    grind
  have e2 : (i + (40 - k) + 40 * (N - 1)) % N = bks N k i := by
    unfold bks
    obtain ⟨N, rfl⟩ : ∃ z, N = z + 1 := ⟨N - 1, by omega⟩
    rw [show N + 1 - 1 = N by omega]
    have e3 : i + (40 - k) + 40 * N = (i + k * N) + (40 - k) * (N + 1) := by
      obtain ⟨z, hz⟩ : ∃ z, k + z = 40 := ⟨40 - k, by omega⟩
      have e4 : 40 * N = k * N + z * N := by rw [← hz, Nat.add_mul]
      rw [show 40 - k = z by omega, Nat.mul_add]
      omega
    rw [e3, Nat.add_mul_mod_self_right]
  have hm : bks N k i < N := Nat.mod_lt _ h1
  unfold P_round
  rw [q_size (by omega), ob, if_pos (nI_ne0 h1 (by omega)), if_pos (nI_ne0 h1 (by omega)), e, rnd _ (by omega) _ (by omega) h1, e2, q_bit (by omega) h3 hm, ob]
theorem q_turned_loop {N b : Nat} {L : Nat → Nat} (h : LW N L) (hb : b ≤ 40) : ∀ (j k n : Nat), k + j = N → j < n → P_turned_4 (cw N L) (nI b) n (cw k (rot N b L)) (nI k) = some (cw N (rot N b L))
  | 0, k, n, hk, hn => by
    obtain ⟨n, rfl⟩ : ∃ z, n = z + 1 := ⟨n - 1, by omega⟩
    have h2 := h.2.1
    rw [P_turned_4, q_size (by omega), ob, if_pos (nI_le (by omega) (by omega)), show N = k by omega]
  | j + 1, k, n, hk, hn => by
    obtain ⟨n, rfl⟩ : ∃ z, n = z + 1 := ⟨n - 1, by omega⟩
    have h2 := h.2.1
    have e : L ((k + b) % N) = rot N b L k := by
      unfold rot
      rw [Nat.add_comm]
    rw [P_turned_4, q_size (by omega), ob, if_neg (nI_ge (by omega) (by omega)), nI_add, q_round h (by omega), ob, e, q_with (by omega) (fun i hi => rot_lt h i (by omega)), ob, nI_1]
    exact q_turned_loop h hb j (k + 1) n (by omega) (by omega)
theorem q_turned {N b : Nat} {L : Nat → Nat} (h : LW N L) (hb : b ≤ 40) : P_turned (cw N L) (nI b) = some (cw N (rot N b L)) := by
  have h2 := h.2.1
  have := q_turned_loop h hb N 0 FU (by omega) (by unfold FU; omega)
  unfold P_turned
  rw [show P_turned_4 (cw N L) (nI b) FU 0 0 = _ from this]
  rfl
theorem q_rev_loop {N : Nat} {L : Nat → Nat} (h : LW N L) : ∀ (k j n : Nat), k + j + 1 = N → k + 1 < n → P_back_9 (cw N L) n (cw j (rev N L)) (nI k) = some (cw N (rev N L)) := by
  intro k
  induction k with
  | zero =>
    intro j n hk hn
    obtain ⟨n, rfl⟩ : ∃ z, n = z + 2 := ⟨n - 2, by omega⟩
    have h2 := h.2.1
    have hr : L 0 = rev N L j := by unfold rev; congr 1; omega
    rw [P_back_9, if_neg (n_neg (by omega)), q_bit (by omega) h.2.2 (by omega), ob, hr, q_with (by omega) (fun i hi => (rev_LW h).2.2 i (by omega)), ob, P_back_9, if_pos (by decide), show j + 1 = N by omega]
  | succ k ih =>
    intro j n hk hn
    obtain ⟨n, rfl⟩ : ∃ z, n = z + 1 := ⟨n - 1, by omega⟩
    have h2 := h.2.1
    have hr : L (k + 1) = rev N L j := by unfold rev; congr 1; omega
    rw [P_back_9, if_neg (n_neg (by omega)), q_bit (by omega) h.2.2 (by omega), ob, hr, q_with (by omega) (fun i hi => (rev_LW h).2.2 i (by omega)), ob, pk_m1]
    exact ih (j + 1) n (by omega) (by omega)
theorem q_rev {N : Nat} {L : Nat → Nat} (h : LW N L) : P_back (cw N L) = some (cw N (rev N L)) := by
  have h1 := h.1
  have h2 := h.2.1
  have := q_rev_loop h (N - 1) 0 FU (by omega) (by unfold FU; omega)
  unfold P_back
  rw [q_size (by omega), ob, show nI N - 1 = nI (N - 1) from n_sub (b := 1) h1, show P_back_9 (cw N L) FU 0 (nI (N - 1)) = _ from this]
  rfl
theorem q_mirror_loop {N : Nat} {L : Nat → Nat} (h : LW N L) : ∀ (j k n : Nat), k + j = N → j < n → P_mirror_4 (cw N L) n (cw k (cpl L)) (nI k) = some (cw N (cpl L))
  | 0, k, n, hk, hn => by
    obtain ⟨n, rfl⟩ : ∃ z, n = z + 1 := ⟨n - 1, by omega⟩
    have h2 := h.2.1
    rw [P_mirror_4, q_size (by omega), ob, if_pos (nI_le (by omega) (by omega)), show N = k by omega]
  | j + 1, k, n, hk, hn => by
    obtain ⟨n, rfl⟩ : ∃ z, n = z + 1 := ⟨n - 1, by omega⟩
    have h2 := h.2.1
    have hl := h.2.2 k (by omega)
    have e : 1 - nI (L k) = nI (cpl L k) := n_sub (a := 1) (by omega)
    rw [P_mirror_4, q_size (by omega), ob, if_neg (nI_ge (by omega) (by omega)), q_bit (by omega) h.2.2 (by omega), ob, e, q_with (by omega) (fun i hi => (cpl_LW h).2.2 i (by omega)), ob, nI_1]
    exact q_mirror_loop h j (k + 1) n (by omega) (by omega)
theorem q_mirror {N : Nat} {L : Nat → Nat} (h : LW N L) : P_mirror (cw N L) = some (cw N (cpl L)) := by
  have h2 := h.2.1
  have := q_mirror_loop h N 0 FU (by omega) (by unfold FU; omega)
  unfold P_mirror
  rw [show P_mirror_4 (cw N L) FU 0 0 = _ from this]
  rfl
theorem q_join_loop {N M : Nat} {L T : Nat → Nat} (h : LW N L) (hT : LW M T) (hNM : N + M ≤ 20) : ∀ (j k n : Nat), k + j = M → j < n → P_join_4 (cw M T) n (cw (N + k) (cat N L T)) (nI k) = some (cw (N + M) (cat N L T))
  | 0, k, n, hk, hn => by
    obtain ⟨n, rfl⟩ : ∃ z, n = z + 1 := ⟨n - 1, by omega⟩
    rw [P_join_4, q_size (by omega), ob, if_pos (nI_le (by omega) (by omega)), show M = k by omega]
  | j + 1, k, n, hk, hn => by
    obtain ⟨n, rfl⟩ : ∃ z, n = z + 1 := ⟨n - 1, by omega⟩
    have e : T k = cat N L T (N + k) := by
      unfold cat
      rw [if_neg (by omega), Nat.add_sub_cancel_left]
    rw [P_join_4, q_size (by omega), ob, if_neg (nI_ge (by omega) (by omega)), q_bit (by omega) hT.2.2 (by omega), ob, e, q_with (by omega) (fun i hi => cat_lt h.2.2 hT.2.2 i (by omega)), ob, nI_1]
    exact q_join_loop h hT hNM j (k + 1) n (by omega) (by omega)
theorem q_join {N M : Nat} {L T : Nat → Nat} (h : LW N L) (hT : LW M T) (hNM : N + M ≤ 20) : P_join (cw N L) (cw M T) = some (cw (N + M) (cat N L T)) := by
  have := q_join_loop h hT hNM M 0 FU (by omega) (by unfold FU; omega)
  have e : cw N L = cw (N + 0) (cat N L T) := cw_congr (fun i hi => by unfold cat; rw [if_pos hi])
  unfold P_join
  rw [e, show P_join_4 (cw M T) FU (cw (N + 0) (cat N L T)) 0 = _ from this]
  rfl
theorem q_rights_loop {N : Nat} {L : Nat → Nat} (h : LW N L) : ∀ (j k n : Nat), k + j = N → j < n → P_rights_4 (cw N L) n (nI (k - zc L k)) (nI k) = some (nI (N - zc L N))
  | 0, k, n, hk, hn => by
    obtain ⟨n, rfl⟩ : ∃ z, n = z + 1 := ⟨n - 1, by omega⟩
    have h2 := h.2.1
    rw [P_rights_4, q_size (by omega), ob, if_pos (nI_le (by omega) (by omega)), show N = k by omega]
  | j + 1, k, n, hk, hn => by
    obtain ⟨n, rfl⟩ : ∃ z, n = z + 1 := ⟨n - 1, by omega⟩
    have h2 := h.2.1
    have hl := h.2.2 k (by omega)
    have hz := zc_le L k
    have e : k - zc L k + L k = k + 1 - zc L (k + 1) := by
      rw [zc]
      split <;> omega
    rw [P_rights_4, q_size (by omega), ob, if_neg (nI_ge (by omega) (by omega)), q_bit (by omega) h.2.2 (by omega), ob, nI_add, e, nI_1]
    exact q_rights_loop h j (k + 1) n (by omega) (by omega)
theorem q_rights {N : Nat} {L : Nat → Nat} (h : LW N L) : P_rights (cw N L) = some (nI (N - zc L N)) := by
  have h2 := h.2.1
  have := q_rights_loop h N 0 FU (by omega) (by unfold FU; omega)
  unfold P_rights
  rw [show P_rights_4 (cw N L) FU 0 0 = _ from this]
  rfl
theorem q_isClosed {N : Nat} {L : Nat → Nat} (h : LW N L) : P_isClosed (cw N L) = some (b2 (clo N L)) := by
  have h2 := h.2.1
  have h3 := zc_le L N
  unfold P_isClosed
  rw [q_rights h, ob, ob, q_size (by omega), ob]
  by_cases c1 : N - zc L N ≤ 0
  · rw [if_pos (show nI (N - zc L N) ≤ (0 : Int32) from nI_le (b := 0) c1 (by omega))]
    have : clo N L = false := Bool.eq_false_iff.mpr (fun q => by have := (clo_iff h).mp q; omega)
    rw [this]
    rfl
  · rw [if_neg (show ¬ nI (N - zc L N) ≤ (0 : Int32) from nI_nle (by omega) (by omega))]
    by_cases c2 : N ≤ N - zc L N
    · rw [if_pos (nI_le c2 (by omega))]
      have : clo N L = false := Bool.eq_false_iff.mpr (fun q => by have := (clo_iff h).mp q; omega)
      rw [this]
      rfl
    · rw [if_neg (nI_ge (by omega) (by omega)), (clo_iff h).mpr (by omega)]
      rfl
theorem q_rank_loop {N : Nat} {L : Nat → Nat} (h : LW N L) : ∀ (j k n : Nat), k + j = N → j < n → P_rank_4 (cw N L) n (nI (bv L k)) (nI k) = some (nI (bv L N))
  | 0, k, n, hk, hn => by
    obtain ⟨n, rfl⟩ : ∃ z, n = z + 1 := ⟨n - 1, by omega⟩
    have h2 := h.2.1
    rw [P_rank_4, q_size (by omega), ob, if_pos (nI_le (by omega) (by omega)), show N = k by omega]
  | j + 1, k, n, hk, hn => by
    obtain ⟨n, rfl⟩ : ∃ z, n = z + 1 := ⟨n - 1, by omega⟩
    have h2 := h.2.1
    rw [P_rank_4, q_size (by omega), ob, if_neg (nI_ge (by omega) (by omega)), q_bit (by omega) h.2.2 (by omega), ob, show (2 : Int32) = nI 2 from rfl, pk_mul, nI_add, nI_1]
    exact q_rank_loop h j (k + 1) n (by omega) (by omega)
theorem q_rank {N : Nat} {L : Nat → Nat} (h : LW N L) : P_rank (cw N L) = some (nI (bv L N)) := by
  have h2 := h.2.1
  have := q_rank_loop h N 0 FU (by omega) (by unfold FU; omega)
  unfold P_rank
  rw [show P_rank_4 (cw N L) FU 0 0 = _ from this]
  rfl
theorem q_least_loop {N : Nat} {L : Nat → Nat} (h : LW N L) : ∀ (j k b n : Nat), k + j = N → b < N → j < n → P_least_4 (cw N L) n (cw N (rot N b L)) (nI k) = some (cw N (rot N (ltn N L j b k) L))
  | 0, k, b, n, hk, hb, hn => by
    obtain ⟨n, rfl⟩ : ∃ z, n = z + 1 := ⟨n - 1, by omega⟩
    have h2 := h.2.1
    rw [P_least_4, q_size (by omega), ob, if_pos (nI_le (by omega) (by omega)), ltn]
  | j + 1, k, b, n, hk, hb, hn => by
    obtain ⟨n, rfl⟩ : ∃ z, n = z + 1 := ⟨n - 1, by omega⟩
    have h2 := h.2.1
    have b1 := lw20 (rot_LW (k := k) h)
    have b2 := lw20 (rot_LW (k := b) h)
    rw [P_least_4, q_size (by omega), ob, if_neg (nI_ge (by omega) (by omega)), q_turned h (by omega), ob, q_rank (rot_LW h), ob, q_rank (rot_LW h), ob, ob, nI_1, ltn]
    by_cases hc : bv (rot N k L) N < bv (rot N b L) N
    · rw [if_neg (fun q => by have := (nI_leI (by omega) (by omega)).mp q; omega), if_pos hc]
      exact q_least_loop h j (k + 1) k n (by omega) (by omega) (by omega)
    · rw [if_pos ((nI_leI (by omega) (by omega)).mpr (by omega)), if_neg hc]
      exact q_least_loop h j (k + 1) b n (by omega) hb (by omega)
theorem q_least {N : Nat} {L : Nat → Nat} (h : LW N L) : P_least (cw N L) = some (cw N (rot N (lst N L) L)) := by
  have h1 := h.1
  have h2 := h.2.1
  have := q_least_loop h (N - 1) 1 0 FU (by omega) (by omega) (by unfold FU; omega)
  have e : cw N (rot N 0 L) = cw N L := cw_congr (fun i hi => by unfold rot; rw [Nat.zero_add, Nat.mod_eq_of_lt hi])
  rw [e] at this
  unfold P_least
  rw [show P_least_4 (cw N L) FU (cw N L) 1 = _ from this]
  rfl
/-- two words are turns of one another, as the law has it -/
def alk (N : Nat) (L : Nat → Nat) (M : Nat) (T : Nat → Nat) : Bool := decide (N = M ∧ bv (rot N (lst N L) L) N = bv (rot M (lst M T) T) M)
theorem q_alike {N M : Nat} {L T : Nat → Nat} (h : LW N L) (hT : LW M T) : P_alike (cw N L) (cw M T) = some (b2 (alk N L M T)) := by
  have h2 := h.2.1
  have h4 := hT.2.1
  have r1 := lw20 (rot_LW (k := lst N L) h)
  have r2 := lw20 (rot_LW (k := lst M T) hT)
  unfold P_alike alk
  rw [q_size (by omega), ob, q_size (by omega), ob, q_least h, ob, q_rank (rot_LW h), ob, q_least hT, ob, q_rank (rot_LW hT), ob]
  by_cases c : N = M
  · rw [if_pos (by rw [c])]
    by_cases d : bv (rot N (lst N L) L) N = bv (rot M (lst M T) T) M
    · rw [if_pos (by rw [d]), decide_eq_true ⟨c, d⟩]
      rfl
    · rw [if_neg (fun q => d ((nI_eq (by omega) (by omega)).mp q)), decide_eq_false (fun q => d q.2)]
      rfl
  · rw [if_neg (fun q => c ((nI_eq (by omega) (by omega)).mp q)), decide_eq_false (fun q => c q.1)]
    rfl
/-- the law's table -/
def TB (t : Nat → Int32) (m : Int32 × Int32 × Int32 × Int32) : Prop := t 0 = m.1 ∧ t 1 = m.2.1 ∧ t 2 = m.2.2.1 ∧ t 3 = m.2.2.2
theorem q_table_loop {N : Nat} {L : Nat → Nat} (h : LW N L) : ∀ (j k n : Nat) (t : Nat → Int32), k + j = N → j < n → TB t (mt L k) → ∃ o, P_table_18 (cw N L) n t (nI k) = some o ∧ TB o (mt L N)
  | 0, k, n, t, hk, hn, ht => by
    obtain ⟨n, rfl⟩ : ∃ z, n = z + 1 := ⟨n - 1, by omega⟩
    have h2 := h.2.1
    exact ⟨t, by rw [P_table_18, q_size (by omega), ob, if_pos (nI_le (by omega) (by omega))], by rw [show N = k by omega]; exact ht⟩
  | j + 1, k, n, t, hk, hn, ht => by
    obtain ⟨n, rfl⟩ : ∃ z, n = z + 1 := ⟨n - 1, by omega⟩
    have h2 := h.2.1
    have hl := h.2.2 k (by omega)
    obtain ⟨t0, t1, t2, t3⟩ := ht
    rw [P_table_18, q_size (by omega), ob, if_neg (nI_ge (by omega) (by omega)), q_bit (by omega) h.2.2 (by omega), ob, nI_1]
    rcases (show L k = 0 ∨ L k = 1 by omega) with e | e
    · rw [e, if_pos (by decide), if_pos (by decide), if_pos (by decide), if_pos (by decide), if_pos (by decide), if_pos (by decide)]
      refine q_table_loop h j (k + 1) n _ (by omega) (by omega) ?_
      rw [mt, if_neg (show ¬ L k = 1 by omega)]
      exact ⟨show t 0 + t 1 = _ by rw [t0, t1], t1, show t 2 + t 3 = _ by rw [t2, t3], t3⟩
    · rw [e, if_pos (by decide), if_pos (by decide), if_pos (by decide), if_pos (by decide), if_pos (by decide), if_pos (by decide)]
      refine q_table_loop h j (k + 1) n _ (by omega) (by omega) ?_
      rw [mt, if_pos e]
      exact ⟨t0, show t 1 + t 0 = _ by rw [t1, t0], t2, show t 3 + t 2 = _ by rw [t3, t2]⟩
theorem q_table {N : Nat} {L : Nat → Nat} (h : LW N L) (t : Nat → Int32) : ∃ o, P_table t (cw N L) = some o ∧ TB o (mt L N) := by
  have h2 := h.2.1
  obtain ⟨o, h3, h4⟩ := q_table_loop h N 0 FU (upd (upd (upd (upd t (Int32.toNatClampNeg 0) 1) (Int32.toNatClampNeg 1) 0) (Int32.toNatClampNeg 2) 0) (Int32.toNatClampNeg 3) 1) (by omega) (by unfold FU; omega) ⟨rfl, rfl, rfl, rfl⟩
  refine ⟨o, ?_, h4⟩
  unfold P_table
  rw [if_pos (by decide), if_pos (by decide), if_pos (by decide), if_pos (by decide), show P_table_18 (cw N L) FU (upd (upd (upd (upd t (Int32.toNatClampNeg 0) 1) (Int32.toNatClampNeg 1) 0) (Int32.toNatClampNeg 2) 0) (Int32.toNatClampNeg 3) 1) 0 = _ from h3]
  rfl
theorem euclL : ∀ (t n a b : Nat), b < 2 ^ t → a < 2 ^ 31 → b < 2 ^ 31 → 2 * t + 1 ≤ n → P_gcd_22 n (nI a) (nI b) = some (nI (Nat.gcd a b))
  | 0, n, a, b, hb, ha, hb2, hn => by
    obtain ⟨n, rfl⟩ : ∃ z, n = z + 1 := ⟨n - 1, by omega⟩
    have h0 : b = 0 := by simpa using hb
    subst h0
    rw [P_gcd_22, if_pos (show nI 0 = (0 : Int32) by decide), Nat.gcd_zero_right]
  | t + 1, n, a, b, hb, ha, hb2, hn => by
    obtain ⟨n, rfl⟩ : ∃ z, n = z + 2 := ⟨n - 2, by omega⟩
    rw [P_gcd_22]
    by_cases h0 : b = 0
    · subst h0
      rw [if_pos (show nI 0 = (0 : Int32) by decide), Nat.gcd_zero_right]
    · have hm := Nat.mod_lt a (show 0 < b by omega)
      rw [if_neg (nI_ne0 (by omega) (by omega)), if_pos (nI_ne0 (by omega) (by omega)), n_rem ha (by omega) hb2, P_gcd_22]
      by_cases h1 : a % b = 0
      · rw [h1, if_pos (show nI 0 = (0 : Int32) by decide), Nat.gcd_comm a b, Nat.gcd_rec b a, h1, Nat.gcd_zero_left]
      · have hm2 := Nat.mod_lt b (show 0 < a % b by omega)
        have hh : b % (a % b) < 2 ^ t := by
          have e := Nat.div_add_mod b (a % b)
          have q : 1 ≤ b / (a % b) := (Nat.one_le_div_iff (by omega)).mpr (by omega)
          have q2 : a % b ≤ (a % b) * (b / (a % b)) := Nat.le_mul_of_pos_right _ q
          have q3 : 2 ^ (t + 1) = 2 ^ t * 2 := Nat.pow_succ 2 t
          omega
        rw [if_neg (nI_ne0 (by omega) (by omega)), if_pos (nI_ne0 (by omega) (by omega)), n_rem hb2 (by omega) (by omega), euclL t n (a % b) (b % (a % b)) hh (by omega) (by omega) (by omega)]
        congr 2
        rw [Nat.gcd_comm a b, Nat.gcd_rec b a, Nat.gcd_rec (a % b) b, Nat.gcd_comm]
theorem q_gcd {x y : Int32} (hx : Ok x) (hy : Ok y) : P_gcd x y = some (nI (Nat.gcd (na x) (na y))) := by
  have h1 := ok_lt hx
  have h2 := ok_lt hy
  have e := euclL 31 FU _ _ h2 h1 h2 (by unfold FU; omega)
  rw [← na_abs hx, ← na_abs hy] at e
  unfold P_gcd
  by_cases c1 : 0 ≤ x
  · rw [if_pos c1] at e ⊢
    by_cases c2 : 0 ≤ y
    · rw [if_pos c2] at e ⊢
      rw [e]
      rfl
    · rw [if_neg c2] at e ⊢
      rw [e]
      rfl
  · rw [if_neg c1] at e ⊢
    by_cases c2 : 0 ≤ y
    · rw [if_pos c2] at e ⊢
      rw [e]
      rfl
    · rw [if_neg c2] at e ⊢
      rw [e]
      rfl
