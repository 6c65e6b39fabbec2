-- CROSSINGS
def bk (N x : Nat) : Nat := (x + N - 1) % N
def brk (L T : Nat → Nat) (N M : Nat) : Nat → Nat → Nat → Option Nat
  | 0, _, _ => none
  | n + 1, x, y => if L (bk N x) = T (bk M y) then brk L T N M n (bk N x) (bk M y) else some (bk N x)
def bks (N s x : Nat) : Nat := (x + s * (N - 1)) % N
theorem bks_succ {N s x : Nat} (h : 1 ≤ N) : bks N (s + 1) x = bks N s (bk N x) := by
  unfold bks bk
  rw [Nat.mod_add_mod]
  congr 1
  rw [Nat.add_mul]
  omega
theorem brk_none {L T : Nat → Nat} {N M : Nat} (hN : 1 ≤ N) (hM : 1 ≤ M) : ∀ (c x y : Nat), brk L T N M c x y = none → ∀ s, 1 ≤ s → s ≤ c → L (bks N s x) = T (bks M s y)
  | 0, x, y, _, s, h1, h2 => by omega
  | c + 1, x, y, h, s, h1, h2 => by
    rw [brk] at h
    by_cases he : L (bk N x) = T (bk M y)
    · rw [if_pos he] at h
      obtain ⟨s, rfl⟩ : ∃ z, s = z + 1 := ⟨s - 1, by omega⟩
      rw [bks_succ hN, bks_succ hM]
      by_cases hs : s = 0
      · subst hs
        unfold bks
        rw [Nat.zero_mul, Nat.zero_mul, Nat.add_zero, Nat.add_zero]
        unfold bk at he ⊢
        rw [Nat.mod_mod, Nat.mod_mod]
        exact he
      · exact brk_none hN hM c _ _ h s (by omega) (by omega)
    · rw [if_neg he] at h
      cases h
theorem brk_some {L T : Nat → Nat} {N M : Nat} (hN : 1 ≤ N) (hM : 1 ≤ M) : ∀ (c x y z : Nat), brk L T N M c x y = some z → z < N ∧ ∃ w, w < M ∧ ¬ L z = T w
  | 0, x, y, z, h => by cases h
  | c + 1, x, y, z, h => by
    rw [brk] at h
    by_cases he : L (bk N x) = T (bk M y)
    · rw [if_pos he] at h
      exact brk_some hN hM c _ _ z h
    · rw [if_neg he] at h
      have := Option.some.inj h
      subst this
      exact ⟨Nat.mod_lt _ hN, _, Nat.mod_lt _ hM, he⟩
theorem brk_ex {L T : Nat → Nat} {N M i j : Nat} (hN : 1 ≤ N) (hM : 1 ≤ M) (hi : i < N) (hj : j < M) (hne : ¬ L i = T j) : ∃ z, brk L T N M (N * M) i j = some z := by
  cases h : brk L T N M (N * M) i j with
  | some z => exact ⟨z, rfl⟩
  | none =>
    have h1 : 1 ≤ N * M := Nat.mul_pos hN hM
    have := brk_none hN hM (N * M) i j h (N * M) h1 (Nat.le_refl _)
    have e1 : bks N (N * M) i = i := by
      unfold bks
      rw [Nat.mul_assoc, Nat.add_mul_mod_self_left, Nat.mod_eq_of_lt hi]
    have e2 : bks M (N * M) j = j := by
      unfold bks
      rw [Nat.mul_comm N M, Nat.mul_assoc, Nat.add_mul_mod_self_left, Nat.mod_eq_of_lt hj]
    rw [e1, e2] at this
    exact absurd this hne
/-- u at i and v at j cross -/
def xcr (L T : Nat → Nat) (N M i j : Nat) : Bool := decide (¬ L i = T j) && (match brk L T N M (N * M) i j with | none => false | some z => decide (L z = T j))
theorem bk_pos {N x : Nat} (hx : x < N) (h : ¬ x = 0) : bk N x = x - 1 := by
  unfold bk
  rw [show x + N - 1 = (x - 1) + N by omega, Nat.add_mod_right, Nat.mod_eq_of_lt (by omega)]
theorem bk_zero {N : Nat} (h : 1 ≤ N) : bk N 0 = N - 1 := by
  unfold bk
  rw [Nat.zero_add, Nat.mod_eq_of_lt (by omega)]
theorem bk_lt {N x : Nat} (h : 1 ≤ N) : bk N x < N := Nat.mod_lt _ h
theorem w_back {N x : Nat} (h : 1 ≤ N) (hN : N ≤ 20) (hx : x < N) : (if nI x ≤ 0 then nI N - 1 else nI x - 1) = nI (bk N x) := by
  by_cases h0 : x = 0
  · subst h0
    rw [if_pos (show nI 0 ≤ (0 : Int32) by decide), bk_zero h]
    exact n_sub (a := N) (b := 1) h
  · rw [if_neg (nI_nle (by omega) (by omega)), bk_pos hx h0]
    exact n_sub (a := x) (b := 1) (by omega)
theorem w_crosses_loop {L T : Nat → Nat} {N M i : Nat} (h : LW N L) (hT : LW M T) (hi : i < N) : ∀ (c x y n : Nat), c ≤ 400 → c < n → x < N → y < M → P3_crosses_17 (nI (bv L N)) (nI N) (nI (bv T M)) (nI M) (nI i) n (nI x) (nI y) (nI c) = some (match brk L T N M c x y with | none => 0 | some z => if L z = L i then 0 else 1) := by
  intro c
  induction c with
  | zero =>
    intro x y n hc hn hx hy
    obtain ⟨n, rfl⟩ : ∃ z, n = z + 1 := ⟨n - 1, by omega⟩
    rw [P3_crosses_17, if_pos (show nI 0 ≤ (0 : Int32) by decide)]
    rfl
  | succ c ih =>
    intro x y n hc hn hx hy
    obtain ⟨n, rfl⟩ : ∃ z, n = z + 1 := ⟨n - 1, by omega⟩
    have h1 := h.1
    have h2 := h.2.1
    have h3 := hT.1
    have h4 := hT.2.1
    have ex := w_back h1 h2 hx
    have ey := w_back h3 h4 hy
    have li := h.2.2 i hi
    have lz := h.2.2 (bk N x) (bk_lt h1)
    have lt := hT.2.2 (bk M y) (bk_lt h3)
    have ih := ih (bk N x) (bk M y) n (by omega) (by omega) (bk_lt h1) (bk_lt h3)
    have key : ∀ r1 r2 : Int32, r1 = nI (bk N x) → r2 = nI (bk M y) → (Option.bind (P3_bitAt (nI (bv L N)) (nI N) r1) fun a => Option.bind (P3_bitAt (nI (bv T M)) (nI M) r2) fun b => if a = b then P3_crosses_17 (nI (bv L N)) (nI N) (nI (bv T M)) (nI M) (nI i) n r1 r2 (nI c) else Option.bind (P3_bitAt (nI (bv L N)) (nI N) r1) fun a2 => Option.bind (P3_bitAt (nI (bv L N)) (nI N) (nI i)) fun b2 => if a2 = b2 then some (0 : Int32) else some 1) = some (match brk L T N M (c + 1) x y with | none => 0 | some z => if L z = L i then 0 else 1) := by
      intro r1 r2 e1 e2
      subst e1
      subst e2
      rw [w_bitAt h (bk_lt h1), ob, w_bitAt hT (bk_lt h3), ob, brk]
      by_cases he : L (bk N x) = T (bk M y)
      · rw [if_pos (by rw [he]), if_pos he]
        exact ih
      · rw [if_neg (fun q => he ((nI_eq (by omega) (by omega)).mp q)), if_neg he, ob, w_bitAt h hi, ob]
        by_cases hl : L (bk N x) = L i
        · rw [if_pos (by rw [hl])]
          show some 0 = some (if L (bk N x) = L i then 0 else 1)
          rw [if_pos hl]
        · rw [if_neg (fun q => hl ((nI_eq (by omega) (by omega)).mp q))]
          show some 1 = some (if L (bk N x) = L i then 0 else 1)
          rw [if_neg hl]
    rw [P3_crosses_17, if_neg (nI_nle (by omega) (by omega)), pk_m1]
    by_cases hx0 : nI x ≤ 0
    · rw [if_pos hx0] at ex ⊢
      by_cases hy0 : nI y ≤ 0
      · rw [if_pos hy0] at ey ⊢
        exact key _ _ ex ey
      · rw [if_neg hy0] at ey ⊢
        exact key _ _ ex ey
    · rw [if_neg hx0] at ex ⊢
      by_cases hy0 : nI y ≤ 0
      · rw [if_pos hy0] at ey ⊢
        exact key _ _ ex ey
      · rw [if_neg hy0] at ey ⊢
        exact key _ _ ex ey
theorem nm400 {N M : Nat} (h : N ≤ 20) (h2 : M ≤ 20) : N * M ≤ 400 := Nat.mul_le_mul h h2
theorem w_crosses {L T : Nat → Nat} {N M i j : Nat} (h : LW N L) (hT : LW M T) (hi : i < N) (hj : j < M) (hne : ¬ L i = T j) : P3_crosses (nI (bv L N)) (nI N) (nI (bv T M)) (nI M) (nI i) (nI j) = some (if xcr L T N M i j = true then 1 else 0) := by
  have hnm := nm400 h.2.1 hT.2.1
  unfold P3_crosses
  rw [pk_mul, w_crosses_loop h hT hi (N * M) i j FU hnm (by unfold FU; omega) hi hj]
  obtain ⟨z, hz⟩ := brk_ex h.1 hT.1 hi hj hne
  have l1 := h.2.2 i hi
  have l2 := hT.2.2 j hj
  obtain ⟨hzN, w, hw, hzw⟩ := brk_some h.1 hT.1 _ _ _ _ hz
  have l3 := h.2.2 z hzN
  unfold xcr
  rw [hz]
  show some (if L z = L i then (0 : Int32) else 1) = some (if (decide (¬ L i = T j) && decide (L z = T j)) = true then 1 else 0)
  by_cases hl : L z = L i
  · rw [if_pos hl, if_neg (by simp; omega)]
  · rw [if_neg hl, if_pos (by simp; omega)]
/-- how many of the first n -/
def cnt (f : Nat → Bool) : Nat → Nat
  | 0 => 0
  | n + 1 => cnt f n + (if f n = true then 1 else 0)
def sm (f : Nat → Nat) : Nat → Nat
  | 0 => 0
  | n + 1 => sm f n + f n
def crs (L T : Nat → Nat) (N M : Nat) : Nat := sm (fun i => cnt (xcr L T N M i) M) N
theorem xcr_ne {L T : Nat → Nat} {N M i j : Nat} (h : L i = T j) : xcr L T N M i j = false := by
  unfold xcr
  simp [h]
theorem w_crossIn_loop {L T : Nat → Nat} {N M i : Nat} (h : LW N L) (hT : LW M T) (hi : i < N) (a : Nat) : ∀ (j k n : Nat), k + j = M → j < n → P3_crossings_15 (nI (bv L N)) (nI N) (nI (bv T M)) (nI M) (nI i) n (nI (a + cnt (xcr L T N M i) k)) (nI k) = some (nI (a + cnt (xcr L T N M i) M))
  | 0, k, n, hk, hn => by
    obtain ⟨n, rfl⟩ : ∃ z, n = z + 1 := ⟨n - 1, by omega⟩
    have h4 := hT.2.1
    rw [P3_crossings_15, if_pos (nI_le (by omega) (by omega)), show M = k by omega]
  | j + 1, k, n, hk, hn => by
    obtain ⟨n, rfl⟩ : ∃ z, n = z + 1 := ⟨n - 1, by omega⟩
    have h4 := hT.2.1
    have l1 := h.2.2 i hi
    have l2 := hT.2.2 k (by omega)
    have ih := w_crossIn_loop h hT hi a j (k + 1) n (by omega) (by omega)
    rw [cnt] at ih
    rw [P3_crossings_15, if_neg (nI_ge (by omega) (by omega)), w_bitAt h hi, ob, w_bitAt hT (by omega), ob, nI_1, nI_1]
    by_cases he : L i = T k
    · rw [if_pos (by rw [he])]
      rw [xcr_ne he, if_neg (by decide), Nat.add_zero] at ih
      exact ih
    · rw [if_neg (fun q => he ((nI_eq (by omega) (by omega)).mp q)), w_crosses h hT hi (by omega) he, ob]
      by_cases hc : xcr L T N M i k = true
      · rw [if_pos hc] at ih ⊢
        rw [if_neg (by decide)]
        exact ih
      · rw [if_neg hc] at ih ⊢
        rw [if_pos rfl]
        exact ih
theorem w_crossOut_loop {L T : Nat → Nat} {N M : Nat} (h : LW N L) (hT : LW M T) : ∀ (j k n : Nat), k + j = N → j < n → P3_crossings_4 (nI (bv L N)) (nI N) (nI (bv T M)) (nI M) n (nI (sm (fun i => cnt (xcr L T N M i) M) k)) (nI k) = some (nI (crs L T N M))
  | 0, k, n, hk, hn => by
    obtain ⟨n, rfl⟩ : ∃ z, n = z + 1 := ⟨n - 1, by omega⟩
    have h2 := h.2.1
    rw [P3_crossings_4, if_pos (nI_le (by omega) (by omega)), show k = N by omega]
    rfl
  | j + 1, k, n, hk, hn => by
    obtain ⟨n, rfl⟩ : ∃ z, n = z + 1 := ⟨n - 1, by omega⟩
    have h2 := h.2.1
    have h4 := hT.2.1
    have hin := w_crossIn_loop (i := k) h hT (by omega) (sm (fun i => cnt (xcr L T N M i) M) k) M 0 FU (by omega) (by unfold FU; omega)
    rw [P3_crossings_4, if_neg (nI_ge (by omega) (by omega)), nI_1]
    show Option.bind (P3_crossings_15 (nI (bv L N)) (nI N) (nI (bv T M)) (nI M) (nI k) FU (nI (sm (fun i => cnt (xcr L T N M i) M) k + cnt (xcr L T N M k) 0)) (nI 0)) _ = _
    rw [hin, ob]
    exact w_crossOut_loop h hT j (k + 1) n (by omega) (by omega)
theorem w_crossings {L T : Nat → Nat} {N M : Nat} (h : LW N L) (hT : LW M T) : P3_crossings (nI (bv L N)) (nI N) (nI (bv T M)) (nI M) = some (nI (crs L T N M)) := by
  have h2 := h.2.1
  have := w_crossOut_loop h hT N 0 FU (by omega) (by unfold FU; omega)
  unfold P3_crossings
  show Option.bind (P3_crossings_4 (nI (bv L N)) (nI N) (nI (bv T M)) (nI M) FU (nI (sm (fun i => cnt (xcr L T N M i) M) 0)) (nI 0)) _ = _
  rw [this]
  rfl
-- of the reference
theorem m_back {N x : Nat} (h : 1 ≤ N) (hN : N ≤ 20) (hx : x < N) : jrem ((nI x + nI N) - 1) (nI N) = nI (bk N x) := by
  rw [nI_add, show nI (x + N) - 1 = nI (x + N - 1) from n_sub (a := x + N) (b := 1) (by omega), n_rem (by omega) (by omega) (by omega)]
  rfl
theorem m_isCross_loop {at_ other : Nat → Int32} {L T : Nat → Nat} {N M : Nat} (h : LW N L) (hT : LW M T) (ha : AO at_ N L) (ho : AO other M T) : ∀ (c x y z n : Nat), brk L T N M c x y = some z → c ≤ n → x < N → y < M → P5_isCross_29 (nI N) at_ (nI M) other n (nI x) (nI y) = some (nI z)
  | 0, x, y, z, n, hb, hn, hx, hy => by cases hb
  | c + 1, x, y, z, n, hb, hn, hx, hy => by
    obtain ⟨n, rfl⟩ : ∃ z, n = z + 1 := ⟨n - 1, by omega⟩
    have h1 := h.1
    have h2 := h.2.1
    have h3 := hT.1
    have h4 := hT.2.1
    have b1 : bk N x < N := bk_lt h1
    have b2 : bk M y < M := bk_lt h3
    rw [P5_isCross_29, if_pos (nI_ne0 (by omega) (by omega)), if_pos (nI_ne0 (by omega) (by omega)), m_back h1 h2 hx, m_back h3 h4 hy, if_pos (n_in (by omega) (by omega)), if_pos (n_in (by omega) (by omega)), n_cl (by omega), n_cl (by omega), ha _ b1, ho _ b2]
    have l1 := h.2.2 _ b1
    have l2 := hT.2.2 _ b2
    rw [brk] at hb
    by_cases he : L (bk N x) = T (bk M y)
    · rw [if_pos he] at hb
      rw [if_pos (by rw [he])]
      exact m_isCross_loop h hT ha ho c _ _ z n hb (by omega) b1 b2
    · rw [if_neg he] at hb
      rw [if_neg (fun q => he ((nI_eq (by omega) (by omega)).mp q)), Option.some.inj hb]
theorem m_isCross {at_ other : Nat → Int32} {L T : Nat → Nat} {N M i j : Nat} (h : LW N L) (hT : LW M T) (ha : AO at_ N L) (ho : AO other M T) (hi : i < N) (hj : j < M) : P5_isCross (nI N) at_ (nI M) other (nI i) (nI j) = some (if xcr L T N M i j = true then 1 else 0) := by
  have h2 := h.2.1
  have h4 := hT.2.1
  have hnm := nm400 h2 h4
  have l1 := h.2.2 i hi
  have l2 := hT.2.2 j hj
  unfold P5_isCross
  rw [if_pos (n_in (by omega) (by omega)), if_pos (n_in (by omega) (by omega)), n_cl (by omega), n_cl (by omega), ha i hi, ho j hj]
  by_cases he : L i = T j
  · rw [if_pos (by rw [he]), xcr_ne he]
    rfl
  · rw [if_neg (fun q => he ((nI_eq (by omega) (by omega)).mp q))]
    obtain ⟨z, hz⟩ := brk_ex h.1 hT.1 hi hj he
    obtain ⟨hzN, w, hw, hzw⟩ := brk_some h.1 hT.1 _ _ _ _ hz
    have l3 := h.2.2 z hzN
    rw [m_isCross_loop h hT ha ho (N * M) i j z FU hz (by unfold FU; omega) hi hj, ob, if_pos (n_in (by omega) (by omega)), n_cl (by omega), ha z hzN]
    unfold xcr
    rw [hz]
    show _ = some (if (decide (¬ L i = T j) && decide (L z = T j)) = true then (1 : Int32) else 0)
    by_cases hl : L z = T j
    · rw [if_pos (by rw [hl]), if_pos (by simp [he, hl])]
    · rw [if_neg (fun q => hl ((nI_eq (by omega) (by omega)).mp q)), if_neg (by simp [hl])]
theorem m_crossIn_loop {at_ other : Nat → Int32} {L T : Nat → Nat} {N M i : Nat} (h : LW N L) (hT : LW M T) (ha : AO at_ N L) (ho : AO other M T) (hi : i < N) (a : Nat) : ∀ (j k n : Nat), k + j = M → j < n → P5_crossNow_14 (nI N) at_ (nI M) other (nI i) n (nI (a + cnt (xcr L T N M i) k)) (nI k) = some (nI (a + cnt (xcr L T N M i) M))
  | 0, k, n, hk, hn => by
    obtain ⟨n, rfl⟩ : ∃ z, n = z + 1 := ⟨n - 1, by omega⟩
    have h4 := hT.2.1
    rw [P5_crossNow_14, if_pos (nI_le (by omega) (by omega)), show M = k by omega]
  | j + 1, k, n, hk, hn => by
    obtain ⟨n, rfl⟩ : ∃ z, n = z + 1 := ⟨n - 1, by omega⟩
    have h4 := hT.2.1
    have ih := m_crossIn_loop h hT ha ho hi a j (k + 1) n (by omega) (by omega)
    rw [cnt] at ih
    rw [P5_crossNow_14, if_neg (nI_ge (by omega) (by omega)), m_isCross h hT ha ho hi (by omega), ob, nI_1, nI_1]
    by_cases hc : xcr L T N M i k = true
    · rw [if_pos hc] at ih ⊢
      rw [if_neg (by decide)]
      exact ih
    · rw [if_neg hc] at ih ⊢
      rw [if_pos rfl, Int32.add_zero]
      exact ih
theorem m_crossOut_loop {at_ other : Nat → Int32} {L T : Nat → Nat} {N M : Nat} (h : LW N L) (hT : LW M T) (ha : AO at_ N L) (ho : AO other M T) : ∀ (j k n : Nat), k + j = N → j < n → P5_crossNow_4 (nI N) at_ (nI M) other n (nI (sm (fun i => cnt (xcr L T N M i) M) k)) (nI k) = some (nI (crs L T N M))
  | 0, k, n, hk, hn => by
    obtain ⟨n, rfl⟩ : ∃ z, n = z + 1 := ⟨n - 1, by omega⟩
    have h2 := h.2.1
    rw [P5_crossNow_4, if_pos (nI_le (by omega) (by omega)), show k = N by omega]
    rfl
  | j + 1, k, n, hk, hn => by
    obtain ⟨n, rfl⟩ : ∃ z, n = z + 1 := ⟨n - 1, by omega⟩
    have h2 := h.2.1
    have h4 := hT.2.1
    have hin := m_crossIn_loop (i := k) h hT ha ho (by omega) (sm (fun i => cnt (xcr L T N M i) M) k) M 0 FU (by omega) (by unfold FU; omega)
    rw [P5_crossNow_4, if_neg (nI_ge (by omega) (by omega)), nI_1]
    show Option.bind (P5_crossNow_14 (nI N) at_ (nI M) other (nI k) FU (nI (sm (fun i => cnt (xcr L T N M i) M) k + cnt (xcr L T N M k) 0)) (nI 0)) _ = _
    rw [hin, ob]
    exact m_crossOut_loop h hT ha ho j (k + 1) n (by omega) (by omega)
theorem m_crossNow {at_ other : Nat → Int32} {L T : Nat → Nat} {N M : Nat} (h : LW N L) (hT : LW M T) (ha : AO at_ N L) (ho : AO other M T) : P5_crossNow (nI N) at_ (nI M) other = some (nI (crs L T N M)) := by
  have h2 := h.2.1
  have := m_crossOut_loop h hT ha ho N 0 FU (by omega) (by unfold FU; omega)
  unfold P5_crossNow
  show Option.bind (P5_crossNow_4 (nI N) at_ (nI M) other FU (nI (sm (fun i => cnt (xcr L T N M i) M) 0)) (nI 0)) _ = _
  rw [this]
  rfl
