-- CROSSINGS, forms, bits of the class
def b2 (b : Bool) : Int32 := if b = true then 1 else 0
theorem n_a0 (x : Int32) : x + 0 = x := Int32.add_zero x
def bk (N x : Nat) : Nat := (x + N - 1) % N
def brk (L T : Nat → Nat) (N M : Nat) : Nat → Nat → Nat → Option Nat
  | 0, _, _ => none
  | n + 1, x, y => if L (bk N x) = T (bk M y) then brk L T N M n (bk N x) (bk M y) else some (bk N x)
def bks (N s x : Nat) : Nat := (x + s * (N - 1)) % N
theorem bks_succ {N s x : Nat} (h : 1 ≤ N) : bks N (s + 1) x = bks N s (bk N x) := by
  unfold bks bk
  rw [Nat.mod_add_mod]
  congr 1
  rw [Nat.add_mul]
  omega
theorem brk_none {L T : Nat → Nat} {N M : Nat} (hN : 1 ≤ N) (hM : 1 ≤ M) : ∀ (c x y : Nat), brk L T N M c x y = none → ∀ s, 1 ≤ s → s ≤ c → L (bks N s x) = T (bks M s y)
  | 0, x, y, _, s, h1, h2 => by omega
  | c + 1, x, y, h, s, h1, h2 => by
    rw [brk] at h
    by_cases he : L (bk N x) = T (bk M y)
    · rw [if_pos he] at h
      obtain ⟨s, rfl⟩ : ∃ z, s = z + 1 := ⟨s - 1, by omega⟩
      rw [bks_succ hN, bks_succ hM]
      by_cases hs : s = 0
      · subst hs
        unfold bks
        rw [Nat.zero_mul, Nat.zero_mul, Nat.add_zero, Nat.add_zero]
        unfold bk at he ⊢
        rw [Nat.mod_mod, Nat.mod_mod]
        exact he
      · exact brk_none hN hM c _ _ h s (by omega) (by omega)
    · rw [if_neg he] at h
      cases h
theorem brk_some {L T : Nat → Nat} {N M : Nat} (hN : 1 ≤ N) (hM : 1 ≤ M) : ∀ (c x y z : Nat), brk L T N M c x y = some z → z < N ∧ ∃ w, w < M ∧ ¬ L z = T w
  | 0, x, y, z, h => by cases h
  | c + 1, x, y, z, h => by
    rw [brk] at h
    by_cases he : L (bk N x) = T (bk M y)
    · rw [if_pos he] at h
      exact brk_some hN hM c _ _ z h
    · rw [if_neg he] at h
      have := Option.some.inj h
      subst this
      exact ⟨Nat.mod_lt _ hN, _, Nat.mod_lt _ hM, he⟩
theorem brk_ex {L T : Nat → Nat} {N M i j : Nat} (hN : 1 ≤ N) (hM : 1 ≤ M) (hi : i < N) (hj : j < M) (hne : ¬ L i = T j) : ∃ z, brk L T N M (N * M) i j = some z := by
  cases h : brk L T N M (N * M) i j with
  | some z => exact ⟨z, rfl⟩
  | none =>
    have h1 : 1 ≤ N * M := Nat.mul_pos hN hM
    have := brk_none hN hM (N * M) i j h (N * M) h1 (Nat.le_refl _)
    have e1 : bks N (N * M) i = i := by
      unfold bks
      rw [Nat.mul_assoc, Nat.add_mul_mod_self_left, Nat.mod_eq_of_lt hi]
    have e2 : bks M (N * M) j = j := by
      unfold bks
      rw [Nat.mul_comm N M, Nat.mul_assoc, Nat.add_mul_mod_self_left, Nat.mod_eq_of_lt hj]
    rw [e1, e2] at this
    exact absurd this hne
/-- u at i and v at j cross -/
def xcr (L T : Nat → Nat) (N M i j : Nat) : Bool := decide (¬ L i = T j) && (match brk L T N M (N * M) i j with | none => false | some z => decide (L z = T j))
theorem bk_pos {N x : Nat} (hx : x < N) (h : ¬ x = 0) : bk N x = x - 1 := by
  unfold bk
  rw [show x + N - 1 = (x - 1) + N by omega, Nat.add_mod_right, Nat.mod_eq_of_lt (by omega)]
theorem bk_zero {N : Nat} (h : 1 ≤ N) : bk N 0 = N - 1 := by
  unfold bk
  rw [Nat.zero_add, Nat.mod_eq_of_lt (by omega)]
theorem bk_lt {N x : Nat} (h : 1 ≤ N) : bk N x < N := Nat.mod_lt _ h
theorem w_back {N x : Nat} (h : 1 ≤ N) (hN : N ≤ 20) (hx : x < N) : (if nI x ≤ 0 then nI N - 1 else nI x - 1) = nI (bk N x) := by
  by_cases h0 : x = 0
  · subst h0
    rw [if_pos (show nI 0 ≤ (0 : Int32) by decide), bk_zero h]
    exact n_sub (a := N) (b := 1) h
  · rw [if_neg (nI_nle (by omega) (by omega)), bk_pos hx h0]
    exact n_sub (a := x) (b := 1) (by omega)
theorem w_crosses_loop {L T : Nat → Nat} {N M i : Nat} (h : LW N L) (hT : LW M T) (hi : i < N) : ∀ (c x y n : Nat), c ≤ 400 → c < n → x < N → y < M → P3_crosses_17 (nI (bv L N)) (nI N) (nI (bv T M)) (nI M) (nI i) n (nI x) (nI y) (nI c) = some (match brk L T N M c x y with | none => 0 | some z => if L z = L i then 0 else 1) := by
  intro c
  induction c with
  | zero =>
    intro x y n hc hn hx hy
    obtain ⟨n, rfl⟩ : ∃ z, n = z + 1 := ⟨n - 1, by omega⟩
    rw [P3_crosses_17, if_pos (show nI 0 ≤ (0 : Int32) by decide)]
    rfl
  | succ c ih =>
    intro x y n hc hn hx hy
    obtain ⟨n, rfl⟩ : ∃ z, n = z + 1 := ⟨n - 1, by omega⟩
    have h1 := h.1
    have h2 := h.2.1
    have h3 := hT.1
    have h4 := hT.2.1
    have ex := w_back h1 h2 hx
    have ey := w_back h3 h4 hy
    have li := h.2.2 i hi
    have lz := h.2.2 (bk N x) (bk_lt h1)
    have lt := hT.2.2 (bk M y) (bk_lt h3)
    have ih := ih (bk N x) (bk M y) n (by omega) (by omega) (bk_lt h1) (bk_lt h3)
    have key : ∀ r1 r2 : Int32, r1 = nI (bk N x) → r2 = nI (bk M y) → (Option.bind (P3_bitAt (nI (bv L N)) (nI N) r1) fun a => Option.bind (P3_bitAt (nI (bv T M)) (nI M) r2) fun b => if a = b then P3_crosses_17 (nI (bv L N)) (nI N) (nI (bv T M)) (nI M) (nI i) n r1 r2 (nI c) else Option.bind (P3_bitAt (nI (bv L N)) (nI N) r1) fun a2 => Option.bind (P3_bitAt (nI (bv L N)) (nI N) (nI i)) fun b2 => if a2 = b2 then some (0 : Int32) else some 1) = some (match brk L T N M (c + 1) x y with | none => 0 | some z => if L z = L i then 0 else 1) := by
      intro r1 r2 e1 e2
      subst e1
      subst e2
      rw [w_bitAt h (bk_lt h1), ob, w_bitAt hT (bk_lt h3), ob, brk]
      by_cases he : L (bk N x) = T (bk M y)
      · rw [if_pos (by rw [he]), if_pos he]
        exact ih
      · rw [if_neg (fun q => he ((nI_eq (by omega) (by omega)).mp q)), if_neg he, ob, w_bitAt h hi, ob]
        by_cases hl : L (bk N x) = L i
        · rw [if_pos (by rw [hl])]
          show some 0 = some (if L (bk N x) = L i then 0 else 1)
          rw [if_pos hl]
        · rw [if_neg (fun q => hl ((nI_eq (by omega) (by omega)).mp q))]
          show some 1 = some (if L (bk N x) = L i then 0 else 1)
          rw [if_neg hl]
    rw [P3_crosses_17, if_neg (nI_nle (by omega) (by omega)), pk_m1]
    by_cases hx0 : nI x ≤ 0
    · rw [if_pos hx0] at ex ⊢
      by_cases hy0 : nI y ≤ 0
      · rw [if_pos hy0] at ey ⊢
        exact key _ _ ex ey
      · rw [if_neg hy0] at ey ⊢
        exact key _ _ ex ey
    · rw [if_neg hx0] at ex ⊢
      by_cases hy0 : nI y ≤ 0
      · rw [if_pos hy0] at ey ⊢
        exact key _ _ ex ey
      · rw [if_neg hy0] at ey ⊢
        exact key _ _ ex ey
theorem nm400 {N M : Nat} (h : N ≤ 20) (h2 : M ≤ 20) : N * M ≤ 400 := Nat.mul_le_mul h h2
theorem w_crosses {L T : Nat → Nat} {N M i j : Nat} (h : LW N L) (hT : LW M T) (hi : i < N) (hj : j < M) (hne : ¬ L i = T j) : P3_crosses (nI (bv L N)) (nI N) (nI (bv T M)) (nI M) (nI i) (nI j) = some (if xcr L T N M i j = true then 1 else 0) := by
  have hnm := nm400 h.2.1 hT.2.1
  unfold P3_crosses
  rw [pk_mul, w_crosses_loop h hT hi (N * M) i j FU hnm (by unfold FU; omega) hi hj]
  obtain ⟨z, hz⟩ := brk_ex h.1 hT.1 hi hj hne
  have l1 := h.2.2 i hi
  have l2 := hT.2.2 j hj
  obtain ⟨hzN, w, hw, hzw⟩ := brk_some h.1 hT.1 _ _ _ _ hz
  have l3 := h.2.2 z hzN
  unfold xcr
  rw [hz]
  show some (if L z = L i then (0 : Int32) else 1) = some (if (decide (¬ L i = T j) && decide (L z = T j)) = true then 1 else 0)
  by_cases hl : L z = L i
  · rw [if_pos hl, if_neg (by simp; omega)]
  · rw [if_neg hl, if_pos (by simp; omega)]
/-- how many of the first n -/
def cnt (f : Nat → Bool) : Nat → Nat
  | 0 => 0
  | n + 1 => cnt f n + (if f n = true then 1 else 0)
def sm (f : Nat → Nat) : Nat → Nat
  | 0 => 0
  | n + 1 => sm f n + f n
def crs (L T : Nat → Nat) (N M : Nat) : Nat := sm (fun i => cnt (xcr L T N M i) M) N
theorem xcr_ne {L T : Nat → Nat} {N M i j : Nat} (h : L i = T j) : xcr L T N M i j = false := by
  unfold xcr
  simp [h]
theorem w_crossIn_loop {L T : Nat → Nat} {N M i : Nat} (h : LW N L) (hT : LW M T) (hi : i < N) (a : Nat) : ∀ (j k n : Nat), k + j = M → j < n → P3_crossings_15 (nI (bv L N)) (nI N) (nI (bv T M)) (nI M) (nI i) n (nI (a + cnt (xcr L T N M i) k)) (nI k) = some (nI (a + cnt (xcr L T N M i) M))
  | 0, k, n, hk, hn => by
    obtain ⟨n, rfl⟩ : ∃ z, n = z + 1 := ⟨n - 1, by omega⟩
    have h4 := hT.2.1
    rw [P3_crossings_15, if_pos (nI_le (by omega) (by omega)), show M = k by omega]
  | j + 1, k, n, hk, hn => by
    obtain ⟨n, rfl⟩ : ∃ z, n = z + 1 := ⟨n - 1, by omega⟩
    have h4 := hT.2.1
    have l1 := h.2.2 i hi
    have l2 := hT.2.2 k (by omega)
    have ih := w_crossIn_loop h hT hi a j (k + 1) n (by omega) (by omega)
    rw [cnt] at ih
    rw [P3_crossings_15, if_neg (nI_ge (by omega) (by omega)), w_bitAt h hi, ob, w_bitAt hT (by omega), ob, nI_1, nI_1]
    by_cases he : L i = T k
    · rw [if_pos (by rw [he])]
      rw [xcr_ne he, if_neg (by decide), Nat.add_zero] at ih
      exact ih
    · rw [if_neg (fun q => he ((nI_eq (by omega) (by omega)).mp q)), w_crosses h hT hi (by omega) he, ob]
      by_cases hc : xcr L T N M i k = true
      · rw [if_pos hc] at ih ⊢
        rw [if_neg (by decide)]
        exact ih
      · rw [if_neg hc] at ih ⊢
        rw [if_pos rfl]
        exact ih
theorem w_crossOut_loop {L T : Nat → Nat} {N M : Nat} (h : LW N L) (hT : LW M T) : ∀ (j k n : Nat), k + j = N → j < n → P3_crossings_4 (nI (bv L N)) (nI N) (nI (bv T M)) (nI M) n (nI (sm (fun i => cnt (xcr L T N M i) M) k)) (nI k) = some (nI (crs L T N M))
  | 0, k, n, hk, hn => by
    obtain ⟨n, rfl⟩ : ∃ z, n = z + 1 := ⟨n - 1, by omega⟩
    have h2 := h.2.1
    rw [P3_crossings_4, if_pos (nI_le (by omega) (by omega)), show k = N by omega]
    rfl
  | j + 1, k, n, hk, hn => by
    obtain ⟨n, rfl⟩ : ∃ z, n = z + 1 := ⟨n - 1, by omega⟩
    have h2 := h.2.1
    have h4 := hT.2.1
    have hin := w_crossIn_loop (i := k) h hT (by omega) (sm (fun i => cnt (xcr L T N M i) M) k) M 0 FU (by omega) (by unfold FU; omega)
    rw [P3_crossings_4, if_neg (nI_ge (by omega) (by omega)), nI_1]
    show Option.bind (P3_crossings_15 (nI (bv L N)) (nI N) (nI (bv T M)) (nI M) (nI k) FU (nI (sm (fun i => cnt (xcr L T N M i) M) k + cnt (xcr L T N M k) 0)) (nI 0)) _ = _
    rw [hin, ob]
    exact w_crossOut_loop h hT j (k + 1) n (by omega) (by omega)
theorem w_crossings {L T : Nat → Nat} {N M : Nat} (h : LW N L) (hT : LW M T) : P3_crossings (nI (bv L N)) (nI N) (nI (bv T M)) (nI M) = some (nI (crs L T N M)) := by
  have h2 := h.2.1
  have := w_crossOut_loop h hT N 0 FU (by omega) (by unfold FU; omega)
  unfold P3_crossings
  show Option.bind (P3_crossings_4 (nI (bv L N)) (nI N) (nI (bv T M)) (nI M) FU (nI (sm (fun i => cnt (xcr L T N M i) M) 0)) (nI 0)) _ = _
  rw [this]
  rfl
theorem eucl4 : ∀ (t n k a b : Nat), b < 2 ^ t → a < 2 ^ 31 → b < 2 ^ 31 → k + 2 * t ≤ 99 → 2 * t + 1 ≤ n → P4_commonDivisor_13 n (nI a) (nI b) (nI k) = some (nI (Nat.gcd a b))
  | 0, n, k, a, b, hb, ha, hb2, hk, hn => by
    obtain ⟨n, rfl⟩ : ∃ z, n = z + 1 := ⟨n - 1, by omega⟩
    have h0 : b = 0 := by simpa using hb
    subst h0
    rw [P4_commonDivisor_13, if_neg (show ¬ (100 : Int32) ≤ nI k from nI_ge (b := 100) (by omega) (by omega)), if_pos (show nI 0 ≤ (0 : Int32) by decide), Nat.gcd_zero_right]
  | t + 1, n, k, a, b, hb, ha, hb2, hk, hn => by
    obtain ⟨n, rfl⟩ : ∃ z, n = z + 2 := ⟨n - 2, by omega⟩
    rw [P4_commonDivisor_13, if_neg (show ¬ (100 : Int32) ≤ nI k from nI_ge (b := 100) (by omega) (by omega))]
    by_cases h0 : b = 0
    · subst h0
      rw [if_pos (show nI 0 ≤ (0 : Int32) by decide), Nat.gcd_zero_right]
    · have hm := Nat.mod_lt a (show 0 < b by omega)
      rw [if_neg (show ¬ nI b ≤ (0 : Int32) from nI_ge (b := b) (a := 0) (by omega) (by omega)), if_pos (nI_ne0 (by omega) (by omega)), n_rem ha (by omega) hb2, nI_1, P4_commonDivisor_13, if_neg (show ¬ (100 : Int32) ≤ nI (k + 1) from nI_ge (b := 100) (by omega) (by omega))]
      by_cases h1 : a % b = 0
      · rw [h1, if_pos (show nI 0 ≤ (0 : Int32) by decide), Nat.gcd_comm a b, Nat.gcd_rec b a, h1, Nat.gcd_zero_left]
      · have hm2 := Nat.mod_lt b (show 0 < a % b by omega)
        have hh : b % (a % b) < 2 ^ t := by
          have e := Nat.div_add_mod b (a % b)
          have q : 1 ≤ b / (a % b) := (Nat.one_le_div_iff (by omega)).mpr (by omega)
          have q2 : a % b ≤ (a % b) * (b / (a % b)) := Nat.le_mul_of_pos_right _ q
          have q3 : 2 ^ (t + 1) = 2 ^ t * 2 := Nat.pow_succ 2 t
          omega
        rw [if_neg (show ¬ nI (a % b) ≤ (0 : Int32) from nI_ge (b := a % b) (a := 0) (by omega) (by omega)), if_pos (nI_ne0 (by omega) (by omega)), n_rem hb2 (by omega) (by omega), nI_1, eucl4 t n (k + 1 + 1) (a % b) (b % (a % b)) hh (by omega) (by omega) (by omega) (by omega)]
        congr 2
        rw [Nat.gcd_comm a b, Nat.gcd_rec b a, Nat.gcd_rec (a % b) b, Nat.gcd_comm]
/-- the size of a number that is not the least one -/
def na (x : Int32) : Nat := x.toInt.natAbs
def Ok (x : Int32) : Prop := -2147483648 < x.toInt
theorem ok_lt {x : Int32} (h : Ok x) : na x < 2 ^ 31 := by
  have h1 := x.toInt_lt
  unfold Ok at h
  unfold na
  omega
theorem neg_toInt {x : Int32} (h : Ok x) : (-x).toInt = -x.toInt := by
  have h1 := x.toInt_lt
  unfold Ok at h
  rw [Int32.toInt_neg, Int.bmod_eq_of_le (by omega) (by omega)]
theorem na_abs {x : Int32} (h : Ok x) : (if 0 ≤ x then x else -x) = nI (na x) := by
  apply Int32.toInt_inj.mp
  have hl := ok_lt h
  rw [nI_toInt hl]
  unfold na
  by_cases h0 : (0 : Int32) ≤ x
  · rw [if_pos h0]
    have := Int32.le_iff_toInt_le.mp h0
    rw [show (0 : Int32).toInt = 0 from rfl] at this
    omega
  · rw [if_neg h0, neg_toInt h]
    have := Int32.lt_iff_toInt_lt.mp (Int32.not_le.mp h0)
    rw [show (0 : Int32).toInt = 0 from rfl] at this
    omega
theorem jabs_na {x : Int32} (h : Ok x) : jabs x = nI (na x) := by
  rw [← na_abs h]
  unfold jabs
  rw [show (0 : Int32) - x = -x by grind]
theorem jmax_1 {g : Nat} (h : g < 2 ^ 31) : jmax 1 (nI g) = nI (max 1 g) := by
  unfold jmax
  by_cases h0 : 1 < g
  · rw [if_pos (show (1 : Int32) < nI g from nI_lt (a := 1) (by omega) (by omega)), show max 1 g = g by omega]
  · rw [if_neg (show ¬ (1 : Int32) < nI g from (fun q => h0 ((nI_ltI (a := 1) (by omega) h).mp q))), show max 1 g = 1 by omega]
    rfl
theorem gcd_31 {a b : Nat} (ha : a < 2 ^ 31) (hb : b < 2 ^ 31) : Nat.gcd a b < 2 ^ 31 := by
  by_cases h : a = 0
  · subst h
    rw [Nat.gcd_zero_left]
    exact hb
  · exact Nat.lt_of_le_of_lt (Nat.gcd_le_left b (by omega)) ha
theorem w_common {x y : Int32} (hx : Ok x) (hy : Ok y) : P4_commonDivisor x y = some (nI (max 1 (Nat.gcd (na x) (na y)))) := by
  have h1 := ok_lt hx
  have h2 := ok_lt hy
  unfold P4_commonDivisor
  rw [jabs_na hx, jabs_na hy, show (0 : Int32) = nI 0 from rfl, eucl4 31 FU 0 _ _ h2 h1 h2 (by omega) (by unfold FU; omega), ob, jmax_1 (gcd_31 h1 h2)]
theorem ok_nI {a : Nat} (h : a < 2 ^ 31) : Ok (nI a) := by
  unfold Ok
  rw [nI_toInt h]
  omega
theorem na_nI {a : Nat} (h : a < 2 ^ 31) : na (nI a) = a := by
  unfold na
  rw [nI_toInt h]
  omega
def mtN (L : Nat → Nat) : Nat → Nat × Nat × Nat × Nat
  | 0 => (1, 0, 0, 1)
  | n + 1 => if L n = 1 then ((mtN L n).1, (mtN L n).2.1 + (mtN L n).1, (mtN L n).2.2.1, (mtN L n).2.2.2 + (mtN L n).2.2.1) else ((mtN L n).1 + (mtN L n).2.1, (mtN L n).2.1, (mtN L n).2.2.1 + (mtN L n).2.2.2, (mtN L n).2.2.2)
def q4 (x : Nat × Nat × Nat × Nat) : Int32 × Int32 × Int32 × Int32 := (nI x.1, nI x.2.1, nI x.2.2.1, nI x.2.2.2)
theorem mt_q4 (L : Nat → Nat) : ∀ n : Nat, mt L n = q4 (mtN L n)
  | 0 => rfl
  | n + 1 => by
    rw [mt, mtN, mt_q4 L n]
    by_cases h : L n = 1
    · rw [if_pos h, if_pos h]
      simp only [q4, nI_add]
    · rw [if_neg h, if_neg h]
      simp only [q4, nI_add]
theorem mtN_le (L : Nat → Nat) : ∀ n : Nat, (mtN L n).1 + (mtN L n).2.1 ≤ 2 ^ n ∧ (mtN L n).2.2.1 + (mtN L n).2.2.2 ≤ 2 ^ n ∧ 1 ≤ (mtN L n).1 ∧ 1 ≤ (mtN L n).2.2.2
  | 0 => by simp [mtN]
  | n + 1 => by
    have h := mtN_le L n
    rw [mtN, Nat.pow_succ]
    by_cases h1 : L n = 1
    · rw [if_pos h1]
      simp only
      omega
    · rw [if_neg h1]
      simp only
      omega
theorem mtN_c {L : Nat → Nat} : ∀ {n : Nat}, (∀ i, i < n → L i < 2) → 0 < zc L n → 1 ≤ (mtN L n).2.2.1
  | 0, _, h => by simp [zc] at h
  | n + 1, hL, h => by
    have h2 := hL n (by omega)
    have h3 := mtN_le L n
    rw [mtN]
    by_cases h1 : L n = 1
    · have := mtN_c (L := L) (n := n) (fun i hi => hL i (by omega)) (by rw [zc] at h; rw [if_neg (by omega)] at h; omega)
      rw [if_pos h1]
      simp only
      omega
    · rw [if_neg h1]
      simp only
      omega
theorem mt20 {N : Nat} {L : Nat → Nat} (h : LW N L) : (mtN L N).1 ≤ 1048576 ∧ (mtN L N).2.1 ≤ 1048576 ∧ (mtN L N).2.2.1 ≤ 1048576 ∧ (mtN L N).2.2.2 ≤ 1048576 := by
  have h1 := mtN_le L N
  have h2 := tp20 h.2.1
  omega
theorem ok_diff {a b : Nat} (ha : a ≤ 1048576) (hb : b ≤ 1048576) : Ok (nI a - nI b) := by
  unfold Ok
  rw [pk_sub_toInt (by omega) (by omega)]
  omega
/-- the grade of a word's form -/
def grd (N : Nat) (L : Nat → Nat) : Int32 := nI (Nat.gcd (Nat.gcd (na (mt L N).2.2.1) (na ((mt L N).2.2.2 - (mt L N).1))) (na (mt L N).2.1))
theorem grd_facts {N : Nat} {L : Nat → Nat} (h : LW N L) (hc : clo N L = true) : (∃ g : Nat, 1 ≤ g ∧ g < 2 ^ 31 ∧ Nat.gcd (na (mt L N).2.2.1) (na ((mt L N).2.2.2 - (mt L N).1)) = g) ∧ ¬ grd N L = 0 ∧ Ok (mt L N).2.2.1 ∧ Ok ((mt L N).2.2.2 - (mt L N).1) ∧ Ok (mt L N).2.1 := by
  have h1 := mtN_c h.2.2 ((clo_iff h).mp hc).1
  have h2 := mt20 h
  have o1 : Ok (mt L N).2.2.1 := by rw [mt_q4]; exact ok_nI (by omega)
  have o2 : Ok ((mt L N).2.2.2 - (mt L N).1) := by rw [mt_q4]; exact ok_diff h2.2.2.2 h2.1
  have o3 : Ok (mt L N).2.1 := by rw [mt_q4]; exact ok_nI (by omega)
  have e1 : na (mt L N).2.2.1 = (mtN L N).2.2.1 := by rw [mt_q4]; exact na_nI (by omega)
  have p1 : 1 ≤ Nat.gcd (na (mt L N).2.2.1) (na ((mt L N).2.2.2 - (mt L N).1)) := Nat.gcd_pos_of_pos_left _ (by omega)
  have l1 := gcd_31 (ok_lt o1) (ok_lt o2)
  refine ⟨⟨_, p1, l1, rfl⟩, ?_, o1, o2, o3⟩
  have p2 := Nat.gcd_pos_of_pos_left (na (mt L N).2.1) p1
  unfold grd
  exact nI_ne0 (by omega) (gcd_31 l1 (ok_lt o3))
/-- the number of a word's form -/
def frm (N : Nat) (L : Nat → Nat) (x : Int32) : Int32 := if x = 0 then (mt L N).2.2.1 / grd N L else if x = 1 then ((mt L N).2.2.2 - (mt L N).1) / grd N L else if x = 2 then (-(mt L N).2.1) / grd N L else if x = 3 then grd N L else ((((mt L N).2.2.2 - (mt L N).1) / grd N L) * (((mt L N).2.2.2 - (mt L N).1) / grd N L)) - ((4 * ((mt L N).2.2.1 / grd N L)) * ((-(mt L N).2.1) / grd N L))
theorem w_form {N : Nat} {L : Nat → Nat} (h : LW N L) (hc : clo N L = true) (x : Int32) : P3_formNumber (mt L N).1 (mt L N).2.1 (mt L N).2.2.1 (mt L N).2.2.2 x = some (frm N L x) := by
  obtain ⟨⟨g, g1, g2, hg⟩, h0, o1, o2, o3⟩ := grd_facts h hc
  have e : nI (max 1 (Nat.gcd g (na (mt L N).2.1))) = grd N L := by
    have := Nat.gcd_pos_of_pos_left (na (mt L N).2.1) g1
    unfold grd
    rw [hg, show max 1 (Nat.gcd g (na (mt L N).2.1)) = Nat.gcd g (na (mt L N).2.1) by omega]
  unfold P3_formNumber
  rw [w_common o1 o2, ob, hg, show max 1 g = g by omega, w_common (ok_nI g2) o3, ob, na_nI g2, e, if_pos h0, if_pos h0, if_pos h0]
  unfold frm P4_discriminantOf
  split
  · rfl
  · split
    · rfl
    · split
      · rfl
      · split <;> rfl
def pcn : Nat → Nat → Nat
  | 0, _ => 0
  | n + 1, v => v % 2 + pcn n (v / 2)
theorem pcn_add : ∀ (m n v : Nat), pcn (m + n) v = pcn m v + pcn n (v / 2 ^ m)
  | 0, n, v => by simp [pcn]
  | m + 1, n, v => by
    rw [show m + 1 + n = (m + n) + 1 by omega, pcn, pcn, pcn_add m n (v / 2), Nat.div_div_eq_div_mul, Nat.pow_succ, Nat.mul_comm (2 ^ m) 2]
    omega
theorem pcn_mod : ∀ (m v : Nat), pcn m (v % 2 ^ m) = pcn m v
  | 0, v => rfl
  | m + 1, v => by
    rw [pcn, pcn, ← pcn_mod m (v / 2), Nat.pow_succ, Nat.mul_comm (2 ^ m) 2]
    congr 1
    · exact Nat.mod_mul_right_mod v 2 (2 ^ m)
    · rw [Nat.mod_mul_right_div_self]
theorem pcn_zero : ∀ m : Nat, pcn m 0 = 0
  | 0 => rfl
  | m + 1 => by rw [pcn, pcn_zero m]
theorem pcn_bv {L : Nat → Nat} : ∀ {n : Nat}, (∀ i, i < n → L i < 2) → pcn n (bv L n) + zc L n = n
  | 0, _ => rfl
  | n + 1, h => by
    have h1 := h n (by omega)
    have ih := pcn_bv (L := L) (n := n) (fun i hi => h i (by omega))
    rw [pcn, bv, zc, show (2 * bv L n + L n) % 2 = L n by omega, show (2 * bv L n + L n) / 2 = bv L n by omega]
    by_cases h0 : L n = 0
    · rw [if_pos h0]
      omega
    · rw [if_neg h0]
      omega
theorem land_split {a b c d : Nat} (ha : a < 256) (hc : c < 256) : (a + 256 * b) &&& (c + 256 * d) = (a &&& c) + 256 * (b &&& d) := by
  have e1 : ∀ x y : Nat, x < 256 → x + 256 * y = 2 ^ 8 * y ||| x := fun x y hx => by
    rw [← Nat.two_pow_add_eq_or_of_lt (i := 8) hx y]
    omega
  have h3 : a &&& c < 256 := Nat.lt_of_le_of_lt Nat.and_le_left ha
  apply Nat.eq_of_testBit_eq
  intro i
  rw [Nat.testBit_and, Nat.add_comm a, Nat.add_comm c, Nat.add_comm (a &&& c)]
  rw [show (256 : Nat) = 2 ^ 8 from rfl, Nat.testBit_two_pow_mul_add _ ha, Nat.testBit_two_pow_mul_add _ hc, Nat.testBit_two_pow_mul_add _ h3]
  by_cases hi : i < 8
  · simp [hi, Nat.testBit_and]
  · simp [hi, Nat.testBit_and]
def k1 (x : Nat) : Nat := x - (x / 2 &&& 85)
def k2 (x : Nat) : Nat := (x &&& 51) + (x / 4 &&& 51)
def k3 (x : Nat) : Nat := (x + x / 16) &&& 15
theorem k1_a : ∀ a, a < 256 → ∀ r, r < 2 → (a / 2 + 128 * r) &&& 85 = (a / 2 &&& 85) ∧ (a / 2 &&& 85) ≤ a ∧ k1 a < 256 := by decide +kernel
theorem k2_a : ∀ a, a < 256 → ∀ r, r < 4 → (a / 4 + 64 * r) &&& 51 = (a / 4 &&& 51) ∧ k2 a < 256 ∧ k2 (k1 a) % 16 ≤ 4 ∧ k2 (k1 a) / 16 ≤ 4 := by decide +kernel
theorem k3_a : ∀ a, a < 69 → ∀ r, r < 5 → a % 16 ≤ 4 → a + a / 16 + 16 * r < 256 ∧ (a + a / 16 + 16 * r) &&& 15 = k3 a := by decide +kernel
theorem k_pc : ∀ a, a < 256 → k3 (k2 (k1 a)) = pcn 8 a ∧ pcn 8 a ≤ 8 := by decide +kernel
def G1 (m x : Nat) : Nat := x - (x / 2 &&& m)
def G2 (m x : Nat) : Nat := (x &&& m) + (x / 4 &&& m)
def G3 (m x : Nat) : Nat := (x + x / 16) &&& m
theorem G1_le (m b : Nat) : (b / 2 &&& m) ≤ b := Nat.le_trans Nat.and_le_left (Nat.div_le_self b 2)
theorem G1_s (m : Nat) {a b : Nat} (ha : a < 256) : G1 (85 + 256 * m) (a + 256 * b) = k1 a + 256 * G1 m b := by
  have h := k1_a a ha (b % 2) (by omega)
  have hb := G1_le m b
  unfold G1 k1
  rw [show (a + 256 * b) / 2 = (a / 2 + 128 * (b % 2)) + 256 * (b / 2) by omega, land_split (by omega) (by omega), h.1, Nat.mul_sub]
  have := Nat.mul_le_mul_left 256 hb
  omega
theorem G2_s (m : Nat) {a b : Nat} (ha : a < 256) : G2 (51 + 256 * m) (a + 256 * b) = k2 a + 256 * G2 m b := by
  have h := k2_a a ha (b % 4) (by omega)
  unfold G2 k2
  rw [show (a + 256 * b) / 4 = (a / 4 + 64 * (b % 4)) + 256 * (b / 4) by omega, land_split (by omega) (by omega), land_split (by omega) (by omega), h.1]
  omega
theorem G3_s (m : Nat) {a b : Nat} (ha : a < 69) (ha2 : a % 16 ≤ 4) (hb : b % 16 ≤ 4) : G3 (15 + 256 * m) (a + 256 * b) = k3 a + 256 * G3 m b := by
  have h := k3_a a ha (b % 16) (by omega) ha2
  unfold G3
  rw [show a + 256 * b + (a + 256 * b) / 16 = (a + a / 16 + 16 * (b % 16)) + 256 * (b + b / 16) by omega, land_split h.1 (by omega), h.2]
theorem G_top : ∀ c, c < 16 → G1 21845 c = k1 c ∧ G2 13107 (k1 c) = k2 (k1 c) ∧ G3 3855 (k2 (k1 c)) = k3 (k2 (k1 c)) := by decide +kernel
theorem G_all {a b c : Nat} (ha : a < 256) (hb : b < 256) (hc : c < 16) : G3 252645135 (G2 858993459 (G1 1431655765 (a + 256 * (b + 256 * c)))) = pcn 8 a + 256 * (pcn 8 b + 256 * pcn 8 c) := by
  obtain ⟨t1, t2, t3⟩ := G_top c hc
  have q1 := k1_a a ha 0 (by omega)
  have q2 := k1_a b hb 0 (by omega)
  have q3 := k1_a c (by omega) 0 (by omega)
  have r1 := k2_a a ha 0 (by omega)
  have r2 := k2_a b hb 0 (by omega)
  have r3 := k2_a c (by omega) 0 (by omega)
  have v1 := k2_a _ q1.2.2 0 (by omega)
  have v2 := k2_a _ q2.2.2 0 (by omega)
  rw [show (1431655765 : Nat) = 85 + 256 * (85 + 256 * 21845) from rfl, G1_s _ ha, G1_s _ hb, t1]
  rw [show (858993459 : Nat) = 51 + 256 * (51 + 256 * 13107) from rfl, G2_s _ q1.2.2, G2_s _ q2.2.2, t2]
  rw [show (252645135 : Nat) = 15 + 256 * (15 + 256 * 3855) from rfl, G3_s _ (by omega) (by omega) (by omega), G3_s _ (by omega) (by omega) (by omega), t3]
  rw [(k_pc a ha).1, (k_pc b hb).1, (k_pc c (by omega)).1]
theorem jus_k : ∀ k, k < 32 → ((nI k).toUInt32 &&& Int32.toUInt32 31).toNat = k := by decide +kernel
theorem jus {v k : Nat} (hv : v < 2 ^ 31) (hk : k < 32) : jushr (nI v) (nI k) = nI (v / 2 ^ k) := by
  apply Int32.toBitVec_inj.1
  apply BitVec.eq_of_toNat_eq
  unfold jushr
  show ((nI v).toUInt32 >>> ((nI k).toUInt32 &&& Int32.toUInt32 31)).toNat = (v / 2 ^ k) % 2 ^ 32
  rw [UInt32.toNat_shiftRight, jus_k k hk, Nat.mod_eq_of_lt hk, Nat.shiftRight_eq_div_pow]
  show (v % 2 ^ 32) / 2 ^ k = (v / 2 ^ k) % 2 ^ 32
  have h1 : v / 2 ^ k ≤ v := Nat.div_le_self _ _
  rw [Nat.mod_eq_of_lt (by omega), Nat.mod_eq_of_lt (by omega)]
theorem bitCount {N : Nat} {L : Nat → Nat} (h : LW N L) : jbitCount (nI (bv L N)) = nI (N - zc L N) := by
  have hv := lw20 h
  have hd : bv L N = bv L N % 256 + 256 * (bv L N / 256 % 256 + 256 * (bv L N / 65536)) := by omega
  have hp : pcn 8 (bv L N % 256) + (pcn 8 (bv L N / 256 % 256) + pcn 8 (bv L N / 65536)) + zc L N = N := by
    have e1 := pcn_bv h.2.2
    have e2 : pcn 24 (bv L N) = pcn N (bv L N) := by
      have h2 := h.2.1
      rw [show 24 = N + (24 - N) by omega, pcn_add, Nat.div_eq_of_lt (bv_lt h.2.2), pcn_zero, Nat.add_zero]
    have e3 : pcn 24 (bv L N) = pcn 8 (bv L N) + (pcn 8 (bv L N / 256) + pcn 8 (bv L N / 65536)) := by
      rw [show 24 = 8 + (8 + 8) from rfl, pcn_add, pcn_add, Nat.div_div_eq_div_mul]
    have m1 : pcn 8 (bv L N % 256) = pcn 8 (bv L N) := pcn_mod 8 _
    have m2 : pcn 8 (bv L N / 256 % 256) = pcn 8 (bv L N / 256) := pcn_mod 8 _
    omega
  have ha : bv L N % 256 < 256 := Nat.mod_lt _ (by omega)
  have hb : bv L N / 256 % 256 < 256 := Nat.mod_lt _ (by omega)
  have hc : bv L N / 65536 < 16 := by omega
  have G := G_all ha hb hc
  rw [← hd] at G
  have p1 := (k_pc _ ha).2
  have p2 := (k_pc _ hb).2
  have p3 := (k_pc _ (show bv L N / 65536 < 256 by omega)).2
  generalize bv L N = v at *
  have s1 : jbc1 (nI v) = nI (G1 1431655765 v) := by
    unfold jbc1
    rw [show (1 : Int32) = nI 1 from rfl, jus (by omega) (by omega), show (1431655765 : Int32) = nI 1431655765 from rfl, n_and, n_sub (G1_le 1431655765 v)]
    rfl
  have l1 : G1 1431655765 v ≤ v := Nat.sub_le _ _
  have s2 : jbc2 (nI (G1 1431655765 v)) = nI (G2 858993459 (G1 1431655765 v)) := by
    unfold jbc2
    rw [show (2 : Int32) = nI 2 from rfl, jus (by omega) (by omega), show (858993459 : Int32) = nI 858993459 from rfl, n_and, n_and, nI_add]
    rfl
  have l2 : G2 858993459 (G1 1431655765 v) ≤ 2 * v := by
    have t1 : G1 1431655765 v &&& 858993459 ≤ G1 1431655765 v := Nat.and_le_left
    have t2 : G1 1431655765 v / 4 &&& 858993459 ≤ G1 1431655765 v / 4 := Nat.and_le_left
    unfold G2
    omega
  have s3 : jbc3 (nI (G2 858993459 (G1 1431655765 v))) = nI (G3 252645135 (G2 858993459 (G1 1431655765 v))) := by
    unfold jbc3
    rw [show (4 : Int32) = nI 4 from rfl, jus (by omega) (by omega), show (252645135 : Int32) = nI 252645135 from rfl, nI_add, n_and]
    rfl
  unfold jbitCount
  rw [s1, s2, s3, G]
  unfold jbc4 jbc5
  rw [show (8 : Int32) = nI 8 from rfl, jus (by omega) (by omega), nI_add, show (16 : Int32) = nI 16 from rfl, jus (by omega) (by omega), nI_add]
  generalize pcn 8 (v % 256) = x1 at *
  generalize pcn 8 (v / 256 % 256) = x2 at *
  generalize pcn 8 (v / 65536) = x3 at *
  have d1 : (x1 + 256 * (x2 + 256 * x3)) / 256 = x2 + 256 * x3 := by omega
  rw [show (2 : Nat) ^ 8 = 256 from rfl, show (2 : Nat) ^ 16 = 65536 from rfl, d1]
  have d2 : (x1 + 256 * (x2 + 256 * x3) + (x2 + 256 * x3)) / 65536 = x3 := by omega
  rw [d2]
  rw [show (63 : Int32) = nI (2 ^ 6 - 1) from rfl, n_mask]
  congr 1
  have d3 : N - zc L N = x1 + x2 + x3 := by omega
  rw [d3]
  omega
