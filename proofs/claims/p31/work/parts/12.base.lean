-- THE PURE SIDE: numbers, words of the class
theorem n_and (a b : Nat) : nI a &&& nI b = nI (a &&& b) := by
  apply Int32.toBitVec_inj.1
  show BitVec.ofNat 32 a &&& BitVec.ofNat 32 b = BitVec.ofNat 32 (a &&& b)
  rw [BitVec.ofNat_and]
theorem n_or (a b : Nat) : nI a ||| nI b = nI (a ||| b) := by
  apply Int32.toBitVec_inj.1
  show BitVec.ofNat 32 a ||| BitVec.ofNat 32 b = BitVec.ofNat 32 (a ||| b)
  rw [BitVec.ofNat_or]
theorem n_xor (a b : Nat) : nI a ^^^ nI b = nI (a ^^^ b) := by
  apply Int32.toBitVec_inj.1
  show BitVec.ofNat 32 a ^^^ BitVec.ofNat 32 b = BitVec.ofNat 32 (a ^^^ b)
  rw [BitVec.ofNat_xor]
theorem n_mask (n k : Nat) : nI n &&& nI (2 ^ k - 1) = nI (n % 2 ^ k) := by rw [n_and, Nat.and_two_pow_sub_one_eq_mod]
theorem n_mask1 (n : Nat) : nI n &&& 1 = nI (n % 2) := n_mask n 1
theorem n_sm : ∀ n, n < 32 → ((nI n &&& 31).toBitVec.smod 32).toNat = n := by decide +kernel
theorem n_shl (n : Nat) {k : Nat} (hk : k < 32) : jshl (nI n) (nI k) = nI (n * 2 ^ k) := by
  apply Int32.toBitVec_inj.1
  apply BitVec.eq_of_toNat_eq
  unfold jshl
  rw [pk_shl (nI n) _ k (n_sm k hk)]
  show n % 2 ^ 32 * 2 ^ k % 2 ^ 32 = n * 2 ^ k % 2 ^ 32
  rw [Nat.mod_mul_mod]
theorem n_shr {n k : Nat} (hn : n < 2 ^ 31) (hk : k < 32) : jshr (nI n) (nI k) = nI (n / 2 ^ k) := pk_shrN hn _ k (n_sm k hk)
theorem n_sub {a b : Nat} (h : b ≤ a) : nI a - nI b = nI (a - b) := pk_sub h
theorem n_rem {a d : Nat} (ha : a < 2 ^ 31) (h0 : 0 < d) (hd : d < 2 ^ 31) : jrem (nI a) (nI d) = nI (a % d) := pk_rem ha h0 hd
theorem n_in {n N : Nat} (h : n < N) (hN : N < 2 ^ 31) : vx (nI n) N := vp_in_nI h hN
theorem n_cl {n : Nat} (h : n < 2 ^ 31) : Int32.toNatClampNeg (nI n) = n := nI_clamp h
theorem n_le {a b : Nat} (ha : a < 2 ^ 31) (hb : b < 2 ^ 31) : (nI a ≤ nI b) = (a ≤ b) := propext (nI_leI ha hb)
theorem n_lt {a b : Nat} (ha : a < 2 ^ 31) (hb : b < 2 ^ 31) : (nI a < nI b) = (a < b) := propext (nI_ltI ha hb)
theorem n_eq {a b : Nat} (ha : a < 2 ^ 31) (hb : b < 2 ^ 31) : (nI a = nI b) = (a = b) := propext (nI_eq ha hb)
theorem n_neg {a : Nat} (ha : a < 2 ^ 31) : ¬ nI a < 0 := nI_pos ha
theorem ob {α β : Type} (a : α) (f : α → Option β) : Option.bind (some a) f = f a := rfl
def bv (L : Nat → Nat) : Nat → Nat
  | 0 => 0
  | n + 1 => 2 * bv L n + L n
def rot (N k : Nat) (L : Nat → Nat) : Nat → Nat := fun i => L ((k + i) % N)
def LW (N : Nat) (L : Nat → Nat) : Prop := 1 ≤ N ∧ N ≤ 20 ∧ ∀ i, i < N → L i < 2
theorem bv_lt {L : Nat → Nat} : ∀ {n : Nat}, (∀ i, i < n → L i < 2) → bv L n < 2 ^ n
  | 0, _ => by simp [bv]
  | n + 1, h => by
    have h1 := bv_lt (n := n) (fun i hi => h i (by omega))
    have h2 := h n (by omega)
    show 2 * bv L n + L n < 2 ^ (n + 1)
    rw [Nat.pow_succ]
    omega
theorem bv_congr {A B : Nat → Nat} : ∀ {n : Nat}, (∀ i, i < n → A i = B i) → bv A n = bv B n
  | 0, _ => rfl
  | n + 1, h => by
    show 2 * bv A n + A n = 2 * bv B n + B n
    rw [bv_congr (n := n) (fun i hi => h i (by omega)), h n (by omega)]
theorem bv_add (L : Nat → Nat) (a : Nat) : ∀ b : Nat, bv L (a + b) = bv L a * 2 ^ b + bv (fun i => L (a + i)) b
  | 0 => by simp [bv]
  | b + 1 => by
    show 2 * bv L (a + b) + L (a + b) = bv L a * 2 ^ (b + 1) + (2 * bv (fun i => L (a + i)) b + L (a + b))
    rw [bv_add L a b, Nat.pow_succ, Nat.mul_add, ← Nat.mul_assoc (bv L a), Nat.mul_comm 2 (bv L a * 2 ^ b)]
    omega
theorem bv_div {L : Nat → Nat} {N p : Nat} (hL : ∀ i, i < N → L i < 2) (h : p ≤ N) : bv L N / 2 ^ (N - p) = bv L p := by
  have e : N = p + (N - p) := by omega
  have h1 : bv (fun i => L (p + i)) (N - p) < 2 ^ (N - p) := bv_lt (fun i hi => hL _ (by omega))
  have h2 : bv L N = bv L p * 2 ^ (N - p) + bv (fun i => L (p + i)) (N - p) := by
    have := bv_add L p (N - p)
    rw [← e] at this
    exact this
  rw [h2, Nat.mul_comm, Nat.mul_add_div (Nat.two_pow_pos _), Nat.div_eq_of_lt h1, Nat.add_zero]
theorem bv_bit {L : Nat → Nat} {p : Nat} (h : L p < 2) : bv L (p + 1) % 2 = L p := by
  show (2 * bv L p + L p) % 2 = L p
  omega
theorem bv_inj {A B : Nat → Nat} : ∀ {n : Nat}, (∀ i, i < n → A i < 2) → (∀ i, i < n → B i < 2) → bv A n = bv B n → ∀ i, i < n → A i = B i
  | 0, _, _, _, i, hi => by omega
  | n + 1, hA, hB, h, i, hi => by
    have h1 : 2 * bv A n + A n = 2 * bv B n + B n := h
    have h2 := hA n (by omega)
    have h3 := hB n (by omega)
    by_cases hin : i = n
    · subst hin
      omega
    · exact bv_inj (n := n) (fun i hi => hA i (by omega)) (fun i hi => hB i (by omega)) (by omega) i (by omega)
theorem bv_iff {A B : Nat → Nat} {n : Nat} (hA : ∀ i, i < n → A i < 2) (hB : ∀ i, i < n → B i < 2) : bv A n = bv B n ↔ ∀ i, i < n → A i = B i := ⟨bv_inj hA hB, bv_congr⟩
theorem bv_lex {A B : Nat → Nat} {n k : Nat} (hA : ∀ i, i < n → A i < 2) (hk : k < n) (he : ∀ i, i < k → A i = B i) (hl : A k < B k) : bv A n < bv B n := by
  have e : n = (k + 1) + (n - (k + 1)) := by omega
  have h1 := bv_add A (k + 1) (n - (k + 1))
  have h2 := bv_add B (k + 1) (n - (k + 1))
  rw [← e] at h1 h2
  have h3 : bv (fun i => A (k + 1 + i)) (n - (k + 1)) < 2 ^ (n - (k + 1)) := bv_lt (fun i hi => hA _ (by omega))
  have h4 : bv A (k + 1) + 1 ≤ bv B (k + 1) := by
    show 2 * bv A k + A k + 1 ≤ 2 * bv B k + B k
    rw [bv_congr he]
    omega
  have h5 : (bv A (k + 1) + 1) * 2 ^ (n - (k + 1)) ≤ bv B (k + 1) * 2 ^ (n - (k + 1)) := Nat.mul_le_mul_right _ h4
  rw [Nat.add_mul] at h5
  omega
theorem rot_lt {N k : Nat} {L : Nat → Nat} (h : LW N L) : ∀ i, i < N → rot N k L i < 2 := fun i _ => h.2.2 _ (Nat.mod_lt _ h.1)
theorem bv_rot {N k : Nat} {L : Nat → Nat} (h : LW N L) (hk : k < N) : ((bv L N * 2 ^ k) ||| (bv L N / 2 ^ (N - k))) % 2 ^ N = bv (rot N k L) N := by
  obtain ⟨h1, h2, h3⟩ := h
  have hd := bv_div h3 (Nat.le_of_lt hk)
  have hlo : bv (fun i => L (k + i)) (N - k) < 2 ^ (N - k) := bv_lt (fun i hi => h3 _ (by omega))
  have hhi : bv L k < 2 ^ k := bv_lt (fun i hi => h3 _ (by omega))
  have hb : bv L N = bv L k * 2 ^ (N - k) + bv (fun i => L (k + i)) (N - k) := by
    have := bv_add L k (N - k)
    rw [show k + (N - k) = N by omega] at this
    exact this
  have hr : bv (rot N k L) N = bv (fun i => L (k + i)) (N - k) * 2 ^ k + bv L k := by
    have := bv_add (rot N k L) (N - k) k
    rw [show N - k + k = N by omega] at this
    have e1 : bv (rot N k L) (N - k) = bv (fun i => L (k + i)) (N - k) := bv_congr (fun i hi => by
      unfold rot
      rw [Nat.mod_eq_of_lt (by omega)])
    have e2 : bv (fun i => rot N k L (N - k + i)) k = bv L k := bv_congr (fun i hi => by
      show L ((k + (N - k + i)) % N) = L i
      rw [show k + (N - k + i) = i + N by omega, Nat.add_mod_right, Nat.mod_eq_of_lt (by omega)])
    rw [this, e1, e2]
  rw [hd, Nat.mul_comm (bv L N), ← Nat.two_pow_add_eq_or_of_lt hhi, hb, hr]
  have e : 2 ^ k * (bv L k * 2 ^ (N - k) + bv (fun i => L (k + i)) (N - k)) + bv L k = (bv (fun i => L (k + i)) (N - k) * 2 ^ k + bv L k) + bv L k * 2 ^ N := by
    have e2 : 2 ^ N = 2 ^ k * 2 ^ (N - k) := by rw [← Nat.pow_add]; congr 1; omega
    rw [e2, Nat.mul_add, Nat.mul_comm (2 ^ k) (bv (fun i => L (k + i)) (N - k))]
    have e3 : 2 ^ k * (bv L k * 2 ^ (N - k)) = bv L k * (2 ^ k * 2 ^ (N - k)) := by rw [← Nat.mul_assoc, ← Nat.mul_assoc, Nat.mul_comm (2 ^ k)]
    rw [e3]
    omega
  rw [e, Nat.add_mul_mod_self_right]
  apply Nat.mod_eq_of_lt
  have h6 : (bv (fun i => L (k + i)) (N - k) + 1) * 2 ^ k ≤ 2 ^ (N - k) * 2 ^ k := Nat.mul_le_mul_right _ hlo
  have e2 : 2 ^ (N - k) * 2 ^ k = 2 ^ N := by rw [← Nat.pow_add]; congr 1; omega
  rw [e2, Nat.add_mul] at h6
  omega
theorem bv_not {L : Nat → Nat} : ∀ {n : Nat}, (∀ i, i < n → L i < 2) → bv (fun i => 1 - L i) n + bv L n + 1 = 2 ^ n
  | 0, _ => by simp [bv]
  | n + 1, h => by
    have h1 := bv_not (n := n) (fun i hi => h i (by omega))
    have h2 := h n (by omega)
    show 2 * bv (fun i => 1 - L i) n + (1 - L n) + (2 * bv L n + L n) + 1 = 2 ^ (n + 1)
    rw [Nat.pow_succ]
    omega
theorem bv_xor {L : Nat → Nat} {n : Nat} (h : ∀ i, i < n → L i < 2) : bv L n ^^^ (2 ^ n - 1) = bv (fun i => 1 - L i) n := by
  have h1 := bv_not h
  have h2 := bv_lt h
  have e : bv (fun i => 1 - L i) n = 2 ^ n - (bv L n + 1) := by omega
  rw [e]
  apply Nat.eq_of_testBit_eq
  intro i
  rw [Nat.testBit_xor, Nat.testBit_two_pow_sub_one, Nat.testBit_two_pow_sub_succ h2]
  by_cases hi : i < n
  · simp [hi]
  · have : (bv L n).testBit i = false := Nat.testBit_lt_two_pow (Nat.lt_of_lt_of_le h2 (Nat.pow_le_pow_right (by decide) (by omega)))
    simp [hi, this]
theorem lw20 {N : Nat} {L : Nat → Nat} (h : LW N L) : bv L N < 1048576 := Nat.lt_of_lt_of_le (bv_lt h.2.2) (Nat.pow_le_pow_right (n := 2) (by decide) h.2.1)
theorem tp20 {N : Nat} (h : N ≤ 20) : 2 ^ N ≤ 1048576 := Nat.pow_le_pow_right (n := 2) (by decide) h
theorem w_bitAt {N p : Nat} {L : Nat → Nat} (h : LW N L) (hp : p < N) : P3_bitAt (nI (bv L N)) (nI N) (nI p) = some (nI (L p)) := by
  obtain ⟨h1, h2, h3⟩ := h
  have hb := bv_lt h3
  have ht := tp20 h2
  unfold P3_bitAt
  rw [show (1 : Int32) = nI 1 from rfl, n_sub h1, n_sub (by omega), n_shr (by omega) (by omega), show nI 1 = (1 : Int32) from rfl, n_mask1]
  rw [show N - 1 - p = N - (p + 1) by omega, bv_div h3 (by omega), bv_bit (h3 p hp)]
/-- the numbers of the matrix of the first n letters, letter by letter from the left -/
def mt (L : Nat → Nat) : Nat → Int32 × Int32 × Int32 × Int32
  | 0 => (1, 0, 0, 1)
  | n + 1 => if L n = 1 then ((mt L n).1, (mt L n).2.1 + (mt L n).1, (mt L n).2.2.1, (mt L n).2.2.2 + (mt L n).2.2.1) else ((mt L n).1 + (mt L n).2.1, (mt L n).2.1, (mt L n).2.2.1 + (mt L n).2.2.2, (mt L n).2.2.2)
theorem w_become_loop {N : Nat} {L : Nat → Nat} (h : LW N L) : ∀ (j k n : Nat), k + j = N → j < n → P3_become_41 (nI (bv L N)) (nI N) n (mt L k).1 (mt L k).2.1 (mt L k).2.2.1 (mt L k).2.2.2 (nI k) = some (mt L N)
  | 0, k, n, hk, hn => by
    obtain ⟨n, rfl⟩ : ∃ z, n = z + 1 := ⟨n - 1, by omega⟩
    have h2 := h.2.1
    rw [P3_become_41, if_pos (nI_le (by omega) (by omega)), show N = k by omega]
  | j + 1, k, n, hk, hn => by
    obtain ⟨n, rfl⟩ : ∃ z, n = z + 1 := ⟨n - 1, by omega⟩
    have h2 := h.2.1
    have hl := h.2.2 k (by omega)
    rw [P3_become_41, if_neg (nI_ge (by omega) (by omega)), w_bitAt h (by omega), ob]
    have ih := w_become_loop h j (k + 1) n (by omega) (by omega)
    rw [nI_1]
    by_cases hk1 : L k = 1
    · rw [hk1, if_pos (show nI 1 = (1 : Int32) from rfl)]
      simp only [mt, hk1, if_true] at ih
      exact ih
    · have hk0 : L k = 0 := by omega
      rw [hk0, if_neg (show ¬ nI 0 = (1 : Int32) from by decide)]
      simp only [mt, hk0] at ih
      exact ih
theorem w_all {N : Nat} (h : N ≤ 20) : jshl 1 (nI N) - 1 = nI (2 ^ N - 1) := by
  rw [show (1 : Int32) = nI 1 from rfl, n_shl 1 (by omega), Nat.one_mul, n_sub (Nat.one_le_two_pow)]
/-- a word of the class: bits, size, mask, matrix -/
def wrec (N : Nat) (L : Nat → Nat) : Int32 × Int32 × Int32 × Int32 × Int32 × Int32 × Int32 := (nI (bv L N), nI N, nI (2 ^ N - 1), (mt L N).1, (mt L N).2.1, (mt L N).2.2.1, (mt L N).2.2.2)
theorem w_become {N : Nat} {L : Nat → Nat} (h : LW N L) : P3_become (nI (bv L N)) (nI N) = some (wrec N L) := by
  unfold P3_become
  have h2 := h.2.1
  have := w_become_loop h N 0 FU (by omega) (by unfold FU; omega)
  rw [show (1 : Int32) = (mt L 0).1 from rfl, show (0 : Int32) = nI 0 from rfl]
  show Option.bind (P3_become_41 (nI (bv L N)) (nI N) FU (mt L 0).1 (mt L 0).2.1 (mt L 0).2.2.1 (mt L 0).2.2.2 (nI 0)) _ = _
  rw [this, ob]
  show some (nI (bv L N), nI N, jshl 1 (nI N) - 1, _) = _
  rw [w_all h2]
  rfl
theorem bv_zero : ∀ n : Nat, bv (fun _ => 0) n = 0
  | 0 => rfl
  | n + 1 => by
    show 2 * bv (fun _ => 0) n + 0 = 0
    rw [bv_zero n]
theorem become8 : ∃ r, P3_become 0 8 = some r := by
  have h : LW 8 (fun _ => 0) := ⟨by decide, by decide, fun _ _ => by show 0 < 2; decide⟩
  have := w_become h
  rw [bv_zero] at this
  exact ⟨_, this⟩
theorem w_rotation {N k : Nat} {L : Nat → Nat} (h : LW N L) (hk : k < N) : P3_rotation (nI (bv L N)) (nI N) (nI (2 ^ N - 1)) (nI k) = some (nI (bv (rot N k L) N)) := by
  have h2 := h.2.1
  have hb := lw20 h
  unfold P3_rotation
  rw [n_sub (by omega), n_shl _ (by omega), n_shr (by omega) (by omega), n_or, n_mask, bv_rot h hk]
/-- the first place from k on, of j, where it holds -/
def fnd (p : Nat → Bool) : Nat → Nat → Nat
  | k, 0 => k
  | k, j + 1 => if p k = true then k else fnd p (k + 1) j
theorem fnd_ge (p : Nat → Bool) : ∀ (j k : Nat), k ≤ fnd p k j ∧ fnd p k j ≤ k + j
  | 0, k => ⟨Nat.le_refl k, Nat.le_refl k⟩
  | j + 1, k => by
    have ih := fnd_ge p j (k + 1)
    rw [fnd]
    split <;> omega
theorem fnd_congr {p q : Nat → Bool} : ∀ (j k : Nat), (∀ i, k ≤ i → i < k + j → p i = q i) → fnd p k j = fnd q k j
  | 0, k, _ => rfl
  | j + 1, k, h => by
    rw [fnd, fnd, h k (Nat.le_refl k) (by omega), fnd_congr j (k + 1) (fun i h1 h2 => h i (by omega) (by omega))]
/-- the turn by k is the other word -/
def eqr (N : Nat) (L T : Nat → Nat) (k : Nat) : Bool := decide (bv (rot N k L) N = bv T N)
theorem w_turnTo_loop {N : Nat} {L T : Nat → Nat} (h : LW N L) (hT : LW N T) : ∀ (j k n : Nat), k + j = N → j < n → P3_turnTo_2 (nI (bv L N)) (nI N) (nI (2 ^ N - 1)) (nI (bv T N)) n (nI k) = some (if fnd (eqr N L T) k j < N then nI (fnd (eqr N L T) k j) else (-2000000001))
  | 0, k, n, hk, hn => by
    obtain ⟨n, rfl⟩ : ∃ z, n = z + 1 := ⟨n - 1, by omega⟩
    have h2 := h.2.1
    rw [P3_turnTo_2, if_pos (nI_le (by omega) (by omega)), fnd, if_neg (by omega)]
  | j + 1, k, n, hk, hn => by
    obtain ⟨n, rfl⟩ : ∃ z, n = z + 1 := ⟨n - 1, by omega⟩
    have h2 := h.2.1
    have hr : LW N (rot N k L) := ⟨h.1, h.2.1, rot_lt h⟩
    have b1 := lw20 hr
    have b2 := lw20 hT
    rw [P3_turnTo_2, if_neg (nI_ge (by omega) (by omega)), w_rotation h (by omega), ob, nI_1, fnd]
    by_cases he : bv (rot N k L) N = bv T N
    · have : eqr N L T k = true := by simp [eqr, he]
      rw [if_pos (by rw [he]), if_pos this, if_pos (by omega)]
    · have : ¬ eqr N L T k = true := by simp [eqr, he]
      rw [if_neg (fun q => he ((nI_eq (by omega) (by omega)).mp q)), if_neg this]
      exact w_turnTo_loop h hT j (k + 1) n (by omega) (by omega)
theorem w_turnTo {N k : Nat} {L T : Nat → Nat} (h : LW N L) (hT : LW N T) (hk : k ≤ N) : P3_turnTo (nI (bv L N)) (nI N) (nI (2 ^ N - 1)) (nI (bv T N)) (nI k) = some (if fnd (eqr N L T) k (N - k) < N then nI (fnd (eqr N L T) k (N - k)) else (-2000000001)) := by
  have h2 := h.2.1
  exact w_turnTo_loop h hT (N - k) k FU (by omega) (by unfold FU; omega)
theorem n_none {n : Nat} (h : n < 2 ^ 31) : ¬ nI n = (-2000000001) := fun q => by
  have h1 := nI_toInt h
  rw [q] at h1
  have h2 : ((-2000000001 : Int32)).toInt = -2000000001 := by decide
  omega
def conj (N : Nat) (L T : Nat → Nat) : Bool := decide (fnd (eqr N L T) 0 N < N)
theorem w_isConjugate {N : Nat} {L T : Nat → Nat} (h : LW N L) (hT : LW N T) : P3_isConjugate (nI (bv L N)) (nI N) (nI (2 ^ N - 1)) (nI (bv T N)) = some (if conj N L T = true then 1 else 0) := by
  have h2 := h.2.1
  unfold P3_isConjugate
  rw [show (0 : Int32) = nI 0 from rfl, w_turnTo h hT (Nat.zero_le _), ob, Nat.sub_zero]
  unfold conj
  by_cases hc : fnd (eqr N L T) 0 N < N
  · rw [if_pos hc, if_neg (n_none (by omega)), if_pos (by simp [hc])]
  · rw [if_neg hc, if_pos rfl, if_neg (by simp [hc])]
theorem w_period {N : Nat} {L : Nat → Nat} (h : LW N L) : P3_period (nI (bv L N)) (nI N) (nI (2 ^ N - 1)) = some (nI (fnd (eqr N L L) 1 (N - 1))) := by
  have h2 := h.2.1
  unfold P3_period
  rw [show (1 : Int32) = nI 1 from rfl, w_turnTo h h h.1, ob]
  have hg := fnd_ge (eqr N L L) (N - 1) 1
  by_cases hc : fnd (eqr N L L) 1 (N - 1) < N
  · rw [if_pos hc, if_neg (n_none (by omega))]
  · rw [if_neg hc, if_pos rfl, show fnd (eqr N L L) 1 (N - 1) = N by have := h.1; omega]
def ltn (N : Nat) (L : Nat → Nat) : Nat → Nat → Nat → Nat
  | 0, b, _ => b
  | j + 1, b, k => ltn N L j (if bv (rot N k L) N < bv (rot N b L) N then k else b) (k + 1)
theorem ltn_lt {N : Nat} {L : Nat → Nat} : ∀ (j b k : Nat), b < N → k + j ≤ N → ltn N L j b k < N
  | 0, b, k, hb, _ => hb
  | j + 1, b, k, hb, hk => by
    rw [ltn]
    apply ltn_lt j
    · split <;> omega
    · omega
theorem w_leastTurn_loop {N : Nat} {L : Nat → Nat} (h : LW N L) : ∀ (j k b n : Nat), k + j = N → b < N → j < n → P3_leastTurn_4 (nI (bv L N)) (nI N) (nI (2 ^ N - 1)) n (nI b) (nI k) = some (nI (ltn N L j b k))
  | 0, k, b, n, hk, hb, hn => by
    obtain ⟨n, rfl⟩ : ∃ z, n = z + 1 := ⟨n - 1, by omega⟩
    have h2 := h.2.1
    rw [P3_leastTurn_4, if_pos (nI_le (by omega) (by omega)), ltn]
  | j + 1, k, b, n, hk, hb, hn => by
    obtain ⟨n, rfl⟩ : ∃ z, n = z + 1 := ⟨n - 1, by omega⟩
    have h2 := h.2.1
    have b1 := lw20 (L := rot N k L) ⟨h.1, h.2.1, rot_lt h⟩
    have b2 := lw20 (L := rot N b L) ⟨h.1, h.2.1, rot_lt h⟩
    rw [P3_leastTurn_4, if_neg (nI_ge (by omega) (by omega)), w_rotation h (by omega), ob, w_rotation h hb, ob, nI_1, ltn]
    by_cases hc : bv (rot N k L) N < bv (rot N b L) N
    · rw [if_neg (fun q => by have := (nI_leI (by omega) (by omega)).mp q; omega), if_pos hc]
      exact w_leastTurn_loop h j (k + 1) k n (by omega) (by omega) (by omega)
    · rw [if_pos ((nI_leI (by omega) (by omega)).mpr (by omega)), if_neg hc]
      exact w_leastTurn_loop h j (k + 1) b n (by omega) hb (by omega)
def lst (N : Nat) (L : Nat → Nat) : Nat := ltn N L (N - 1) 0 1
theorem lst_lt {N : Nat} {L : Nat → Nat} (h : 1 ≤ N) : lst N L < N := ltn_lt _ _ _ (by omega) (by omega)
theorem w_leastTurn {N : Nat} {L : Nat → Nat} (h : LW N L) : P3_leastTurn (nI (bv L N)) (nI N) (nI (2 ^ N - 1)) = some (nI (lst N L)) := by
  have h1 := h.1
  have h2 := h.2.1
  unfold P3_leastTurn
  rw [show (0 : Int32) = nI 0 from rfl, show (1 : Int32) = nI 1 from rfl, w_leastTurn_loop h (N - 1) 1 0 FU (by omega) (by omega) (by unfold FU; omega)]
  rfl
def rev (N : Nat) (L : Nat → Nat) : Nat → Nat := fun i => L (N - 1 - i)
def cpl (L : Nat → Nat) : Nat → Nat := fun i => 1 - L i
theorem rev_LW {N : Nat} {L : Nat → Nat} (h : LW N L) : LW N (rev N L) := ⟨h.1, h.2.1, fun i _ => h.2.2 _ (by have := h.1; omega)⟩
theorem cpl_LW {N : Nat} {L : Nat → Nat} (h : LW N L) : LW N (cpl L) := ⟨h.1, h.2.1, fun i _ => by unfold cpl; omega⟩
theorem rot_LW {N k : Nat} {L : Nat → Nat} (h : LW N L) : LW N (rot N k L) := ⟨h.1, h.2.1, rot_lt h⟩
theorem n_m1neg : ((-1 : Int32) < 0) := by decide
theorem w_reversal_loop {N : Nat} {L : Nat → Nat} (h : LW N L) : ∀ (k j n : Nat), k + j + 1 = N → k + 1 < n → P3_reversal_9 (nI (bv L N)) (nI N) n (nI (bv (rev N L) j)) (nI k) = some (nI (bv (rev N L) N)) := by
  intro k
  induction k with
  | zero =>
    intro j n hk hn
    obtain ⟨n, rfl⟩ : ∃ z, n = z + 2 := ⟨n - 2, by omega⟩
    have h2 := h.2.1
    rw [P3_reversal_9, if_neg (n_neg (by omega)), w_bitAt h (by omega), ob, P3_reversal_9, if_pos (by decide)]
    have hr : L 0 = rev N L j := by unfold rev; congr 1; omega
    have hl : rev N L j < 2 := (rev_LW h).2.2 j (by omega)
    rw [show (1 : Int32) = nI 1 from rfl, n_shl _ (by omega), n_or, hr]
    have e : bv (rev N L) j * 2 ^ 1 ||| rev N L j = bv (rev N L) (j + 1) := by
      show _ = 2 * bv (rev N L) j + rev N L j
      rw [Nat.mul_comm, ← Nat.two_pow_add_eq_or_of_lt (by simpa using hl)]
    rw [e, show j + 1 = N by omega]
  | succ k ih =>
    intro j n hk hn
    obtain ⟨n, rfl⟩ : ∃ z, n = z + 1 := ⟨n - 1, by omega⟩
    have h2 := h.2.1
    rw [P3_reversal_9, if_neg (n_neg (by omega)), w_bitAt h (by omega), ob, pk_m1]
    have hr : L (k + 1) = rev N L j := by unfold rev; congr 1; omega
    have hl : rev N L j < 2 := (rev_LW h).2.2 j (by omega)
    rw [show (1 : Int32) = nI 1 from rfl, n_shl _ (by omega), n_or, hr]
    have e : bv (rev N L) j * 2 ^ 1 ||| rev N L j = bv (rev N L) (j + 1) := by
      show _ = 2 * bv (rev N L) j + rev N L j
      rw [Nat.mul_comm, ← Nat.two_pow_add_eq_or_of_lt (by simpa using hl)]
    rw [e]
    exact ih (j + 1) n (by omega) (by omega)
theorem w_reversal {N : Nat} {L : Nat → Nat} (h : LW N L) : P3_reversal (nI (bv L N)) (nI N) = some (nI (bv (rev N L) N)) := by
  have h1 := h.1
  have h2 := h.2.1
  unfold P3_reversal
  rw [show (1 : Int32) = nI 1 from rfl, n_sub h1, show (0 : Int32) = nI (bv (rev N L) 0) from rfl, w_reversal_loop h (N - 1) 0 FU (by omega) (by unfold FU; omega)]
  rfl
theorem w_complement {N : Nat} {T : Nat → Nat} (h : LW N T) : P3_complement (nI (2 ^ N - 1)) (nI (bv T N)) = some (nI (bv (cpl T) N)) := by
  unfold P3_complement
  rw [n_xor, bv_xor h.2.2]
  rfl
/-- closed: both letters stand in it -/
def clo (N : Nat) (L : Nat → Nat) : Bool := decide (¬ bv L N = 0 ∧ ¬ bv L N = 2 ^ N - 1)
theorem w_isClosed {N : Nat} {L : Nat → Nat} (h : LW N L) : P3_isClosed (nI (bv L N)) (nI (2 ^ N - 1)) = some (if clo N L = true then 1 else 0) := by
  have hb := lw20 h
  have ht := tp20 h.2.1
  unfold P3_isClosed clo
  by_cases h1 : bv L N = 0
  · rw [h1, if_pos (show nI 0 = (0 : Int32) from rfl), if_neg (by simp)]
  · rw [if_neg (fun q : nI (bv L N) = 0 => h1 ((nI_eq (b := 0) (by omega) (by omega)).mp q))]
    by_cases h2 : bv L N = 2 ^ N - 1
    · rw [if_pos (by rw [h2]), if_neg (by simp [h2])]
    · rw [if_neg (fun q => h2 ((nI_eq (by omega) (by omega)).mp q)), if_pos (by simp [h1, h2])]
theorem w_changed {N : Nat} {L : Nat → Nat} (h : LW N L) (x : Int32) : P3_changed (nI (bv L N)) (nI N) (nI (2 ^ N - 1)) x = some (nI (bv (if x = 0 then rev N L else if x = 1 then cpl L else rot N (lst N L) L) N)) := by
  unfold P3_changed
  by_cases h0 : x = 0
  · rw [if_pos h0, if_pos h0, w_reversal h]
    rfl
  · rw [if_neg h0, if_neg h0]
    by_cases h1 : x = 1
    · rw [if_pos h1, if_pos h1, w_complement h]
      rfl
    · rw [if_neg h1, if_neg h1, w_leastTurn h, ob, w_rotation h (lst_lt h.1)]
      rfl
/-- how many of the first letters are L -/
def zc (L : Nat → Nat) : Nat → Nat
  | 0 => 0
  | n + 1 => zc L n + (if L n = 0 then 1 else 0)
theorem zc_le (L : Nat → Nat) : ∀ n, zc L n ≤ n
  | 0 => Nat.le_refl 0
  | n + 1 => by
    have := zc_le L n
    rw [zc]
    split <;> omega
theorem zc_bv {L : Nat → Nat} : ∀ {n : Nat}, (∀ i, i < n → L i < 2) → (bv L n = 0 ↔ zc L n = n) ∧ (bv L n + 1 = 2 ^ n ↔ zc L n = 0)
  | 0, _ => by simp [bv, zc]
  | n + 1, h => by
    obtain ⟨h1, h2⟩ := zc_bv (n := n) (fun i hi => h i (by omega))
    have h3 := h n (by omega)
    have h4 := zc_le L n
    have h5 := bv_lt (L := L) (n := n) (fun i hi => h i (by omega))
    show (2 * bv L n + L n = 0 ↔ zc L n + (if L n = 0 then 1 else 0) = n + 1) ∧ (2 * bv L n + L n + 1 = 2 ^ (n + 1) ↔ zc L n + (if L n = 0 then 1 else 0) = 0)
    rw [Nat.pow_succ]
    by_cases h0 : L n = 0
    · rw [if_pos h0, h0]
      omega
    · rw [if_neg h0, show L n = 1 by omega]
      omega
theorem clo_iff {N : Nat} {L : Nat → Nat} (h : LW N L) : clo N L = true ↔ 0 < zc L N ∧ zc L N < N := by
  obtain ⟨h1, h2⟩ := zc_bv h.2.2
  have h3 := zc_le L N
  have h4 := Nat.one_le_two_pow (n := N)
  unfold clo
  rw [decide_eq_true_iff]
  constructor
  · intro q
    omega
  · intro q
    omega
theorem rot_0 {N : Nat} {L : Nat → Nat} : bv (rot N 0 L) N = bv L N := bv_congr (fun i hi => by
  unfold rot
  rw [Nat.zero_add, Nat.mod_eq_of_lt hi])
