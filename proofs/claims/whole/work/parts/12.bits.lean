-- NUMBERS: Int32 made of Nat
theorem n_and (a b : Nat) : nI a &&& nI b = nI (a &&& b) := by
  apply Int32.toBitVec_inj.1
  show BitVec.ofNat 32 a &&& BitVec.ofNat 32 b = BitVec.ofNat 32 (a &&& b)
  rw [BitVec.ofNat_and]
theorem n_or (a b : Nat) : nI a ||| nI b = nI (a ||| b) := by
  apply Int32.toBitVec_inj.1
  show BitVec.ofNat 32 a ||| BitVec.ofNat 32 b = BitVec.ofNat 32 (a ||| b)
  rw [BitVec.ofNat_or]
theorem n_xor (a b : Nat) : nI a ^^^ nI b = nI (a ^^^ b) := by
  apply Int32.toBitVec_inj.1
  show BitVec.ofNat 32 a ^^^ BitVec.ofNat 32 b = BitVec.ofNat 32 (a ^^^ b)
  rw [BitVec.ofNat_xor]
theorem n_mask (n k : Nat) : nI n &&& nI (2 ^ k - 1) = nI (n % 2 ^ k) := by rw [n_and, Nat.and_two_pow_sub_one_eq_mod]
theorem n_mask1 (n : Nat) : nI n &&& 1 = nI (n % 2) := n_mask n 1
theorem n_sm : ∀ n, n < 32 → ((nI n &&& 31).toBitVec.smod 32).toNat = n := by decide +kernel
theorem n_shl (n : Nat) {k : Nat} (hk : k < 32) : jshl (nI n) (nI k) = nI (n * 2 ^ k) := by
  apply Int32.toBitVec_inj.1
  apply BitVec.eq_of_toNat_eq
  unfold jshl
  rw [pk_shl (nI n) _ k (n_sm k hk)]
  show n % 2 ^ 32 * 2 ^ k % 2 ^ 32 = n * 2 ^ k % 2 ^ 32
  rw [Nat.mod_mul_mod]
theorem n_shr {n k : Nat} (hn : n < 2 ^ 31) (hk : k < 32) : jshr (nI n) (nI k) = nI (n / 2 ^ k) := pk_shrN hn _ k (n_sm k hk)
theorem n_sub {a b : Nat} (h : b ≤ a) : nI a - nI b = nI (a - b) := pk_sub h
theorem n_rem {a d : Nat} (ha : a < 2 ^ 31) (h0 : 0 < d) (hd : d < 2 ^ 31) : jrem (nI a) (nI d) = nI (a % d) := pk_rem ha h0 hd
theorem n_in {n N : Nat} (h : n < N) (hN : N < 2 ^ 31) : vx (nI n) N := vp_in_nI h hN
theorem n_cl {n : Nat} (h : n < 2 ^ 31) : Int32.toNatClampNeg (nI n) = n := nI_clamp h
theorem n_le {a b : Nat} (ha : a < 2 ^ 31) (hb : b < 2 ^ 31) : (nI a ≤ nI b) = (a ≤ b) := propext (nI_leI ha hb)
theorem n_lt {a b : Nat} (ha : a < 2 ^ 31) (hb : b < 2 ^ 31) : (nI a < nI b) = (a < b) := propext (nI_ltI ha hb)
theorem n_eq {a b : Nat} (ha : a < 2 ^ 31) (hb : b < 2 ^ 31) : (nI a = nI b) = (a = b) := propext (nI_eq ha hb)
theorem n_neg {a : Nat} (ha : a < 2 ^ 31) : ¬ nI a < 0 := nI_pos ha
theorem ob {α β : Type} (a : α) (f : α → Option β) : Option.bind (some a) f = f a := rfl
-- THE NUMBER OF A WORD: the first letter highest
def bv (L : Nat → Nat) : Nat → Nat
  | 0 => 0
  | n + 1 => 2 * bv L n + L n
def rot (N k : Nat) (L : Nat → Nat) : Nat → Nat := fun i => L ((k + i) % N)
def LW (N : Nat) (L : Nat → Nat) : Prop := 1 ≤ N ∧ N ≤ 20 ∧ ∀ i, i < N → L i < 2
theorem bv_lt {L : Nat → Nat} : ∀ {n : Nat}, (∀ i, i < n → L i < 2) → bv L n < 2 ^ n
  | 0, _ => by simp [bv]
  | n + 1, h => by
    have h1 := bv_lt (n := n) (fun i hi => h i (by omega))
    have h2 := h n (by omega)
    show 2 * bv L n + L n < 2 ^ (n + 1)
    rw [Nat.pow_succ]
    omega
theorem bv_congr {A B : Nat → Nat} : ∀ {n : Nat}, (∀ i, i < n → A i = B i) → bv A n = bv B n
  | 0, _ => rfl
  | n + 1, h => by
    show 2 * bv A n + A n = 2 * bv B n + B n
    rw [bv_congr (n := n) (fun i hi => h i (by omega)), h n (by omega)]
theorem bv_add (L : Nat → Nat) (a : Nat) : ∀ b : Nat, bv L (a + b) = bv L a * 2 ^ b + bv (fun i => L (a + i)) b
  | 0 => by simp [bv]
  | b + 1 => by
    show 2 * bv L (a + b) + L (a + b) = bv L a * 2 ^ (b + 1) + (2 * bv (fun i => L (a + i)) b + L (a + b))
    rw [bv_add L a b, Nat.pow_succ, Nat.mul_add, ← Nat.mul_assoc (bv L a), Nat.mul_comm 2 (bv L a * 2 ^ b)]
    omega
theorem bv_div {L : Nat → Nat} {N p : Nat} (hL : ∀ i, i < N → L i < 2) (h : p ≤ N) : bv L N / 2 ^ (N - p) = bv L p := by
  have e : N = p + (N - p) := by omega
  have h1 : bv (fun i => L (p + i)) (N - p) < 2 ^ (N - p) := bv_lt (fun i hi => hL _ (by omega))
  have h2 : bv L N = bv L p * 2 ^ (N - p) + bv (fun i => L (p + i)) (N - p) := by
    have := bv_add L p (N - p)
    rw [← e] at this
    exact this
  rw [h2, Nat.mul_comm, Nat.mul_add_div (Nat.two_pow_pos _), Nat.div_eq_of_lt h1, Nat.add_zero]
theorem bv_bit {L : Nat → Nat} {p : Nat} (h : L p < 2) : bv L (p + 1) % 2 = L p := by
  show (2 * bv L p + L p) % 2 = L p
  omega
theorem bv_inj {A B : Nat → Nat} : ∀ {n : Nat}, (∀ i, i < n → A i < 2) → (∀ i, i < n → B i < 2) → bv A n = bv B n → ∀ i, i < n → A i = B i
  | 0, _, _, _, i, hi => by omega
  | n + 1, hA, hB, h, i, hi => by
    have h1 : 2 * bv A n + A n = 2 * bv B n + B n := h
    have h2 := hA n (by omega)
    have h3 := hB n (by omega)
    by_cases hin : i = n
    · subst hin
      omega
    · exact bv_inj (n := n) (fun i hi => hA i (by omega)) (fun i hi => hB i (by omega)) (by omega) i (by omega)
theorem bv_iff {A B : Nat → Nat} {n : Nat} (hA : ∀ i, i < n → A i < 2) (hB : ∀ i, i < n → B i < 2) : bv A n = bv B n ↔ ∀ i, i < n → A i = B i := ⟨bv_inj hA hB, bv_congr⟩
theorem bv_lex {A B : Nat → Nat} {n k : Nat} (hA : ∀ i, i < n → A i < 2) (hk : k < n) (he : ∀ i, i < k → A i = B i) (hl : A k < B k) : bv A n < bv B n := by
  have e : n = (k + 1) + (n - (k + 1)) := by omega
  have h1 := bv_add A (k + 1) (n - (k + 1))
  have h2 := bv_add B (k + 1) (n - (k + 1))
  rw [← e] at h1 h2
  have h3 : bv (fun i => A (k + 1 + i)) (n - (k + 1)) < 2 ^ (n - (k + 1)) := bv_lt (fun i hi => hA _ (by omega))
  have h4 : bv A (k + 1) + 1 ≤ bv B (k + 1) := by
    show 2 * bv A k + A k + 1 ≤ 2 * bv B k + B k
    rw [bv_congr he]
    omega
  have h5 : (bv A (k + 1) + 1) * 2 ^ (n - (k + 1)) ≤ bv B (k + 1) * 2 ^ (n - (k + 1)) := Nat.mul_le_mul_right _ h4
  rw [Nat.add_mul] at h5
  omega
theorem rot_lt {N k : Nat} {L : Nat → Nat} (h : LW N L) : ∀ i, i < N → rot N k L i < 2 := fun i _ => h.2.2 _ (Nat.mod_lt _ h.1)
theorem bv_rot {N k : Nat} {L : Nat → Nat} (h : LW N L) (hk : k < N) : ((bv L N * 2 ^ k) ||| (bv L N / 2 ^ (N - k))) % 2 ^ N = bv (rot N k L) N := by
  obtain ⟨h1, h2, h3⟩ := h
  have hd := bv_div h3 (Nat.le_of_lt hk)
  have hlo : bv (fun i => L (k + i)) (N - k) < 2 ^ (N - k) := bv_lt (fun i hi => h3 _ (by omega))
  have hhi : bv L k < 2 ^ k := bv_lt (fun i hi => h3 _ (by omega))
  have hb : bv L N = bv L k * 2 ^ (N - k) + bv (fun i => L (k + i)) (N - k) := by
    have := bv_add L k (N - k)
    rw [show k + (N - k) = N by omega] at this
    exact this
  have hr : bv (rot N k L) N = bv (fun i => L (k + i)) (N - k) * 2 ^ k + bv L k := by
    have := bv_add (rot N k L) (N - k) k
    rw [show N - k + k = N by omega] at this
    have e1 : bv (rot N k L) (N - k) = bv (fun i => L (k + i)) (N - k) := bv_congr (fun i hi => by
      unfold rot
      rw [Nat.mod_eq_of_lt (by omega)])
    have e2 : bv (fun i => rot N k L (N - k + i)) k = bv L k := bv_congr (fun i hi => by
      show L ((k + (N - k + i)) % N) = L i
      rw [show k + (N - k + i) = i + N by omega, Nat.add_mod_right, Nat.mod_eq_of_lt (by omega)])
    rw [this, e1, e2]
  rw [hd, Nat.mul_comm (bv L N), ← Nat.two_pow_add_eq_or_of_lt hhi, hb, hr]
  have e : 2 ^ k * (bv L k * 2 ^ (N - k) + bv (fun i => L (k + i)) (N - k)) + bv L k = (bv (fun i => L (k + i)) (N - k) * 2 ^ k + bv L k) + bv L k * 2 ^ N := by
    have e2 : 2 ^ N = 2 ^ k * 2 ^ (N - k) := by rw [← Nat.pow_add]; congr 1; omega
    rw [e2, Nat.mul_add, Nat.mul_comm (2 ^ k) (bv (fun i => L (k + i)) (N - k))]
    have e3 : 2 ^ k * (bv L k * 2 ^ (N - k)) = bv L k * (2 ^ k * 2 ^ (N - k)) := by rw [← Nat.mul_assoc, ← Nat.mul_assoc, Nat.mul_comm (2 ^ k)]
    rw [e3]
    omega
  rw [e, Nat.add_mul_mod_self_right]
  apply Nat.mod_eq_of_lt
  have h6 : (bv (fun i => L (k + i)) (N - k) + 1) * 2 ^ k ≤ 2 ^ (N - k) * 2 ^ k := Nat.mul_le_mul_right _ hlo
  have e2 : 2 ^ (N - k) * 2 ^ k = 2 ^ N := by rw [← Nat.pow_add]; congr 1; omega
  rw [e2, Nat.add_mul] at h6
  omega
theorem bv_not {L : Nat → Nat} : ∀ {n : Nat}, (∀ i, i < n → L i < 2) → bv (fun i => 1 - L i) n + bv L n + 1 = 2 ^ n
  | 0, _ => by simp [bv]
  | n + 1, h => by
    have h1 := bv_not (n := n) (fun i hi => h i (by omega))
    have h2 := h n (by omega)
    show 2 * bv (fun i => 1 - L i) n + (1 - L n) + (2 * bv L n + L n) + 1 = 2 ^ (n + 1)
    rw [Nat.pow_succ]
    omega
theorem bv_xor {L : Nat → Nat} {n : Nat} (h : ∀ i, i < n → L i < 2) : bv L n ^^^ (2 ^ n - 1) = bv (fun i => 1 - L i) n := by
  have h1 := bv_not h
  have h2 := bv_lt h
  have e : bv (fun i => 1 - L i) n = 2 ^ n - (bv L n + 1) := by omega
  rw [e]
  apply Nat.eq_of_testBit_eq
  intro i
  rw [Nat.testBit_xor, Nat.testBit_two_pow_sub_one, Nat.testBit_two_pow_sub_succ h2]
  by_cases hi : i < n
  · simp [hi]
  · have : (bv L n).testBit i = false := Nat.testBit_lt_two_pow (Nat.lt_of_lt_of_le h2 (Nat.pow_le_pow_right (by decide) (by omega)))
    simp [hi, this]
theorem lw20 {N : Nat} {L : Nat → Nat} (h : LW N L) : bv L N < 1048576 := Nat.lt_of_lt_of_le (bv_lt h.2.2) (Nat.pow_le_pow_right (n := 2) (by decide) h.2.1)
theorem tp20 {N : Nat} (h : N ≤ 20) : 2 ^ N ≤ 1048576 := Nat.pow_le_pow_right (n := 2) (by decide) h
