-- THE PURE SIDE: how many bits are set
def pcn : Nat → Nat → Nat
  | 0, _ => 0
  | n + 1, v => v % 2 + pcn n (v / 2)
theorem pcn_add : ∀ (m n v : Nat), pcn (m + n) v = pcn m v + pcn n (v / 2 ^ m)
  | 0, n, v => by simp [pcn]
  | m + 1, n, v => by
    rw [show m + 1 + n = (m + n) + 1 by omega, pcn, pcn, pcn_add m n (v / 2), Nat.div_div_eq_div_mul, Nat.pow_succ, Nat.mul_comm (2 ^ m) 2]
    omega
theorem pcn_mod : ∀ (m v : Nat), pcn m (v % 2 ^ m) = pcn m v
  | 0, v => rfl
  | m + 1, v => by
    rw [pcn, pcn, ← pcn_mod m (v / 2), Nat.pow_succ, Nat.mul_comm (2 ^ m) 2]
    congr 1
    · exact Nat.mod_mul_right_mod v 2 (2 ^ m)
    · rw [Nat.mod_mul_right_div_self]
theorem pcn_zero : ∀ m : Nat, pcn m 0 = 0
  | 0 => rfl
  | m + 1 => by rw [pcn, pcn_zero m]
theorem pcn_bv {L : Nat → Nat} : ∀ {n : Nat}, (∀ i, i < n → L i < 2) → pcn n (bv L n) + zc L n = n
  | 0, _ => rfl
  | n + 1, h => by
    have h1 := h n (by omega)
    have ih := pcn_bv (L := L) (n := n) (fun i hi => h i (by omega))
    rw [pcn, bv, zc, show (2 * bv L n + L n) % 2 = L n by omega, show (2 * bv L n + L n) / 2 = bv L n by omega]
    by_cases h0 : L n = 0
    · rw [if_pos h0]
      omega
    · rw [if_neg h0]
      omega
theorem land_split {a b c d : Nat} (ha : a < 256) (hc : c < 256) : (a + 256 * b) &&& (c + 256 * d) = (a &&& c) + 256 * (b &&& d) := by
  have e1 : ∀ x y : Nat, x < 256 → x + 256 * y = 2 ^ 8 * y ||| x := fun x y hx => by
    rw [← Nat.two_pow_add_eq_or_of_lt (i := 8) hx y]
    omega
  have h3 : a &&& c < 256 := Nat.lt_of_le_of_lt Nat.and_le_left ha
  apply Nat.eq_of_testBit_eq
  intro i
  rw [Nat.testBit_and, Nat.add_comm a, Nat.add_comm c, Nat.add_comm (a &&& c)]
  rw [show (256 : Nat) = 2 ^ 8 from rfl, Nat.testBit_two_pow_mul_add _ ha, Nat.testBit_two_pow_mul_add _ hc, Nat.testBit_two_pow_mul_add _ h3]
  by_cases hi : i < 8
  · simp [hi, Nat.testBit_and]
  · simp [hi, Nat.testBit_and]
def k1 (x : Nat) : Nat := x - (x / 2 &&& 85)
def k2 (x : Nat) : Nat := (x &&& 51) + (x / 4 &&& 51)
def k3 (x : Nat) : Nat := (x + x / 16) &&& 15
theorem k1_a : ∀ a, a < 256 → ∀ r, r < 2 → (a / 2 + 128 * r) &&& 85 = (a / 2 &&& 85) ∧ (a / 2 &&& 85) ≤ a ∧ k1 a < 256 := by decide +kernel
theorem k2_a : ∀ a, a < 256 → ∀ r, r < 4 → (a / 4 + 64 * r) &&& 51 = (a / 4 &&& 51) ∧ k2 a < 256 ∧ k2 (k1 a) % 16 ≤ 4 ∧ k2 (k1 a) / 16 ≤ 4 := by decide +kernel
theorem k3_a : ∀ a, a < 69 → ∀ r, r < 5 → a % 16 ≤ 4 → a + a / 16 + 16 * r < 256 ∧ (a + a / 16 + 16 * r) &&& 15 = k3 a := by decide +kernel
theorem k_pc : ∀ a, a < 256 → k3 (k2 (k1 a)) = pcn 8 a ∧ pcn 8 a ≤ 8 := by decide +kernel
def G1 (m x : Nat) : Nat := x - (x / 2 &&& m)
def G2 (m x : Nat) : Nat := (x &&& m) + (x / 4 &&& m)
def G3 (m x : Nat) : Nat := (x + x / 16) &&& m
theorem G1_le (m b : Nat) : (b / 2 &&& m) ≤ b := Nat.le_trans Nat.and_le_left (Nat.div_le_self b 2)
theorem G1_s (m : Nat) {a b : Nat} (ha : a < 256) : G1 (85 + 256 * m) (a + 256 * b) = k1 a + 256 * G1 m b := by
  have h := k1_a a ha (b % 2) (by omega)
  have hb := G1_le m b
  unfold G1 k1
  rw [show (a + 256 * b) / 2 = (a / 2 + 128 * (b % 2)) + 256 * (b / 2) by omega, land_split (by omega) (by omega), h.1, Nat.mul_sub]
  have := Nat.mul_le_mul_left 256 hb
  omega
theorem G2_s (m : Nat) {a b : Nat} (ha : a < 256) : G2 (51 + 256 * m) (a + 256 * b) = k2 a + 256 * G2 m b := by
  have h := k2_a a ha (b % 4) (by omega)
  unfold G2 k2
  rw [show (a + 256 * b) / 4 = (a / 4 + 64 * (b % 4)) + 256 * (b / 4) by omega, land_split (by omega) (by omega), land_split (by omega) (by omega), h.1]
  omega
theorem G3_s (m : Nat) {a b : Nat} (ha : a < 69) (ha2 : a % 16 ≤ 4) (hb : b % 16 ≤ 4) : G3 (15 + 256 * m) (a + 256 * b) = k3 a + 256 * G3 m b := by
  have h := k3_a a ha (b % 16) (by omega) ha2
  unfold G3
  rw [show a + 256 * b + (a + 256 * b) / 16 = (a + a / 16 + 16 * (b % 16)) + 256 * (b + b / 16) by omega, land_split h.1 (by omega), h.2]
theorem G_top : ∀ c, c < 16 → G1 21845 c = k1 c ∧ G2 13107 (k1 c) = k2 (k1 c) ∧ G3 3855 (k2 (k1 c)) = k3 (k2 (k1 c)) := by decide +kernel
theorem G_all {a b c : Nat} (ha : a < 256) (hb : b < 256) (hc : c < 16) : G3 252645135 (G2 858993459 (G1 1431655765 (a + 256 * (b + 256 * c)))) = pcn 8 a + 256 * (pcn 8 b + 256 * pcn 8 c) := by
  obtain ⟨t1, t2, t3⟩ := G_top c hc
  have q1 := k1_a a ha 0 (by omega)
  have q2 := k1_a b hb 0 (by omega)
  have q3 := k1_a c (by omega) 0 (by omega)
  have r1 := k2_a a ha 0 (by omega)
  have r2 := k2_a b hb 0 (by omega)
  have r3 := k2_a c (by omega) 0 (by omega)
  have v1 := k2_a _ q1.2.2 0 (by omega)
  have v2 := k2_a _ q2.2.2 0 (by omega)
  rw [show (1431655765 : Nat) = 85 + 256 * (85 + 256 * 21845) from rfl, G1_s _ ha, G1_s _ hb, t1]
  rw [show (858993459 : Nat) = 51 + 256 * (51 + 256 * 13107) from rfl, G2_s _ q1.2.2, G2_s _ q2.2.2, t2]
  rw [show (252645135 : Nat) = 15 + 256 * (15 + 256 * 3855) from rfl, G3_s _ (by omega) (by omega) (by omega), G3_s _ (by omega) (by omega) (by omega), t3]
  rw [(k_pc a ha).1, (k_pc b hb).1, (k_pc c (by omega)).1]
theorem jus_k : ∀ k, k < 32 → ((nI k).toUInt32 &&& Int32.toUInt32 31).toNat = k := by decide +kernel
theorem jus {v k : Nat} (hv : v < 2 ^ 31) (hk : k < 32) : jushr (nI v) (nI k) = nI (v / 2 ^ k) := by
  apply Int32.toBitVec_inj.1
  apply BitVec.eq_of_toNat_eq
  unfold jushr
  show ((nI v).toUInt32 >>> ((nI k).toUInt32 &&& Int32.toUInt32 31)).toNat = (v / 2 ^ k) % 2 ^ 32
  rw [UInt32.toNat_shiftRight, jus_k k hk, Nat.mod_eq_of_lt hk, Nat.shiftRight_eq_div_pow]
  show (v % 2 ^ 32) / 2 ^ k = (v / 2 ^ k) % 2 ^ 32
  have h1 : v / 2 ^ k ≤ v := Nat.div_le_self _ _
  rw [Nat.mod_eq_of_lt (by omega), Nat.mod_eq_of_lt (by omega)]
theorem bitCount {N : Nat} {L : Nat → Nat} (h : LW N L) : jbitCount (nI (bv L N)) = nI (N - zc L N) := by
  have hv := lw20 h
  have hd : bv L N = bv L N % 256 + 256 * (bv L N / 256 % 256 + 256 * (bv L N / 65536)) := by omega
  have hp : pcn 8 (bv L N % 256) + (pcn 8 (bv L N / 256 % 256) + pcn 8 (bv L N / 65536)) + zc L N = N := by
    have e1 := pcn_bv h.2.2
    have e2 : pcn 24 (bv L N) = pcn N (bv L N) := by
      have h2 := h.2.1
      rw [show 24 = N + (24 - N) by omega, pcn_add, Nat.div_eq_of_lt (bv_lt h.2.2), pcn_zero, Nat.add_zero]
    have e3 : pcn 24 (bv L N) = pcn 8 (bv L N) + (pcn 8 (bv L N / 256) + pcn 8 (bv L N / 65536)) := by
      rw [show 24 = 8 + (8 + 8) from rfl, pcn_add, pcn_add, Nat.div_div_eq_div_mul]
    have m1 : pcn 8 (bv L N % 256) = pcn 8 (bv L N) := pcn_mod 8 _
    have m2 : pcn 8 (bv L N / 256 % 256) = pcn 8 (bv L N / 256) := pcn_mod 8 _
    omega
  have ha : bv L N % 256 < 256 := Nat.mod_lt _ (by omega)
  have hb : bv L N / 256 % 256 < 256 := Nat.mod_lt _ (by omega)
  have hc : bv L N / 65536 < 16 := by omega
  have G := G_all ha hb hc
  rw [← hd] at G
  have p1 := (k_pc _ ha).2
  have p2 := (k_pc _ hb).2
  have p3 := (k_pc _ (show bv L N / 65536 < 256 by omega)).2
  generalize bv L N = v at *
  have s1 : jbc1 (nI v) = nI (G1 1431655765 v) := by
    unfold jbc1
    rw [show (1 : Int32) = nI 1 from rfl, jus (by omega) (by omega), show (1431655765 : Int32) = nI 1431655765 from rfl, n_and, n_sub (G1_le 1431655765 v)]
    rfl
  have l1 : G1 1431655765 v ≤ v := Nat.sub_le _ _
  have s2 : jbc2 (nI (G1 1431655765 v)) = nI (G2 858993459 (G1 1431655765 v)) := by
    unfold jbc2
    rw [show (2 : Int32) = nI 2 from rfl, jus (by omega) (by omega), show (858993459 : Int32) = nI 858993459 from rfl, n_and, n_and, nI_add]
    rfl
  have l2 : G2 858993459 (G1 1431655765 v) ≤ 2 * v := by
    have t1 : G1 1431655765 v &&& 858993459 ≤ G1 1431655765 v := Nat.and_le_left
    have t2 : G1 1431655765 v / 4 &&& 858993459 ≤ G1 1431655765 v / 4 := Nat.and_le_left
    unfold G2
    omega
  have s3 : jbc3 (nI (G2 858993459 (G1 1431655765 v))) = nI (G3 252645135 (G2 858993459 (G1 1431655765 v))) := by
    unfold jbc3
    rw [show (4 : Int32) = nI 4 from rfl, jus (by omega) (by omega), show (252645135 : Int32) = nI 252645135 from rfl, nI_add, n_and]
    rfl
  unfold jbitCount
  rw [s1, s2, s3, G]
  unfold jbc4 jbc5
  rw [show (8 : Int32) = nI 8 from rfl, jus (by omega) (by omega), nI_add, show (16 : Int32) = nI 16 from rfl, jus (by omega) (by omega), nI_add]
  generalize pcn 8 (v % 256) = x1 at *
  generalize pcn 8 (v / 256 % 256) = x2 at *
  generalize pcn 8 (v / 65536) = x3 at *
  have d1 : (x1 + 256 * (x2 + 256 * x3)) / 256 = x2 + 256 * x3 := by omega
  rw [show (2 : Nat) ^ 8 = 256 from rfl, show (2 : Nat) ^ 16 = 65536 from rfl, d1]
  have d2 : (x1 + 256 * (x2 + 256 * x3) + (x2 + 256 * x3)) / 65536 = x3 := by omega
  rw [d2]
  rw [show (63 : Int32) = nI (2 ^ 6 - 1) from rfl, n_mask]
  congr 1
  have d3 : N - zc L N = x1 + x2 + x3 := by omega
  rw [d3]
  omega
