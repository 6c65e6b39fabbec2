-- THE FLOW OF A TRIPLE
theorem addI {x y : Int32} (h1 : -2147483648 ≤ x.toInt + y.toInt) (h2 : x.toInt + y.toInt < 2147483648) : (x + y).toInt = x.toInt + y.toInt := by
  rw [Int32.toInt_add, Int.bmod_eq_of_le (by omega) (by omega)]
theorem mulI {x y : Int32} (h1 : -2147483648 ≤ x.toInt * y.toInt) (h2 : x.toInt * y.toInt < 2147483648) : (x * y).toInt = x.toInt * y.toInt := by
  rw [Int32.toInt_mul, Int.bmod_eq_of_le (by omega) (by omega)]
theorem subI {x y : Int32} (h1 : -2147483648 ≤ x.toInt - y.toInt) (h2 : x.toInt - y.toInt < 2147483648) : (x - y).toInt = x.toInt - y.toInt := by
  rw [Int32.toInt_sub, Int.bmod_eq_of_le (by omega) (by omega)]
theorem le0 {x : Int32} : x ≤ 0 ↔ x.toInt ≤ 0 := by
  rw [Int32.le_iff_toInt_le]
  exact Iff.rfl
theorem fl_core {D A B C T : Int} (hD : B * B = D + 4 * (A * C)) (hD0 : 0 < D) (hT : T = 1 ∨ T = -1) (hS : (0 < A ∧ 0 < C ∧ T * B ≤ 0) ∨ (A < 0 ∧ C < 0 ∧ 0 ≤ T * B)) (h : A.natAbs ≤ C.natAbs) : (B + 2 * T * A) * (B + 2 * T * A) = D + 4 * (A * (A + C + T * B)) ∧ ((A ≤ 0 ↔ A + C + T * B ≤ 0) → (A + C + T * B).natAbs < C.natAbs) := by
  have hSS : (T * B) * (T * B) = D + 4 * (A * C) := by
    rw [← hD]
    rcases hT with rfl | rfl
    · grind
    · grind
  refine ⟨?_, fun hc => ?_⟩
  · rcases hT with rfl | rfl
    · grind
    · grind
  · generalize T * B = S at *
    rcases hS with ⟨h1, h2, h3⟩ | ⟨h1, h2, h3⟩
    · have hlt : A + S < 0 := by
        by_cases q : A + S < 0
        · exact q
        · exfalso
          have p1 : (-S) * (-S) ≤ A * A := Int.mul_le_mul (by omega) (by omega) (by omega) (by omega)
          have p2 : A * A ≤ A * C := Int.mul_le_mul_of_nonneg_left (by omega) (by omega)
          have p3 : 0 < A * C := Int.mul_pos h1 h2
          rw [Int.neg_mul_neg] at p1
          omega
      have : ¬ A + C + S ≤ 0 := fun q => by
        have := hc.mpr q
        omega
      omega
    · have hlt : 0 < A + S := by
        by_cases q : 0 < A + S
        · exact q
        · exfalso
          have p1 : S * S ≤ (-A) * (-A) := Int.mul_le_mul (by omega) (by omega) (by omega) (by omega)
          have p2 : (-A) * (-A) ≤ (-A) * (-C) := Int.mul_le_mul_of_nonneg_left (by omega) (by omega)
          have p3 : 0 < (-A) * (-C) := Int.mul_pos (by omega) (by omega)
          rw [Int.neg_mul_neg] at p1 p2 p3
          rw [Int.neg_mul_neg] at p2
          omega
      have : A + C + S ≤ 0 := hc.mp (by omega)
      omega
theorem nab_le {x : Int} {p : Nat} (h : x.natAbs ≤ p) : -(p : Int) ≤ x ∧ x ≤ p := by omega
theorem nab_mul {x y : Int} {p q : Nat} (hx : x.natAbs ≤ p) (hy : y.natAbs ≤ q) : (x * y).natAbs ≤ p * q := by
  rw [Int.natAbs_mul]
  exact Nat.mul_le_mul hx hy
theorem fl_b {D A B C : Int} (hD : B * B = D + 4 * (A * C)) (hD0 : 0 ≤ D) (hD9 : D ≤ 900) (hA : A.natAbs ≤ 2000) (hC : C.natAbs ≤ 2000) : B.natAbs ≤ 5000 := by
  rcases Nat.lt_or_ge 5000 B.natAbs with q | q
  · exfalso
    have h1 := nab_mul hA hC
    have h2 : 5000 * 5000 ≤ B.natAbs * B.natAbs := Nat.mul_le_mul (by omega) (by omega)
    rw [← Int.natAbs_mul, hD] at h2
    omega
  · exact q
/-- the new numbers of a step, as whole numbers -/
theorem fl_num {a b c t : Int32} (ht : t = 1 ∨ t = -1) (ha : a.toInt.natAbs ≤ 2000) (hb : b.toInt.natAbs ≤ 5000) (hc : c.toInt.natAbs ≤ 2000) : ((a + c) + (t * b)).toInt = a.toInt + c.toInt + t.toInt * b.toInt ∧ (b + ((2 * t) * a)).toInt = b.toInt + 2 * t.toInt * a.toInt ∧ (b + ((2 * t) * c)).toInt = b.toInt + 2 * t.toInt * c.toInt := by
  have e1 : (a + c).toInt = a.toInt + c.toInt := addI (by omega) (by omega)
  rcases ht with rfl | rfl
  · have k1 : (1 : Int32).toInt = 1 := rfl
    have k2 : ((2 : Int32) * 1).toInt = 2 := by decide
    have m1 : (1 * b).toInt = 1 * b.toInt := by rw [mulI (by rw [k1]; omega) (by rw [k1]; omega), k1]
    have m2 : ((2 * 1) * a).toInt = 2 * a.toInt := by rw [mulI (by rw [k2]; omega) (by rw [k2]; omega), k2]
    have m3 : ((2 * 1) * c).toInt = 2 * c.toInt := by rw [mulI (by rw [k2]; omega) (by rw [k2]; omega), k2]
    rw [addI (x := a + c) (by rw [e1, m1]; omega) (by rw [e1, m1]; omega), e1, m1, addI (y := (2 * 1) * a) (by rw [m2]; omega) (by rw [m2]; omega), m2, addI (y := (2 * 1) * c) (by rw [m3]; omega) (by rw [m3]; omega), m3, k1]
    omega
  · have k1 : (-1 : Int32).toInt = -1 := by decide
    have k2 : ((2 : Int32) * (-1)).toInt = -2 := by decide
    have m1 : ((-1) * b).toInt = -1 * b.toInt := by rw [mulI (by rw [k1]; omega) (by rw [k1]; omega), k1]
    have m2 : ((2 * (-1)) * a).toInt = -2 * a.toInt := by rw [mulI (by rw [k2]; omega) (by rw [k2]; omega), k2]
    have m3 : ((2 * (-1)) * c).toInt = -2 * c.toInt := by rw [mulI (by rw [k2]; omega) (by rw [k2]; omega), k2]
    rw [addI (x := a + c) (by rw [e1, m1]; omega) (by rw [e1, m1]; omega), e1, m1, addI (y := (2 * (-1)) * a) (by rw [m2]; omega) (by rw [m2]; omega), m2, addI (y := (2 * (-1)) * c) (by rw [m3]; omega) (by rw [m3]; omega), m3, k1]
    omega
/-- a triple on its way -/
def FS (d : Nat) (a b c : Int32) : Prop := b.toInt * b.toInt = (d : Int) + 4 * (a.toInt * c.toInt)
theorem FS_ne {d : Nat} (hd : VD d) {a b c : Int32} (h : FS d a b c) : ¬ a.toInt = 0 ∧ ¬ c.toInt = 0 := by
  have key : ¬ b.toInt * b.toInt = (d : Int) := fun q => by
    have e : b.toInt.natAbs * b.toInt.natAbs = d := by
      rw [← Int.natAbs_mul, q]
      omega
    rcases Nat.lt_or_ge 30 b.toInt.natAbs with w | w
    · have := Nat.mul_le_mul (show 31 ≤ b.toInt.natAbs by omega) (show 31 ≤ b.toInt.natAbs by omega)
      have := hd.2.1
      omega
    · exact hd.2.2.2 _ w e
  unfold FS at h
  refine ⟨fun q => key ?_, fun q => key ?_⟩
  · rw [h, q]
    omega
  · rw [h, q]
    omega
/-- where a step goes -/
def SG (a b c t : Int32) : Prop := (0 < a.toInt ∧ 0 < c.toInt ∧ t.toInt * b.toInt ≤ 0) ∨ (a.toInt < 0 ∧ c.toInt < 0 ∧ 0 ≤ t.toInt * b.toInt)
theorem fl_lt {d : Nat} (hd : VD d) {a b c t : Int32} (h : FS d a b c) (ht : t = 1 ∨ t = -1) (hs : SG a b c t) (ha : a.toInt.natAbs ≤ 2000) (hc : c.toInt.natAbs ≤ 2000) (hlt : a.toInt.natAbs ≤ c.toInt.natAbs) : FS d a (b + ((2 * t) * a)) ((a + c) + (t * b)) ∧ ((a.toInt ≤ 0 ↔ ((a + c) + (t * b)).toInt ≤ 0) → a.toInt.natAbs + ((a + c) + (t * b)).toInt.natAbs < a.toInt.natAbs + c.toInt.natAbs) := by
  have hd9 := hd.2.1
  have hd5 := hd.1
  have hb := fl_b h (by omega) (by omega) ha hc
  obtain ⟨e1, e2, e3⟩ := fl_num ht ha hb hc
  have hT : t.toInt = 1 ∨ t.toInt = -1 := by
    rcases ht with rfl | rfl
    · exact Or.inl rfl
    · exact Or.inr (by decide)
  obtain ⟨c1, c2⟩ := fl_core h (by omega) hT hs hlt
  unfold FS
  rw [e1, e2]
  refine ⟨c1, fun q => ?_⟩
  have := c2 q
  omega
theorem fl_ge {d : Nat} (hd : VD d) {a b c t : Int32} (h : FS d a b c) (ht : t = 1 ∨ t = -1) (hs : SG a b c t) (ha : a.toInt.natAbs ≤ 2000) (hc : c.toInt.natAbs ≤ 2000) (hlt : c.toInt.natAbs ≤ a.toInt.natAbs) : FS d ((a + c) + (t * b)) (b + ((2 * t) * c)) c ∧ ((((a + c) + (t * b)).toInt ≤ 0 ↔ c.toInt ≤ 0) → ((a + c) + (t * b)).toInt.natAbs + c.toInt.natAbs < a.toInt.natAbs + c.toInt.natAbs) := by
  have hd9 := hd.2.1
  have hd5 := hd.1
  have hb := fl_b h (by omega) (by omega) ha hc
  obtain ⟨e1, e2, e3⟩ := fl_num ht ha hb hc
  have hT : t.toInt = 1 ∨ t.toInt = -1 := by
    rcases ht with rfl | rfl
    · exact Or.inl rfl
    · exact Or.inr (by decide)
  have h' : b.toInt * b.toInt = (d : Int) + 4 * (c.toInt * a.toInt) := by
    rw [Int.mul_comm c.toInt]
    exact h
  have hs' : (0 < c.toInt ∧ 0 < a.toInt ∧ t.toInt * b.toInt ≤ 0) ∨ (c.toInt < 0 ∧ a.toInt < 0 ∧ 0 ≤ t.toInt * b.toInt) := by
    rcases hs with w | w
    · exact Or.inl ⟨w.2.1, w.1, w.2.2⟩
    · exact Or.inr ⟨w.2.1, w.1, w.2.2⟩
  obtain ⟨c1, c2⟩ := fl_core h' (by omega) hT hs' hlt
  unfold FS
  rw [e1, e3]
  rw [show c.toInt + a.toInt + t.toInt * b.toInt = a.toInt + c.toInt + t.toInt * b.toInt by omega] at c1 c2
  refine ⟨by rw [c1, Int.mul_comm c.toInt], fun q => ?_⟩
  have := c2 q.symm
  omega
theorem fl_step {d : Nat} (hd : VD d) {a b c : Int32} {k : Nat} (h : FS d a b c) (hk : k < 2000) (hsame : a.toInt ≤ 0 ↔ c.toInt ≤ 0) (ha : a.toInt.natAbs ≤ 2000) (hc : c.toInt.natAbs ≤ 2000) : ∃ a' b' c' : Int32, (∀ f, P2_follow_12 (f + 1) a b c (nI k) = P2_follow_12 f a' b' c' (nI (k + 1))) ∧ (∀ g, P5_flowNow_2 (g + 1) a b c (nI k) = P5_flowNow_2 g a' b' c' (nI (k + 1))) ∧ FS d a' b' c' ∧ ((a'.toInt ≤ 0 ↔ c'.toInt ≤ 0) → a'.toInt.natAbs + c'.toInt.natAbs < a.toInt.natAbs + c.toInt.natAbs) := by
  obtain ⟨na0, nc0⟩ := FS_ne hd h
  have oka : Ok a := by unfold Ok; omega
  have okc : Ok c := by unfold Ok; omega
  have k0 : ¬ (2000 : Int32) ≤ nI k := nI_ge (b := 2000) hk (by omega)
  have hl : (nI (na a) < nI (na c)) ↔ a.toInt.natAbs < c.toInt.natAbs := nI_ltI (ok_lt oka) (ok_lt okc)
  have t1 : (1 : Int32).toInt = 1 := rfl
  have t2 : (-1 : Int32).toInt = -1 := by decide
  by_cases a0 : a ≤ 0
  · have A0 := le0.mp a0
    have C0 := hsame.mp A0
    have c0 := le0.mpr C0
    by_cases b0 : b ≤ 0
    · have B0 := le0.mp b0
      have hs : SG a b c (-1) := Or.inr ⟨by omega, by omega, by rw [t2]; omega⟩
      by_cases lt : nI (na a) < nI (na c)
      · obtain ⟨r1, r2⟩ := fl_lt hd h (Or.inr rfl) hs ha hc (Nat.le_of_lt (hl.mp lt))
        refine ⟨a, b + ((2 * (-1)) * a), (a + c) + ((-1) * b), fun f => ?_, fun g => ?_, r1, r2⟩
        · rw [P2_follow_12, if_neg k0, if_pos a0, if_pos c0, if_pos a0, if_pos b0, jabs_na oka, jabs_na okc, if_pos lt, nI_1]
        · rw [P5_flowNow_2, if_pos a0, if_pos c0]
          unfold P5_flowStep
          rw [if_pos a0, if_pos b0, m_abs oka, ob, m_abs okc, ob, if_pos lt, ob, nI_1]
      · obtain ⟨r1, r2⟩ := fl_ge hd h (Or.inr rfl) hs ha hc (Nat.le_of_not_lt (fun q => lt (hl.mpr q)))
        refine ⟨(a + c) + ((-1) * b), b + ((2 * (-1)) * c), c, fun f => ?_, fun g => ?_, r1, r2⟩
        · rw [P2_follow_12, if_neg k0, if_pos a0, if_pos c0, if_pos a0, if_pos b0, jabs_na oka, jabs_na okc, if_neg lt, nI_1]
        · rw [P5_flowNow_2, if_pos a0, if_pos c0]
          unfold P5_flowStep
          rw [if_pos a0, if_pos b0, m_abs oka, ob, m_abs okc, ob, if_neg lt, ob, nI_1]
    · have B0 : ¬ b.toInt ≤ 0 := fun q => b0 (le0.mpr q)
      have hs : SG a b c 1 := Or.inr ⟨by omega, by omega, by rw [t1]; omega⟩
      by_cases lt : nI (na a) < nI (na c)
      · obtain ⟨r1, r2⟩ := fl_lt hd h (Or.inl rfl) hs ha hc (Nat.le_of_lt (hl.mp lt))
        refine ⟨a, b + ((2 * 1) * a), (a + c) + (1 * b), fun f => ?_, fun g => ?_, r1, r2⟩
        · rw [P2_follow_12, if_neg k0, if_pos a0, if_pos c0, if_pos a0, if_neg b0, jabs_na oka, jabs_na okc, if_pos lt, nI_1]
        · rw [P5_flowNow_2, if_pos a0, if_pos c0]
          unfold P5_flowStep
          rw [if_pos a0, if_neg b0, m_abs oka, ob, m_abs okc, ob, if_pos lt, ob, nI_1]
      · obtain ⟨r1, r2⟩ := fl_ge hd h (Or.inl rfl) hs ha hc (Nat.le_of_not_lt (fun q => lt (hl.mpr q)))
        refine ⟨(a + c) + (1 * b), b + ((2 * 1) * c), c, fun f => ?_, fun g => ?_, r1, r2⟩
        · rw [P2_follow_12, if_neg k0, if_pos a0, if_pos c0, if_pos a0, if_neg b0, jabs_na oka, jabs_na okc, if_neg lt, nI_1]
        · rw [P5_flowNow_2, if_pos a0, if_pos c0]
          unfold P5_flowStep
          rw [if_pos a0, if_neg b0, m_abs oka, ob, m_abs okc, ob, if_neg lt, ob, nI_1]
  · have A0 : ¬ a.toInt ≤ 0 := fun q => a0 (le0.mpr q)
    have C0 : ¬ c.toInt ≤ 0 := fun q => A0 (hsame.mpr q)
    have c0 : ¬ c ≤ 0 := fun q => C0 (le0.mp q)
    by_cases b0 : b ≤ 0
    · have B0 := le0.mp b0
      have hs : SG a b c 1 := Or.inl ⟨by omega, by omega, by rw [t1]; omega⟩
      by_cases lt : nI (na a) < nI (na c)
      · obtain ⟨r1, r2⟩ := fl_lt hd h (Or.inl rfl) hs ha hc (Nat.le_of_lt (hl.mp lt))
        refine ⟨a, b + ((2 * 1) * a), (a + c) + (1 * b), fun f => ?_, fun g => ?_, r1, r2⟩
        · rw [P2_follow_12, if_neg k0, if_neg a0, if_neg c0, if_neg a0, if_pos b0, jabs_na oka, jabs_na okc, if_pos lt, nI_1]
        · rw [P5_flowNow_2, if_neg a0, if_neg c0]
          unfold P5_flowStep
          rw [if_neg a0, if_pos b0, m_abs oka, ob, m_abs okc, ob, if_pos lt, ob, nI_1]
      · obtain ⟨r1, r2⟩ := fl_ge hd h (Or.inl rfl) hs ha hc (Nat.le_of_not_lt (fun q => lt (hl.mpr q)))
        refine ⟨(a + c) + (1 * b), b + ((2 * 1) * c), c, fun f => ?_, fun g => ?_, r1, r2⟩
        · rw [P2_follow_12, if_neg k0, if_neg a0, if_neg c0, if_neg a0, if_pos b0, jabs_na oka, jabs_na okc, if_neg lt, nI_1]
        · rw [P5_flowNow_2, if_neg a0, if_neg c0]
          unfold P5_flowStep
          rw [if_neg a0, if_pos b0, m_abs oka, ob, m_abs okc, ob, if_neg lt, ob, nI_1]
    · have B0 : ¬ b.toInt ≤ 0 := fun q => b0 (le0.mpr q)
      have hs : SG a b c (-1) := Or.inl ⟨by omega, by omega, by rw [t2]; omega⟩
      by_cases lt : nI (na a) < nI (na c)
      · obtain ⟨r1, r2⟩ := fl_lt hd h (Or.inr rfl) hs ha hc (Nat.le_of_lt (hl.mp lt))
        refine ⟨a, b + ((2 * (-1)) * a), (a + c) + ((-1) * b), fun f => ?_, fun g => ?_, r1, r2⟩
        · rw [P2_follow_12, if_neg k0, if_neg a0, if_neg c0, if_neg a0, if_neg b0, jabs_na oka, jabs_na okc, if_pos lt, nI_1]
        · rw [P5_flowNow_2, if_neg a0, if_neg c0]
          unfold P5_flowStep
          rw [if_neg a0, if_neg b0, m_abs oka, ob, m_abs okc, ob, if_pos lt, ob, nI_1]
      · obtain ⟨r1, r2⟩ := fl_ge hd h (Or.inr rfl) hs ha hc (Nat.le_of_not_lt (fun q => lt (hl.mpr q)))
        refine ⟨(a + c) + ((-1) * b), b + ((2 * (-1)) * c), c, fun f => ?_, fun g => ?_, r1, r2⟩
        · rw [P2_follow_12, if_neg k0, if_neg a0, if_neg c0, if_neg a0, if_neg b0, jabs_na oka, jabs_na okc, if_neg lt, nI_1]
        · rw [P5_flowNow_2, if_neg a0, if_neg c0]
          unfold P5_flowStep
          rw [if_neg a0, if_neg b0, m_abs oka, ob, m_abs okc, ob, if_neg lt, ob, nI_1]
theorem fl_end {a b c : Int32} {x : Int32} {f g : Nat} (hsame : ¬ (a.toInt ≤ 0 ↔ c.toInt ≤ 0)) : P2_follow_12 (f + 1) a b c x = some (a, b, c, x) ∧ P5_flowNow_2 (g + 1) a b c x = some (a, b, c, x) := by
  rw [P2_follow_12, P5_flowNow_2]
  by_cases a0 : a ≤ 0
  · have c0 : ¬ c ≤ 0 := fun q => hsame ⟨fun _ => le0.mp q, fun _ => le0.mp a0⟩
    rw [if_pos a0, if_neg c0, if_pos a0, if_neg c0]
    split
    · exact ⟨rfl, rfl⟩
    · exact ⟨rfl, rfl⟩
  · have c0 : c ≤ 0 := le0.mpr (by
      have A0 : ¬ a.toInt ≤ 0 := fun w => a0 (le0.mpr w)
      by_cases w : c.toInt ≤ 0
      · exact w
      · exact absurd ⟨fun y => absurd y A0, fun y => absurd y w⟩ hsame)
    rw [if_neg a0, if_pos c0, if_neg a0, if_pos c0]
    split
    · exact ⟨rfl, rfl⟩
    · exact ⟨rfl, rfl⟩
theorem fl_loop {d : Nat} (hd : VD d) : ∀ (M k f g : Nat) (a b c : Int32), FS d a b c → ((a.toInt ≤ 0 ↔ c.toInt ≤ 0) → a.toInt.natAbs + c.toInt.natAbs ≤ M) → k + M ≤ 2000 → M < f → M < g → ∃ r : Int32 × Int32 × Int32 × Int32, P2_follow_12 f a b c (nI k) = some r ∧ P5_flowNow_2 g a b c (nI k) = some r ∧ ¬ r.1 = 0
  | 0, k, f, g, a, b, c, h, hM, hk, hf, hg => by
    obtain ⟨f, rfl⟩ : ∃ w, f = w + 1 := ⟨f - 1, by omega⟩
    obtain ⟨g, rfl⟩ : ∃ w, g = w + 1 := ⟨g - 1, by omega⟩
    obtain ⟨n1, n2⟩ := FS_ne hd h
    obtain ⟨e1, e2⟩ := fl_end (b := b) (x := nI k) (f := f) (g := g) (fun q => n1 (by have := hM q; omega))
    exact ⟨_, e1, e2, fun q => n1 (by show a.toInt = 0; rw [show a = 0 from q]; rfl)⟩
  | M + 1, k, f, g, a, b, c, h, hM, hk, hf, hg => by
    obtain ⟨f, rfl⟩ : ∃ w, f = w + 1 := ⟨f - 1, by omega⟩
    obtain ⟨g, rfl⟩ : ∃ w, g = w + 1 := ⟨g - 1, by omega⟩
    obtain ⟨n1, n2⟩ := FS_ne hd h
    by_cases hs : a.toInt ≤ 0 ↔ c.toInt ≤ 0
    · have hm := hM hs
      obtain ⟨a', b', c', s1, s2, s3, s4⟩ := fl_step hd (k := k) h (by omega) hs (by omega) (by omega)
      rw [s1, s2]
      exact fl_loop hd M (k + 1) f g a' b' c' s3 (fun q => by have := s4 q; omega) (by omega) (by omega) (by omega)
    · obtain ⟨e1, e2⟩ := fl_end (b := b) (x := nI k) (f := f) (g := g) hs
      exact ⟨_, e1, e2, fun q => n1 (by show a.toInt = 0; rw [show a = 0 from q]; rfl)⟩
section
variable {vd vr vc md mf mc : Int32} {fo cy : Nat → Nat → Int32} {fA fB fC nx c fs : Nat → Int32}
theorem find_both {d q : Nat} {first : Nat → Nat} (R : RV d q first fo cy fA fB fC nx c fs) (x y z : Int32) : ∃ r, P2_find (nI (FL d).length) fo x y z = some r ∧ P5_numberOf (nI (FL d).length) fA fB fC x y z = some r ∧ Fnd (FL d) (fo 0) (fo 1) (fo 2) x y z r := by
  obtain ⟨r, h1, h2⟩ := w_find (FL_small R.1) R.2.2.1 (FL_facts R.1).2.2 x y z
  obtain ⟨s, h3, h4⟩ := m_number (fA := fA) (fB := fB) (fC := fC) (FL_facts R.1).1 x y z
  have := Fnd_same (FL_small R.1) R.2.2.1 R.2.2.2.1 h2 h4
  subst this
  exact ⟨r, h1, h3, h2⟩
theorem in999 (x : Int32) : (P5_within x (-999) 999 = some 1 ∧ x.toInt.natAbs ≤ 999) ∨ P5_within x (-999) 999 = some 0 := by
  rw [m_within]
  by_cases h : -999 ≤ x ∧ x ≤ 999
  · rw [if_pos h]
    refine Or.inl ⟨rfl, ?_⟩
    have h1 := Int32.le_iff_toInt_le.mp h.1
    have h2 := Int32.le_iff_toInt_le.mp h.2
    rw [show (-999 : Int32).toInt = -999 by decide] at h1
    rw [show (999 : Int32).toInt = 999 from rfl] at h2
    omega
  · rw [if_neg h]
    exact Or.inr rfl
theorem FS_of {d : Nat} (hd : VD d) {a b c : Int32} (ha : a.toInt.natAbs ≤ 999) (hb : b.toInt.natAbs ≤ 999) (hc : c.toInt.natAbs ≤ 999) (h : (b * b) - ((4 * a) * c) = nI d) : FS d a b c := by
  have hd9 := hd.2.1
  have m1 := nab_mul hb hb
  have m2 := nab_mul ha hc
  have k4 : (4 : Int32).toInt = 4 := rfl
  have e1 : (b * b).toInt = b.toInt * b.toInt := mulI (by omega) (by omega)
  have e2 : (4 * a).toInt = 4 * a.toInt := by rw [mulI (by rw [k4]; omega) (by rw [k4]; omega), k4]
  have e4 : (4 * a.toInt) * c.toInt = 4 * (a.toInt * c.toInt) := Int.mul_assoc _ _ _
  have e3 : ((4 * a) * c).toInt = 4 * (a.toInt * c.toInt) := by rw [mulI (by rw [e2, e4]; omega) (by rw [e2, e4]; omega), e2, e4]
  have e5 := congrArg Int32.toInt h
  rw [subI (by rw [e1, e3]; omega) (by rw [e1, e3]; omega), e1, e3, nI_toInt (by omega)] at e5
  unfold FS
  omega
theorem c_flow (h : SimRiver vd vr vc fo cy md mf mc fA fB fC nx c fs) (x y z w : Int32) {u1 u2 u3 : Int32} : ∃ a b, P4_flow vd vr fo x y z w = some a ∧ P5_flow md mf fA fB fC u1 u2 u3 x y z w = some b ∧ a = b.1 := by
  unfold P4_flow P5_flow P2_exists P5_isRiver
  rcases h with ⟨rfl, rfl, rfl, rfl, rfl⟩ | ⟨d, q, first, rfl, rfl, rfl, rfl, rfl, rfl, R⟩
  · rw [if_pos (show (0 : Int32) ≤ 0 by decide), ob, if_pos rfl, ob, if_pos rfl]
    exact ⟨_, _, rfl, rfl, rfl⟩
  · have hd := R.1
    have hd5 := hd.1
    have hd9 := hd.2.1
    have hn := (FL_facts hd).1
    have hn0 := (FL_facts hd).2.2
    rw [if_neg (show ¬ nI (FL d).length ≤ 0 from nI_ge (a := 0) hn0 (by omega)), ob, if_neg (show ¬ (1 : Int32) = 0 by decide), if_neg (show ¬ nI d ≤ 0 from nI_ge (a := 0) (by omega) (by omega)), ob, if_neg (show ¬ (1 : Int32) = 0 by decide), show P4_isFlowNumber x = P5_within x (-999) 999 from rfl, show P4_isFlowNumber y = P5_within y (-999) 999 from rfl, show P4_isFlowNumber z = P5_within z (-999) 999 from rfl]
    rcases in999 x with ⟨x1, x2⟩ | x1
    · rw [x1, ob, if_neg (show ¬ (1 : Int32) = 0 by decide), ob, if_neg (show ¬ (1 : Int32) = 0 by decide)]
      rcases in999 y with ⟨y1, y2⟩ | y1
      · rw [y1, ob, if_neg (show ¬ (1 : Int32) = 0 by decide), ob, if_neg (show ¬ (1 : Int32) = 0 by decide)]
        rcases in999 z with ⟨z1, z2⟩ | z1
        · rw [z1, ob, if_neg (show ¬ (1 : Int32) = 0 by decide), ob, if_neg (show ¬ (1 : Int32) = 0 by decide)]
          unfold P4_discriminantOf P5_discOf
          rw [ob, ob]
          by_cases e : (y * y) - ((4 * x) * z) = nI d
          · rw [if_pos e, if_pos e]
            have hF := FS_of hd x2 y2 z2 e
            have ox : Ok x := by unfold Ok; omega
            have oy : Ok y := by unfold Ok; omega
            have oz : Ok z := by unfold Ok; omega
            obtain ⟨n1, n2⟩ := FS_ne hd hF
            have g1 := Nat.gcd_pos_of_pos_left (na y) (show 0 < na x by unfold na; omega)
            have g2 := Nat.gcd_le_left (na y) (show 0 < na x by unfold na; omega)
            have g3 := Nat.gcd_pos_of_pos_left (na z) g1
            have lx := ok_lt ox
            rw [w_common ox oy, ob, show max 1 (Nat.gcd (na x) (na y)) = Nat.gcd (na x) (na y) by omega, w_common (ok_nI (by omega)) oz, ob, na_nI (by omega), show max 1 (Nat.gcd (Nat.gcd (na x) (na y)) (na z)) = Nat.gcd (Nat.gcd (na x) (na y)) (na z) by omega, m_common ox oy, ob, m_common (ok_nI (by omega)) oz, ob, na_nI (by omega)]
            by_cases hg : nI (Nat.gcd (Nat.gcd (na x) (na y)) (na z)) ≤ 1
            · rw [if_pos hg, if_pos hg]
              obtain ⟨⟨ra, rb, rc, rk⟩, r1, r2, r3⟩ := fl_loop hd 1998 0 FU FU x y z hF (fun _ => by omega) (by omega) (by unfold FU; omega) (by unfold FU; omega)
              unfold P2_follow P5_flowNow
              rw [show P2_follow_12 FU x y z 0 = _ from r1, ob, show P5_flowNow_2 FU x y z 0 = _ from r2, ob]
              simp only []
              by_cases w0 : w = 0
              · rw [if_pos w0, if_pos w0]
                by_cases a0 : ra ≤ 0
                · have a1 : ¬ 0 ≤ ra := fun q => r3 (Int32.le_antisymm a0 q)
                  obtain ⟨s, s1, s2, -⟩ := find_both R rc (-rb) ra
                  rw [if_pos a0, if_neg a1, s1, s2]
                  exact ⟨_, _, rfl, rfl, rfl⟩
                · have a1 : 0 ≤ ra := Int32.le_of_lt (Int32.not_le.mp a0)
                  obtain ⟨s, s1, s2, -⟩ := find_both R ra rb rc
                  rw [if_neg a0, if_pos a1, s1, s2]
                  exact ⟨_, _, rfl, rfl, rfl⟩
              · rw [if_neg w0, if_neg w0]
                exact ⟨_, _, rfl, rfl, rfl⟩
            · rw [if_neg hg, if_neg hg]
              exact ⟨_, _, rfl, rfl, rfl⟩
          · rw [if_neg e, if_neg e]
            exact ⟨_, _, rfl, rfl, rfl⟩
        · rw [z1, ob, if_pos rfl, ob, if_pos rfl]
          exact ⟨_, _, rfl, rfl, rfl⟩
      · rw [y1, ob, if_pos rfl, ob, if_pos rfl]
        exact ⟨_, _, rfl, rfl, rfl⟩
    · rw [x1, ob, if_pos rfl, ob, if_pos rfl]
      exact ⟨_, _, rfl, rfl, rfl⟩
end
theorem sim_flow {v_roadCount v_readings v_psize v_good v_pbits v_letters v_afterLetter v_disc v_rsize v_cycleCount : Int32} {v_codes : Nat → Int32} {v_fo v_cy v_wv : Nat → Nat → Int32} {v_wn : Nat} {m_pageLength m_roads m_wordsRead m_disc m_forms m_cycles m_size m_flowA m_flowB m_flowC : Int32} {m_page m_lengths m_signs m_formA m_formB m_formC m_nextOf m_cycleOf m_firstOf : Nat → Int32} (y0 : Int32) (y1 : Int32) (y2 : Int32) (y3 : Int32) (hy3 : y3 = 0 ∨ y3 = 1) (h : SIM v_roadCount v_readings v_psize v_good v_pbits v_letters v_afterLetter v_codes v_disc v_rsize v_cycleCount v_fo v_cy v_wn v_wv m_pageLength m_page m_roads m_lengths m_signs m_wordsRead m_disc m_forms m_formA m_formB m_formC m_nextOf m_cycleOf m_cycles m_firstOf m_size) : ∃ (a : Int32) (b : Int32 × Int32 × Int32 × Int32), P4_flow v_disc v_rsize v_fo y0 y1 y2 y3 = some a ∧ P5_flow m_disc m_forms m_formA m_formB m_formC m_flowA m_flowB m_flowC y0 y1 y2 y3 = some b ∧ a = b.1 ∧ SIM v_roadCount v_readings v_psize v_good v_pbits v_letters v_afterLetter v_codes v_disc v_rsize v_cycleCount v_fo v_cy v_wn v_wv m_pageLength m_page m_roads m_lengths m_signs m_wordsRead m_disc m_forms m_formA m_formB m_formC m_nextOf m_cycleOf m_cycles m_firstOf m_size := by
  obtain ⟨a, b, h1, h2, h3⟩ := c_flow (u1 := m_flowA) (u2 := m_flowB) (u3 := m_flowC) h.2.2.1 y0 y1 y2 y3
  exact ⟨a, b, h1, h2, h3, h⟩
