-- THE PURE SIDE: Euclid's way, and the form of a word
theorem eucl4 : ∀ (t n k a b : Nat), b < 2 ^ t → a < 2 ^ 31 → b < 2 ^ 31 → k + 2 * t ≤ 99 → 2 * t + 1 ≤ n → P4_commonDivisor_13 n (nI a) (nI b) (nI k) = some (nI (Nat.gcd a b))
  | 0, n, k, a, b, hb, ha, hb2, hk, hn => by
    obtain ⟨n, rfl⟩ : ∃ z, n = z + 1 := ⟨n - 1, by omega⟩
    have h0 : b = 0 := by simpa using hb
    subst h0
    rw [P4_commonDivisor_13, if_neg (show ¬ (100 : Int32) ≤ nI k from nI_ge (b := 100) (by omega) (by omega)), if_pos (show nI 0 ≤ (0 : Int32) by decide), Nat.gcd_zero_right]
  | t + 1, n, k, a, b, hb, ha, hb2, hk, hn => by
    obtain ⟨n, rfl⟩ : ∃ z, n = z + 2 := ⟨n - 2, by omega⟩
    rw [P4_commonDivisor_13, if_neg (show ¬ (100 : Int32) ≤ nI k from nI_ge (b := 100) (by omega) (by omega))]
    by_cases h0 : b = 0
    · subst h0
      rw [if_pos (show nI 0 ≤ (0 : Int32) by decide), Nat.gcd_zero_right]
    · have hm := Nat.mod_lt a (show 0 < b by omega)
      rw [if_neg (show ¬ nI b ≤ (0 : Int32) from nI_ge (b := b) (a := 0) (by omega) (by omega)), if_pos (nI_ne0 (by omega) (by omega)), n_rem ha (by omega) hb2, nI_1, P4_commonDivisor_13, if_neg (show ¬ (100 : Int32) ≤ nI (k + 1) from nI_ge (b := 100) (by omega) (by omega))]
      by_cases h1 : a % b = 0
      · rw [h1, if_pos (show nI 0 ≤ (0 : Int32) by decide), Nat.gcd_comm a b, Nat.gcd_rec b a, h1, Nat.gcd_zero_left]
      · have hm2 := Nat.mod_lt b (show 0 < a % b by omega)
        have hh : b % (a % b) < 2 ^ t := by
          have e := Nat.div_add_mod b (a % b)
          have q : 1 ≤ b / (a % b) := (Nat.one_le_div_iff (by omega)).mpr (by omega)
          have q2 : a % b ≤ (a % b) * (b / (a % b)) := Nat.le_mul_of_pos_right _ q
          have q3 : 2 ^ (t + 1) = 2 ^ t * 2 := Nat.pow_succ 2 t
          omega
        rw [if_neg (show ¬ nI (a % b) ≤ (0 : Int32) from nI_ge (b := a % b) (a := 0) (by omega) (by omega)), if_pos (nI_ne0 (by omega) (by omega)), n_rem hb2 (by omega) (by omega), nI_1, eucl4 t n (k + 1 + 1) (a % b) (b % (a % b)) hh (by omega) (by omega) (by omega) (by omega)]
        congr 2
        rw [Nat.gcd_comm a b, Nat.gcd_rec b a, Nat.gcd_rec (a % b) b, Nat.gcd_comm]
theorem eucl5 : ∀ (t n a b : Nat), b < 2 ^ t → a < 2 ^ 31 → b < 2 ^ 31 → 2 * t + 1 ≤ n → P5_common_10 n (nI a) (nI b) = some (nI (Nat.gcd a b))
  | 0, n, a, b, hb, ha, hb2, hn => by
    obtain ⟨n, rfl⟩ : ∃ z, n = z + 1 := ⟨n - 1, by omega⟩
    have h0 : b = 0 := by simpa using hb
    subst h0
    rw [P5_common_10, if_pos (show nI 0 = (0 : Int32) by decide), Nat.gcd_zero_right]
  | t + 1, n, a, b, hb, ha, hb2, hn => by
    obtain ⟨n, rfl⟩ : ∃ z, n = z + 2 := ⟨n - 2, by omega⟩
    rw [P5_common_10]
    by_cases h0 : b = 0
    · subst h0
      rw [if_pos (show nI 0 = (0 : Int32) by decide), Nat.gcd_zero_right]
    · have hm := Nat.mod_lt a (show 0 < b by omega)
      rw [if_neg (nI_ne0 (by omega) (by omega)), if_pos (nI_ne0 (by omega) (by omega)), n_rem ha (by omega) hb2, P5_common_10]
      by_cases h1 : a % b = 0
      · rw [h1, if_pos (show nI 0 = (0 : Int32) by decide), Nat.gcd_comm a b, Nat.gcd_rec b a, h1, Nat.gcd_zero_left]
      · have hm2 := Nat.mod_lt b (show 0 < a % b by omega)
        have hh : b % (a % b) < 2 ^ t := by
          have e := Nat.div_add_mod b (a % b)
          have q : 1 ≤ b / (a % b) := (Nat.one_le_div_iff (by omega)).mpr (by omega)
          have q2 : a % b ≤ (a % b) * (b / (a % b)) := Nat.le_mul_of_pos_right _ q
          have q3 : 2 ^ (t + 1) = 2 ^ t * 2 := Nat.pow_succ 2 t
          omega
        rw [if_neg (nI_ne0 (by omega) (by omega)), if_pos (nI_ne0 (by omega) (by omega)), n_rem hb2 (by omega) (by omega), eucl5 t n (a % b) (b % (a % b)) hh (by omega) (by omega) (by omega)]
        congr 2
        rw [Nat.gcd_comm a b, Nat.gcd_rec b a, Nat.gcd_rec (a % b) b, Nat.gcd_comm]
/-- the size of a number that is not the least one -/
def na (x : Int32) : Nat := x.toInt.natAbs
def Ok (x : Int32) : Prop := -2147483648 < x.toInt
theorem ok_lt {x : Int32} (h : Ok x) : na x < 2 ^ 31 := by
  have h1 := x.toInt_lt
  unfold Ok at h
  unfold na
  omega
theorem neg_toInt {x : Int32} (h : Ok x) : (-x).toInt = -x.toInt := by
  have h1 := x.toInt_lt
  unfold Ok at h
  rw [Int32.toInt_neg, Int.bmod_eq_of_le (by omega) (by omega)]
theorem na_abs {x : Int32} (h : Ok x) : (if 0 ≤ x then x else -x) = nI (na x) := by
  apply Int32.toInt_inj.mp
  have hl := ok_lt h
  rw [nI_toInt hl]
  unfold na
  by_cases h0 : (0 : Int32) ≤ x
  · rw [if_pos h0]
    have := Int32.le_iff_toInt_le.mp h0
    rw [show (0 : Int32).toInt = 0 from rfl] at this
    omega
  · rw [if_neg h0, neg_toInt h]
    have := Int32.lt_iff_toInt_lt.mp (Int32.not_le.mp h0)
    rw [show (0 : Int32).toInt = 0 from rfl] at this
    omega
theorem jabs_na {x : Int32} (h : Ok x) : jabs x = nI (na x) := by
  rw [← na_abs h]
  unfold jabs
  rw [show (0 : Int32) - x = -x by grind]
theorem m_abs {x : Int32} (h : Ok x) : P5_abs x = some (nI (na x)) := by
  rw [← na_abs h]
  unfold P5_abs
  split <;> rfl
theorem jmax_1 {g : Nat} (h : g < 2 ^ 31) : jmax 1 (nI g) = nI (max 1 g) := by
  unfold jmax
  by_cases h0 : 1 < g
  · rw [if_pos (show (1 : Int32) < nI g from nI_lt (a := 1) (by omega) (by omega)), show max 1 g = g by omega]
  · rw [if_neg (show ¬ (1 : Int32) < nI g from (fun q => h0 ((nI_ltI (a := 1) (by omega) h).mp q))), show max 1 g = 1 by omega]
    rfl
theorem gcd_31 {a b : Nat} (ha : a < 2 ^ 31) (hb : b < 2 ^ 31) : Nat.gcd a b < 2 ^ 31 := by
  by_cases h : a = 0
  · subst h
    rw [Nat.gcd_zero_left]
    exact hb
  · exact Nat.lt_of_le_of_lt (Nat.gcd_le_left b (by omega)) ha
theorem w_common {x y : Int32} (hx : Ok x) (hy : Ok y) : P4_commonDivisor x y = some (nI (max 1 (Nat.gcd (na x) (na y)))) := by
  have h1 := ok_lt hx
  have h2 := ok_lt hy
  unfold P4_commonDivisor
  rw [jabs_na hx, jabs_na hy, show (0 : Int32) = nI 0 from rfl, eucl4 31 FU 0 _ _ h2 h1 h2 (by omega) (by unfold FU; omega), ob, jmax_1 (gcd_31 h1 h2)]
theorem m_common {x y : Int32} (hx : Ok x) (hy : Ok y) : P5_common x y = some (nI (Nat.gcd (na x) (na y))) := by
  have h1 := ok_lt hx
  have h2 := ok_lt hy
  unfold P5_common
  rw [m_abs hx, ob, m_abs hy, ob, eucl5 31 FU _ _ h2 h1 h2 (by unfold FU; omega)]
  rfl
theorem ok_nI {a : Nat} (h : a < 2 ^ 31) : Ok (nI a) := by
  unfold Ok
  rw [nI_toInt h]
  omega
theorem na_nI {a : Nat} (h : a < 2 ^ 31) : na (nI a) = a := by
  unfold na
  rw [nI_toInt h]
  omega
-- the matrix in numbers
def mtN (L : Nat → Nat) : Nat → Nat × Nat × Nat × Nat
  | 0 => (1, 0, 0, 1)
  | n + 1 => if L n = 1 then ((mtN L n).1, (mtN L n).2.1 + (mtN L n).1, (mtN L n).2.2.1, (mtN L n).2.2.2 + (mtN L n).2.2.1) else ((mtN L n).1 + (mtN L n).2.1, (mtN L n).2.1, (mtN L n).2.2.1 + (mtN L n).2.2.2, (mtN L n).2.2.2)
def q4 (x : Nat × Nat × Nat × Nat) : Int32 × Int32 × Int32 × Int32 := (nI x.1, nI x.2.1, nI x.2.2.1, nI x.2.2.2)
theorem mt_q4 (L : Nat → Nat) : ∀ n : Nat, mt L n = q4 (mtN L n)
  | 0 => rfl
  | n + 1 => by
    rw [mt, mtN, mt_q4 L n]
    by_cases h : L n = 1
    · rw [if_pos h, if_pos h]
      simp only [q4, nI_add]
    · rw [if_neg h, if_neg h]
      simp only [q4, nI_add]
theorem mtN_le (L : Nat → Nat) : ∀ n : Nat, (mtN L n).1 + (mtN L n).2.1 ≤ 2 ^ n ∧ (mtN L n).2.2.1 + (mtN L n).2.2.2 ≤ 2 ^ n ∧ 1 ≤ (mtN L n).1 ∧ 1 ≤ (mtN L n).2.2.2
  | 0 => by simp [mtN]
  | n + 1 => by
    have h := mtN_le L n
    rw [mtN, Nat.pow_succ]
    by_cases h1 : L n = 1
    · rw [if_pos h1]
      simp only
      omega
    · rw [if_neg h1]
      simp only
      omega
theorem mtN_c {L : Nat → Nat} : ∀ {n : Nat}, (∀ i, i < n → L i < 2) → 0 < zc L n → 1 ≤ (mtN L n).2.2.1
  | 0, _, h => by simp [zc] at h
  | n + 1, hL, h => by
    have h2 := hL n (by omega)
    have h3 := mtN_le L n
    rw [mtN]
    by_cases h1 : L n = 1
    · have := mtN_c (L := L) (n := n) (fun i hi => hL i (by omega)) (by rw [zc] at h; rw [if_neg (by omega)] at h; omega)
      rw [if_pos h1]
      simp only
      omega
    · rw [if_neg h1]
      simp only
      omega
theorem mt20 {N : Nat} {L : Nat → Nat} (h : LW N L) : (mtN L N).1 ≤ 1048576 ∧ (mtN L N).2.1 ≤ 1048576 ∧ (mtN L N).2.2.1 ≤ 1048576 ∧ (mtN L N).2.2.2 ≤ 1048576 := by
  have h1 := mtN_le L N
  have h2 := tp20 h.2.1
  omega
theorem ok_diff {a b : Nat} (ha : a ≤ 1048576) (hb : b ≤ 1048576) : Ok (nI a - nI b) := by
  unfold Ok
  rw [pk_sub_toInt (by omega) (by omega)]
  omega
/-- the grade of a word's form -/
def grd (N : Nat) (L : Nat → Nat) : Int32 := nI (Nat.gcd (Nat.gcd (na (mt L N).2.2.1) (na ((mt L N).2.2.2 - (mt L N).1))) (na (mt L N).2.1))
theorem grd_facts {N : Nat} {L : Nat → Nat} (h : LW N L) (hc : clo N L = true) : (∃ g : Nat, 1 ≤ g ∧ g < 2 ^ 31 ∧ Nat.gcd (na (mt L N).2.2.1) (na ((mt L N).2.2.2 - (mt L N).1)) = g) ∧ ¬ grd N L = 0 ∧ Ok (mt L N).2.2.1 ∧ Ok ((mt L N).2.2.2 - (mt L N).1) ∧ Ok (mt L N).2.1 := by
  have h1 := mtN_c h.2.2 ((clo_iff h).mp hc).1
  have h2 := mt20 h
  have o1 : Ok (mt L N).2.2.1 := by rw [mt_q4]; exact ok_nI (by omega)
  have o2 : Ok ((mt L N).2.2.2 - (mt L N).1) := by rw [mt_q4]; exact ok_diff h2.2.2.2 h2.1
  have o3 : Ok (mt L N).2.1 := by rw [mt_q4]; exact ok_nI (by omega)
  have e1 : na (mt L N).2.2.1 = (mtN L N).2.2.1 := by rw [mt_q4]; exact na_nI (by omega)
  have p1 : 1 ≤ Nat.gcd (na (mt L N).2.2.1) (na ((mt L N).2.2.2 - (mt L N).1)) := Nat.gcd_pos_of_pos_left _ (by omega)
  have l1 := gcd_31 (ok_lt o1) (ok_lt o2)
  refine ⟨⟨_, p1, l1, rfl⟩, ?_, o1, o2, o3⟩
  have p2 := Nat.gcd_pos_of_pos_left (na (mt L N).2.1) p1
  unfold grd
  exact nI_ne0 (by omega) (gcd_31 l1 (ok_lt o3))
/-- the number of a word's form -/
def frm (N : Nat) (L : Nat → Nat) (x : Int32) : Int32 := if x = 0 then (mt L N).2.2.1 / grd N L else if x = 1 then ((mt L N).2.2.2 - (mt L N).1) / grd N L else if x = 2 then (-(mt L N).2.1) / grd N L else if x = 3 then grd N L else ((((mt L N).2.2.2 - (mt L N).1) / grd N L) * (((mt L N).2.2.2 - (mt L N).1) / grd N L)) - ((4 * ((mt L N).2.2.1 / grd N L)) * ((-(mt L N).2.1) / grd N L))
theorem w_form {N : Nat} {L : Nat → Nat} (h : LW N L) (hc : clo N L = true) (x : Int32) : P3_formNumber (mt L N).1 (mt L N).2.1 (mt L N).2.2.1 (mt L N).2.2.2 x = some (frm N L x) := by
  obtain ⟨⟨g, g1, g2, hg⟩, h0, o1, o2, o3⟩ := grd_facts h hc
  have e : nI (max 1 (Nat.gcd g (na (mt L N).2.1))) = grd N L := by
    have := Nat.gcd_pos_of_pos_left (na (mt L N).2.1) g1
    unfold grd
    rw [hg, show max 1 (Nat.gcd g (na (mt L N).2.1)) = Nat.gcd g (na (mt L N).2.1) by omega]
  unfold P3_formNumber
  rw [w_common o1 o2, ob, hg, show max 1 g = g by omega, w_common (ok_nI g2) o3, ob, na_nI g2, e, if_pos h0, if_pos h0, if_pos h0]
  unfold frm P4_discriminantOf
  split
  · rfl
  · split
    · rfl
    · split
      · rfl
      · split <;> rfl
theorem m_layForm {lengths signs at_ : Nat → Int32} {N r : Nat} {L : Nat → Nat} (h : LW N L) (hc : clo N L = true) (hr : r < 6) (hl : lengths r = nI N) (hs : ∀ i, i < N → signs (20 * r + i) = nI (L i)) : ∃ o, P5_layForm lengths signs at_ (nI r) = some (nI N, o, (mt L N).1, (mt L N).2.1, (mt L N).2.2.1, (mt L N).2.2.2, frm N L 0, frm N L 1, frm N L 2, frm N L 3) ∧ AO o N L := by
  obtain ⟨⟨g, g1, g2, hg⟩, h0, o1, o2, o3⟩ := grd_facts h hc
  obtain ⟨o, ho, hA⟩ := m_look (at_ := at_) h.2.1 hr hl hs
  have e : nI (Nat.gcd g (na (mt L N).2.1)) = grd N L := by
    unfold grd
    rw [hg]
  refine ⟨o, ?_, hA⟩
  unfold P5_layForm
  rw [ho, ob]
  show Option.bind (P5_layTable (nI N) o) _ = _
  rw [m_layTable h hA, ob, m_common o1 o2, ob, hg, m_common (ok_nI g2) o3, ob, na_nI g2, e, if_pos h0, if_pos h0, if_pos h0]
  rfl
theorem m_formNow {lengths signs at_ : Nat → Int32} {N r : Nat} {L : Nat → Nat} (h : LW N L) (hc : clo N L = true) (hr : r < 6) (hl : lengths r = nI N) (hs : ∀ i, i < N → signs (20 * r + i) = nI (L i)) (x : Int32) : ∃ o, P5_formNow lengths signs at_ (nI r) x = some (frm N L x, nI N, o, (mt L N).1, (mt L N).2.1, (mt L N).2.2.1, (mt L N).2.2.2, frm N L 0, frm N L 1, frm N L 2, frm N L 3) ∧ AO o N L := by
  obtain ⟨o, ho, hA⟩ := m_layForm (at_ := at_) h hc hr hl hs
  refine ⟨o, ?_, hA⟩
  unfold P5_formNow
  rw [ho, ob]
  by_cases x0 : x = 0
  · rw [if_pos x0, x0]
  · rw [if_neg x0]
    by_cases x1 : x = 1
    · rw [if_pos x1, x1]
    · rw [if_neg x1]
      by_cases x2 : x = 2
      · rw [if_pos x2, x2]
      · rw [if_neg x2]
        by_cases x3 : x = 3
        · rw [if_pos x3, x3]
        · rw [if_neg x3]
          have ex : frm N L x = ((((mt L N).2.2.2 - (mt L N).1) / grd N L) * (((mt L N).2.2.2 - (mt L N).1) / grd N L)) - ((4 * ((mt L N).2.2.1 / grd N L)) * ((-(mt L N).2.1) / grd N L)) := by
            unfold frm
            rw [if_neg x0, if_neg x1, if_neg x2, if_neg x3]
          rw [ex]
          rfl
