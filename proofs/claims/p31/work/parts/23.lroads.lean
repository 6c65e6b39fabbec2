-- ROADS: the class' and the law's
/-- road k of the class is the law's word -/
def RW (zw : Nat → Int32) (wv : Nat → Nat → Int32) (k N : Nat) (L : Nat → Nat) : Prop := LW N L ∧ zw k = cw N L ∧ WR wv k N L
def RS (zw : Nat → Int32) (rc : Int32) (wn : Nat) (wv : Nat → Nat → Int32) (n : Nat) : Prop := n ≤ 6 ∧ n ≤ wn ∧ rc = nI n ∧ ∀ k, k < n → ∃ N L, RW zw wv k N L
theorem sb0_r {α β : Type} (o : β) (f : β → Option α) : sb0 (some (Sum.inr o)) f = f o := rfl
theorem sb1_r {α β γ : Type} (o : β) (f : β → Option (α ⊕ γ)) : sb1 (some (Sum.inr o)) f = f o := rfl
theorem b2_t : b2 true = 1 := rfl
theorem b2_f : b2 false = 0 := rfl
section
variable {zw : Nat → Int32} {rc x y : Int32} {wn n k k2 N M : Nat} {wv : Nat → Nat → Int32} {L T : Nat → Nat}
theorem s_at (h : RS zw rc wn wv n) (hk : k < n) : P4_roadAt rc wn (nI k) = some (some k) := by
  obtain ⟨n6, nw, rfl, -⟩ := h
  unfold P4_roadAt
  rw [if_neg (n_neg (show k < 2 ^ 31 by omega)), if_neg (nI_ge hk (by omega)), if_neg (show ¬ (6 : Int32) ≤ nI k from nI_ge (b := 6) (by omega) (by omega)), if_pos (n_in (by omega) (by omega)), n_cl (by omega), if_pos (by omega)]
theorem s_no (h : RS zw rc wn wv n) : P4_roadAt rc wn (nI n) = some none := by
  obtain ⟨n6, nw, rfl, -⟩ := h
  unfold P4_roadAt
  rw [if_neg (n_neg (show n < 2 ^ 31 by omega)), if_pos (nI_le (Nat.le_refl n) (by omega))]
theorem s_m1 : P4_roadAt rc wn (-1) = some none := by
  unfold P4_roadAt
  rw [if_pos (by decide)]
theorem s_any (h : RS zw rc wn wv n) : ∃ o, P4_roadAt rc wn 0 = some o := by
  by_cases q : n = 0
  · subst q
    exact ⟨_, s_no h⟩
  · exact ⟨_, s_at h (k := 0) (by omega)⟩
theorem s_road0 (ha : P4_roadAt rc wn x = some (some k)) (hR : RW zw wv k N L) : P4_road rc wn wv x 0 = some (nI N) := by
  obtain ⟨hL, -, w0, w1, w2, w3, w4, w5, w6⟩ := hR
  unfold P4_road
  rw [ha, ob]
  simp only []
  rw [if_pos (by decide), w1]
theorem s_road1 (ha : P4_roadAt rc wn x = some (some k)) (hR : RW zw wv k N L) : P4_road rc wn wv x 1 = some (nI N - nI (N - zc L N)) := by
  obtain ⟨hL, -, w0, w1, w2, w3, w4, w5, w6⟩ := hR
  unfold P4_road
  rw [ha, ob]
  simp only []
  rw [if_neg (by decide), if_pos (by decide), w1, w0, bitCount hL]
theorem s_road2 (ha : P4_roadAt rc wn x = some (some k)) (hR : RW zw wv k N L) : P4_road rc wn wv x 2 = some (nI (N - zc L N)) := by
  obtain ⟨hL, -, w0, w1, w2, w3, w4, w5, w6⟩ := hR
  unfold P4_road
  rw [ha, ob]
  simp only []
  rw [if_neg (by decide), if_neg (by decide), if_pos (by decide), w0, bitCount hL]
theorem s_road3 (ha : P4_roadAt rc wn x = some (some k)) (hR : RW zw wv k N L) : P4_road rc wn wv x 3 = some (nI (fnd (eqr N L L) 1 (N - 1))) := by
  obtain ⟨hL, -, w0, w1, w2, w3, w4, w5, w6⟩ := hR
  unfold P4_road
  rw [ha, ob]
  simp only []
  rw [if_neg (by decide), if_neg (by decide), if_neg (by decide), if_pos (by decide), w0, w1, w2, w_period hL]
  rfl
theorem s_road4 (ha : P4_roadAt rc wn x = some (some k)) (hR : RW zw wv k N L) : P4_road rc wn wv x 4 = some (nI (lst N L)) := by
  obtain ⟨hL, -, w0, w1, w2, w3, w4, w5, w6⟩ := hR
  unfold P4_road
  rw [ha, ob]
  simp only []
  rw [if_neg (by decide), if_neg (by decide), if_neg (by decide), if_neg (by decide), if_pos (by decide), w0, w1, w2, w_leastTurn hL]
  rfl
theorem s_road5 (ha : P4_roadAt rc wn x = some (some k)) (hR : RW zw wv k N L) : P4_road rc wn wv x 5 = some ((mt L N).1 + (mt L N).2.2.2) := by
  obtain ⟨hL, -, w0, w1, w2, w3, w4, w5, w6⟩ := hR
  unfold P4_road
  rw [ha, ob]
  simp only []
  rw [if_neg (by decide), if_neg (by decide), if_neg (by decide), if_neg (by decide), if_neg (by decide), if_pos (by decide), w3, w6]
  rfl
theorem s_road6 (ha : P4_roadAt rc wn x = some (some k)) (hR : RW zw wv k N L) : P4_road rc wn wv x 6 = some (b2 (clo N L)) := by
  obtain ⟨hL, -, w0, w1, w2, w3, w4, w5, w6⟩ := hR
  unfold P4_road
  rw [ha, ob]
  simp only []
  rw [if_neg (by decide), if_neg (by decide), if_neg (by decide), if_neg (by decide), if_neg (by decide), if_neg (by decide), if_pos (by decide), w0, w2, w_isClosed hL, ob]
  cases clo N L <;> rfl
theorem s_road7 (ha : P4_roadAt rc wn x = some (some k)) (hR : RW zw wv k N L) : P4_road rc wn wv x 7 = some (b2 (conj N L (rev N L))) := by
  obtain ⟨hL, -, w0, w1, w2, w3, w4, w5, w6⟩ := hR
  unfold P4_road
  rw [ha, ob]
  simp only []
  rw [if_neg (by decide), if_neg (by decide), if_neg (by decide), if_neg (by decide), if_neg (by decide), if_neg (by decide), if_neg (by decide), if_pos (by decide), w0, w1, w2, w_reversal hL, ob, w_isConjugate hL (rev_LW hL), ob]
  cases conj N L (rev N L) <;> rfl
theorem s_road8 (ha : P4_roadAt rc wn x = some (some k)) (hR : RW zw wv k N L) : P4_road rc wn wv x 8 = some (b2 (conj N L (cpl L))) := by
  obtain ⟨hL, -, w0, w1, w2, w3, w4, w5, w6⟩ := hR
  unfold P4_road
  rw [ha, ob]
  simp only []
  rw [if_neg (by decide), if_neg (by decide), if_neg (by decide), if_neg (by decide), if_neg (by decide), if_neg (by decide), if_neg (by decide), if_neg (by decide), if_pos (by decide), w0, w1, w2, w_complement hL, ob, w_isConjugate hL (cpl_LW hL), ob]
  cases conj N L (cpl L) <;> rfl
theorem s_road9 (ha : P4_roadAt rc wn x = some (some k)) (hR : RW zw wv k N L) : P4_road rc wn wv x 9 = some (b2 (conj N L (cpl (rev N L)))) := by
  obtain ⟨hL, -, w0, w1, w2, w3, w4, w5, w6⟩ := hR
  unfold P4_road
  rw [ha, ob]
  simp only []
  rw [if_neg (by decide), if_neg (by decide), if_neg (by decide), if_neg (by decide), if_neg (by decide), if_neg (by decide), if_neg (by decide), if_neg (by decide), if_neg (by decide), if_pos (by decide), w0, w1, w2, w_reversal hL, ob, w_complement (rev_LW hL), ob, w_isConjugate hL (cpl_LW (rev_LW hL)), ob]
  cases conj N L (cpl (rev N L)) <;> rfl
theorem s_road10 (ha : P4_roadAt rc wn x = some (some k)) : P4_road rc wn wv x 10 = some (-2000000102) := by
  unfold P4_road
  rw [ha, ob]
  simp only []
  rw [if_neg (by decide), if_neg (by decide), if_neg (by decide), if_neg (by decide), if_neg (by decide), if_neg (by decide), if_neg (by decide), if_neg (by decide), if_neg (by decide), if_neg (by decide)]
theorem s_sign {i : Nat} (ha : P4_roadAt rc wn x = some (some k)) (hR : RW zw wv k N L) (hi : i < N) : P4_sign rc wn wv x (nI i) = some (if L i = 1 then 82 else 76) := by
  obtain ⟨hL, -, w0, w1, w2, w3, w4, w5, w6⟩ := hR
  have h2 := hL.2.1
  have hl := hL.2.2 i hi
  unfold P4_sign
  rw [ha, ob]
  simp only []
  rw [if_neg (n_neg (by omega)), w1, if_pos (nI_lt hi (by omega)), w0, w_bitAt hL hi, ob]
  rcases (show L i = 0 ∨ L i = 1 by omega) with q | q
  · rw [q]
    rfl
  · rw [q]
    rfl
theorem s_signN (ha : P4_roadAt rc wn x = some (some k)) (hR : RW zw wv k N L) : P4_sign rc wn wv x (nI N) = some (-2000000101) := by
  obtain ⟨hL, -, w0, w1, w2, w3, w4, w5, w6⟩ := hR
  have h2 := hL.2.1
  unfold P4_sign
  rw [ha, ob]
  simp only []
  rw [if_neg (n_neg (by omega)), w1, if_neg (fun q => by have := (nI_ltI (by omega) (by omega)).mp q; omega)]
theorem s_signm (ha : P4_roadAt rc wn x = some (some k)) : P4_sign rc wn wv x (-1) = some (-2000000101) := by
  unfold P4_sign
  rw [ha, ob]
  simp only []
  rw [if_pos (by decide)]
theorem s_table {i : Nat} {t : Nat → Int32} (ha : P4_roadAt rc wn x = some (some k)) (hR : RW zw wv k N L) (ht : TB t (mt L N)) (hi : i < 4) : P4_table rc wn wv x (nI i) = some (t i) := by
  obtain ⟨hL, -, w0, w1, w2, w3, w4, w5, w6⟩ := hR
  obtain ⟨t0, t1, t2, t3⟩ := ht
  unfold P4_table
  rw [ha, ob]
  simp only []
  rcases (show i = 0 ∨ i = 1 ∨ i = 2 ∨ i = 3 by omega) with rfl | rfl | rfl | rfl
  · rw [if_pos (by decide), w3, t0]
  · rw [if_neg (by decide), if_pos (by decide), w4, t1]
  · rw [if_neg (by decide), if_neg (by decide), if_pos (by decide), w5, t2]
  · rw [if_neg (by decide), if_neg (by decide), if_neg (by decide), if_pos (by decide), w6, t3]
theorem s_table4 (ha : P4_roadAt rc wn x = some (some k)) : P4_table rc wn wv x 4 = some (-2000000102) := by
  unfold P4_table
  rw [ha, ob]
  simp only []
  rw [if_neg (by decide), if_neg (by decide), if_neg (by decide), if_neg (by decide)]
theorem s_end0 (ha : P4_roadAt rc wn x = some (some k)) (hR : RW zw wv k N L) : P4_end rc wn wv x 0 = some ((mt L N).1 + (mt L N).2.1) := by
  obtain ⟨hL, -, w0, w1, w2, w3, w4, w5, w6⟩ := hR
  unfold P4_end
  rw [ha, ob]
  simp only []
  rw [if_pos (by decide), w3, w4]
theorem s_end1 (ha : P4_roadAt rc wn x = some (some k)) (hR : RW zw wv k N L) : P4_end rc wn wv x 1 = some ((mt L N).2.2.1 + (mt L N).2.2.2) := by
  obtain ⟨hL, -, w0, w1, w2, w3, w4, w5, w6⟩ := hR
  unfold P4_end
  rw [ha, ob]
  simp only []
  rw [if_neg (by decide), if_pos (by decide), w5, w6]
theorem s_end2 (ha : P4_roadAt rc wn x = some (some k)) : P4_end rc wn wv x 2 = some (-2000000102) := by
  unfold P4_end
  rw [ha, ob]
  simp only []
  rw [if_neg (by decide), if_neg (by decide)]
theorem s_form5 (ha : P4_roadAt rc wn x = some (some k)) : P4_form rc wn wv x 5 = some (-2000000102) := by
  unfold P4_form
  rw [ha, ob]
  simp only []
  rw [if_neg (by decide), if_neg (by decide)]
theorem s_formS (ha : P4_roadAt rc wn x = some (some k)) (hR : RW zw wv k N L) (hc : clo N L = false) : P4_form rc wn wv x 0 = some (-2000000103) := by
  obtain ⟨hL, -, w0, w1, w2, w3, w4, w5, w6⟩ := hR
  unfold P4_form
  rw [ha, ob]
  simp only []
  rw [if_neg (by decide), if_pos (by decide), w0, w2, w_isClosed hL, ob, hc, if_pos (by decide)]
theorem s_form (ha : P4_roadAt rc wn x = some (some k)) (hR : RW zw wv k N L) (hc : clo N L = true) (h0 : ¬ y < 0) (h5 : y < 5) : P4_form rc wn wv x y = some (frm N L y) := by
  obtain ⟨hL, -, w0, w1, w2, w3, w4, w5, w6⟩ := hR
  unfold P4_form
  rw [ha, ob]
  simp only []
  rw [if_neg h0, if_pos h5, w0, w2, w_isClosed hL, ob, hc, if_neg (by decide), w3, w4, w5, w6, w_form hL hc]
  rfl
theorem s_alike (ha : P4_roadAt rc wn x = some (some k)) (hR : RW zw wv k N L) (hb : P4_roadAt rc wn y = some (some k2)) (hS : RW zw wv k2 M T) : P4_alike rc wn wv x y = some (tell N L M T) := by
  obtain ⟨hL, -, w0, w1, w2, w3, w4, w5, w6⟩ := hR
  obtain ⟨hT, -, v0, v1, v2, v3, v4, v5, v6⟩ := hS
  have h2 := hL.2.1
  have h4 := hT.2.1
  unfold P4_alike tell
  rw [ha, ob]
  simp only []
  rw [hb, ob]
  simp only []
  rw [w0, w1, w2, v0, v1]
  by_cases q : N = M
  · subst q
    rw [if_pos rfl, show (0 : Int32) = nI 0 from rfl, w_turnTo hL hT (Nat.zero_le _), ob, Nat.sub_zero]
    by_cases r : fnd (eqr N L T) 0 N < N
    · rw [if_pos r, if_pos ⟨rfl, r⟩]
    · rw [if_neg r, if_neg (fun w => r w.2)]
  · rw [if_neg (fun w => q ((nI_eq (by omega) (by omega)).mp w)), if_neg (fun w => q w.1)]
theorem s_cross (ha : P4_roadAt rc wn x = some (some k)) (hR : RW zw wv k N L) (hb : P4_roadAt rc wn y = some (some k2)) (hS : RW zw wv k2 M T) : P4_cross rc wn wv x y = some (if clo N L = true ∧ clo M T = true then nI (crs L T N M) else -2000000103) := by
  obtain ⟨hL, -, w0, w1, w2, w3, w4, w5, w6⟩ := hR
  obtain ⟨hT, -, v0, v1, v2, v3, v4, v5, v6⟩ := hS
  unfold P4_cross
  rw [ha, ob]
  simp only []
  rw [hb, ob]
  simp only []
  rw [w0, w1, w2, v0, v1, v2, w_isClosed hL, ob]
  by_cases c : clo N L = true
  · rw [if_pos c, if_neg (by decide), w_isClosed hT, ob]
    by_cases d : clo M T = true
    · rw [if_pos d, if_neg (by decide), w_crossings hL hT, ob, if_pos ⟨c, d⟩]
    · rw [if_neg d, if_pos rfl, if_neg (fun q => d q.2)]
  · rw [if_neg c, if_pos rfl, if_neg (fun q => c q.1)]
-- no road there
theorem u_road (ha : P4_roadAt rc wn x = some none) : P4_road rc wn wv x y = some (-2000000101) := by
  unfold P4_road
  rw [ha, ob]
theorem u_sign (ha : P4_roadAt rc wn x = some none) : P4_sign rc wn wv x y = some (-2000000101) := by
  unfold P4_sign
  rw [ha, ob]
theorem u_table (ha : P4_roadAt rc wn x = some none) : P4_table rc wn wv x y = some (-2000000101) := by
  unfold P4_table
  rw [ha, ob]
theorem u_form (ha : P4_roadAt rc wn x = some none) : P4_form rc wn wv x y = some (-2000000101) := by
  unfold P4_form
  rw [ha, ob]
theorem u_end (ha : P4_roadAt rc wn x = some none) : P4_end rc wn wv x y = some (-2000000101) := by
  unfold P4_end
  rw [ha, ob]
theorem u_alike {o : Option Nat} (ha : P4_roadAt rc wn x = some none) (hb : P4_roadAt rc wn y = some o) : P4_alike rc wn wv x y = some (-2000000101) := by
  unfold P4_alike
  rw [ha, ob]
  simp only []
  rw [hb, ob]
  cases o <;> rfl
theorem u_cross {o : Option Nat} (ha : P4_roadAt rc wn x = some o) (hb : P4_roadAt rc wn y = some none) : P4_cross rc wn wv x y = some (-2000000101) := by
  unfold P4_cross
  rw [ha, ob]
  cases o with
  | none =>
    simp only []
    rw [hb, ob]
  | some j =>
    simp only []
    rw [hb, ob]
end
-- THE FORM'S NUMBERS
theorem lgc_self (x : Int64) : lg_cmp x x = 0 := by
  unfold lg_cmp
  simp
theorem e64 {n : Nat} (h : n < 2 ^ 31) : Int32.toInt64 (nI n) = lI n := by
  apply Int64.toInt_inj.mp
  rw [Int32.toInt_toInt64, nI_toInt h]
  unfold lI
  rw [Int64.toInt_ofNat_of_lt (by omega)]
theorem l_mul (a b : Nat) : lI a * lI b = lI (a * b) := (Int64.ofNat_mul a b).symm
theorem l_add (a b : Nat) : lI a + lI b = lI (a + b) := (Int64.ofNat_add a b).symm
theorem l_sub {a b : Nat} (h : b ≤ a) : lI a - lI b = lI (a - b) := (Int64.ofNat_sub a b h).symm
theorem neg_div {x g : Nat} (hx : x < 2 ^ 30) (hg : 0 < g) (hg2 : g < 2 ^ 30) : (-(nI x)) / nI g = -(nI (x / g)) := by
  apply Int32.toInt_inj.mp
  have h1 := Nat.div_le_self x g
  rw [Int32.toInt_div, neg_toInt (ok_nI (by omega)), neg_toInt (ok_nI (by omega)), nI_toInt (by omega), nI_toInt (by omega), nI_toInt (by omega), Int.neg_tdiv, ← Int.ofNat_tdiv]
  generalize x / g = z at h1 ⊢
  exact Int.bmod_eq_of_le (by omega) (by omega)
theorem sub_div {d a g : Nat} (hd : d < 2 ^ 30) (ha : a < 2 ^ 30) (hg : 0 < g) (hg2 : g < 2 ^ 30) : ((nI d - nI a) / nI g) * ((nI d - nI a) / nI g) = nI (((d - a) + (a - d)) / g * (((d - a) + (a - d)) / g)) := by
  by_cases h : a ≤ d
  · rw [n_sub h, show d - a + (a - d) = d - a by omega]
    rw [pk_div (by omega) hg (by omega), pk_mul]
  · have e : nI d - nI a = -(nI (a - d)) := by
      rw [← n_sub (show d ≤ a by omega)]
      grind
    rw [e, neg_div (by omega) hg hg2, show d - a + (a - d) = a - d by omega, ← pk_mul]
    grind
theorem na_diff {d a : Nat} (hd : d < 2 ^ 30) (ha : a < 2 ^ 30) : na (nI d - nI a) = (d - a) + (a - d) := by
  unfold na
  rw [pk_sub_toInt hd ha]
  omega
theorem form_facts {N : Nat} {L : Nat → Nat} (h : LW N L) (hc : clo N L = true) : ¬ (mt L N).2.2.1 / grd N L ≤ 0 ∧ ¬ 0 ≤ (-(mt L N).2.1) / grd N L ∧ lg_cmp ((Int32.toInt64 ((mt L N).1 + (mt L N).2.2.2) * Int32.toInt64 ((mt L N).1 + (mt L N).2.2.2)) - 4) ((Int32.toInt64 (grd N L) * Int32.toInt64 (grd N L)) * Int32.toInt64 (((((mt L N).2.2.2 - (mt L N).1) / grd N L) * (((mt L N).2.2.2 - (mt L N).1) / grd N L)) - ((4 * ((mt L N).2.2.1 / grd N L)) * ((-(mt L N).2.1) / grd N L)))) = 0 := by
  have hz := (clo_iff h).mp hc
  have c1 := mtN_c h.2.2 hz.1
  have b1 := mtN_b hz.2 h.2.2
  have hs := mt_small h
  have hl := mtN_le L N
  have hd := mtN_det L N
  unfold grd
  rw [mt_q4]
  generalize mtN L N = m at *
  obtain ⟨a, b, c, d⟩ := m
  simp only [q4] at *
  rw [na_nI (show c < 2 ^ 31 by omega), na_nI (show b < 2 ^ 31 by omega), na_diff (by omega) (by omega)]
  generalize hg : Nat.gcd (Nat.gcd c (d - a + (a - d))) b = g
  have g1 : g ∣ c := by
    rw [← hg]
    exact Nat.dvd_trans (Nat.gcd_dvd_left _ _) (Nat.gcd_dvd_left _ _)
  have g2 : g ∣ (d - a + (a - d)) := by
    rw [← hg]
    exact Nat.dvd_trans (Nat.gcd_dvd_left _ _) (Nat.gcd_dvd_right _ _)
  have g3 : g ∣ b := by
    rw [← hg]
    exact Nat.gcd_dvd_right _ _
  have gp : 0 < g := Nat.pos_of_dvd_of_pos g1 (by omega)
  have gl : g ≤ c := Nat.le_of_dvd (by omega) g1
  obtain ⟨p, hp⟩ := g1
  obtain ⟨x, hx⟩ := g2
  obtain ⟨r, hr⟩ := g3
  have ep : c / g = p := by rw [hp, Nat.mul_div_cancel_left p gp]
  have ex : (d - a + (a - d)) / g = x := by rw [hx, Nat.mul_div_cancel_left x gp]
  have er : b / g = r := by rw [hr, Nat.mul_div_cancel_left r gp]
  have p1 : 0 < p := by
    rcases Nat.eq_zero_or_pos p with q | q
    · rw [q, Nat.mul_zero] at hp
      omega
    · exact q
  have r1 : 0 < r := by
    rcases Nat.eq_zero_or_pos r with q | q
    · rw [q, Nat.mul_zero] at hr
      omega
    · exact q
  have pl : p ≤ c := by rw [← ep]; exact Nat.div_le_self c g
  have rl : r ≤ b := by rw [← er]; exact Nat.div_le_self b g
  rw [pk_div (by omega) gp (by omega), neg_div (by omega) gp (by omega), ep, er]
  refine ⟨nI_nle p1 (by omega), fun q => ?_, ?_⟩
  · have q1 := Int32.le_iff_toInt_le.mp q
    rw [neg_toInt (ok_nI (by omega)), nI_toInt (by omega), show (0 : Int32).toInt = 0 from rfl] at q1
    omega
  · rw [sub_div (by omega) (by omega) gp (by omega), ex]
    have e1 : nI (x * x) - (4 * nI p) * (-(nI r)) = nI (x * x + 4 * p * r) := by
      rw [← nI_add, ← pk_mul (4 * p) r, ← pk_mul 4 p, show (4 : Int32) = nI 4 from rfl]
      grind
    have key : g * g * (x * x + 4 * p * r) + 4 = (a + d) * (a + d) := by
      have k1 : g * g * (x * x + 4 * p * r) = (g * x) * (g * x) + 4 * ((g * p) * (g * r)) := by grind
      rw [k1, ← hx, ← hp, ← hr]
      have k2 : 4 * (c * b) + 4 = 4 * (a * d) := by rw [hd, Nat.mul_comm c b]; omega
      rcases Nat.le_total a d with q | q
      · obtain ⟨z, rfl⟩ : ∃ z, d = a + z := ⟨d - a, by omega⟩
        rw [show a + z - a + (a - (a + z)) = z by omega]
        grind
      · obtain ⟨z, rfl⟩ : ∃ z, a = d + z := ⟨a - d, by omega⟩
        rw [show d - (d + z) + (d + z - d) = z by omega]
        grind
    have big : (a + d) * (a + d) ≤ 21892 * 21892 := Nat.mul_le_mul (by omega) (by omega)
    have small : x * x + 4 * p * r ≤ g * g * (x * x + 4 * p * r) := Nat.le_mul_of_pos_left _ (Nat.mul_pos gp gp)
    rw [e1, nI_add, e64 (by omega), e64 (by omega), e64 (by omega), l_mul, l_mul, l_mul, show (4 : Int64) = lI 4 from rfl, l_sub (by omega), show (a + d) * (a + d) - 4 = g * g * (x * x + 4 * p * r) by omega]
    exact lgc_self _
