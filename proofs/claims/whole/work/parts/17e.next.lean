-- THE NEXT FORM, THE REVERSED, THE OPPOSITE: they are in the list too
theorem df_abs (k : Nat) : df k = ((k : Int) - 30).natAbs := by
  unfold df
  by_cases h : k < 30
  · rw [show Nat.blt k 30 = true from Nat.ble_eq.mpr h]
    show 30 - k = _
    omega
  · rw [show Nat.blt k 30 = false from Bool.eq_false_iff.mpr (fun q => h (Nat.ble_eq.mp q))]
    show k - 30 = _
    omega
theorem df_sq (k : Nat) : ((df k * df k : Nat) : Int) = ((k : Int) - 30) * ((k : Int) - 30) := by
  rw [df_abs, Int.natAbs_mul_self]
theorem gcd_one {a k c : Nat} : Nat.gcd (Nat.gcd a (df k)) c = 1 ↔ ∀ g : Nat, (g : Int) ∣ (a : Int) → (g : Int) ∣ (k : Int) - 30 → (g : Int) ∣ (c : Int) → g = 1 := by
  constructor
  · intro h g h1 h2 h3
    have e1 : g ∣ a := Int.natCast_dvd_natCast.mp h1
    have e2 : g ∣ df k := by
      rw [df_abs]
      exact Int.ofNat_dvd_left.mp h2
    have e3 : g ∣ c := Int.natCast_dvd_natCast.mp h3
    have := Nat.dvd_gcd (Nat.dvd_gcd e1 e2) e3
    rw [h] at this
    exact Nat.dvd_one.mp this
  · intro h
    apply h
    · exact Int.natCast_dvd_natCast.mpr (Nat.dvd_trans (Nat.gcd_dvd_left _ _) (Nat.gcd_dvd_left _ _))
    · have := Nat.dvd_trans (Nat.gcd_dvd_left (Nat.gcd a (df k)) c) (Nat.gcd_dvd_right a (df k))
      rw [df_abs k] at this
      rw [df_abs k]
      exact Int.ofNat_dvd_left.mpr this
    · exact Int.natCast_dvd_natCast.mpr (Nat.gcd_dvd_right _ _)
theorem sq_ge {z : Int} (h : z ≤ -31 ∨ 31 ≤ z) : 961 ≤ z * z := by
  rcases h with h | h
  · have : (31 : Int) * 31 ≤ (-z) * (-z) := Int.mul_le_mul (by omega) (by omega) (by omega) (by omega)
    rw [Int.neg_mul_neg] at this
    exact this
  · exact Int.mul_le_mul (a := 31) (b := 31) h h (by omega) (by omega)
/-- a discriminant that has rivers -/
def VD (d : Nat) : Prop := 5 ≤ d ∧ d ≤ 900 ∧ d % 4 ≤ 1 ∧ ∀ r, r ≤ 30 → ¬ r * r = d
theorem okF_int {d : Nat} {x : Nat × Nat × Nat} (h : okF d x) : ((x.1 : Int) - 30) * ((x.1 : Int) - 30) + 4 * ((x.2.1 : Int) * (x.2.2 : Int)) = (d : Int) := by
  have e := h.2.2.2.1
  rw [← df_sq]
  exact_mod_cast e
theorem okF_of {d k a c : Nat} (hd : d ≤ 900) (ha : 1 ≤ a) (hc : 1 ≤ c) (e : ((k : Int) - 30) * ((k : Int) - 30) + 4 * ((a : Int) * (c : Int)) = (d : Int)) (g : Nat.gcd (Nat.gcd a (df k)) c = 1) : okF d (k, a, c) := by
  have hp : (1 : Int) ≤ (a : Int) * (c : Int) := Int.mul_le_mul (a := 1) (b := 1) (by omega) (by omega) (by omega) (by omega)
  refine ⟨?_, ha, hc, ?_, g⟩
  · show k ≤ 60
    rcases Nat.lt_or_ge 60 k with q | q
    · have := sq_ge (z := (k : Int) - 30) (Or.inr (by omega))
      omega
    · exact q
  · show df k * df k + 4 * (a * c) = d
    rw [← df_sq] at e
    exact_mod_cast e
theorem nxt_L {k a c : Nat} (h : c + 30 < a + k) : nxt (k, a, c) = (k - 2 * c, a + k - 30 - c, c) := by
  unfold nxt
  rw [show Nat.blt ((k, a, c).2.2 + 30) ((k, a, c).2.1 + (k, a, c).1) = true from Nat.ble_eq.mpr h]
  rfl
theorem nxt_R {k a c : Nat} (h : ¬ c + 30 < a + k) : nxt (k, a, c) = (k + 2 * a, a, c + 30 - a - k) := by
  unfold nxt
  rw [show Nat.blt ((k, a, c).2.2 + 30) ((k, a, c).2.1 + (k, a, c).1) = false from Bool.eq_false_iff.mpr (fun q => h (Nat.ble_eq.mp q))]
  rfl
theorem dvd_lin {g x y z : Int} (u v : Int) (h1 : g ∣ x) (h2 : g ∣ y) (e : z = u * x + v * y) : g ∣ z := by
  rw [e]
  exact Int.dvd_add (Int.dvd_mul_of_dvd_right h1) (Int.dvd_mul_of_dvd_right h2)
/-- what the step to the next form does, in whole numbers -/
theorem nxt_L_int {d k a c : Nat} (hd : d ≤ 900) (h : okF d (k, a, c)) (hl : c + 30 < a + k) : 2 * c ≤ k := by
  have e := okF_int h
  simp only at e
  rcases Nat.lt_or_ge k (2 * c) with q | q
  · exfalso
    have s := sq_ge (z := (k : Int) - 30 - 2 * c) (Or.inl (by omega))
    have e2 : ((k : Int) - 30 - 2 * c) * ((k : Int) - 30 - 2 * c) + 4 * (((a : Int) + k - 30 - c) * c) = d := by rw [← e]; grind
    have p : (0 : Int) ≤ ((a : Int) + k - 30 - c) * c := Int.mul_nonneg (by omega) (by omega)
    omega
  · exact q
theorem nxt_R_int {d k a c : Nat} (hd : VD d) (h : okF d (k, a, c)) (hl : ¬ c + 30 < a + k) : a + k < c + 30 := by
  have e := okF_int h
  simp only at e
  rcases Nat.lt_or_ge (a + k) (c + 30) with q | q
  · exact q
  · exfalso
    have hk : (k : Int) - 30 = c - a := by omega
    rw [hk] at e
    have e2 : ((a + c) * (a + c) : Int) = d := by rw [← e]; grind
    have e3 : (a + c) * (a + c) = d := by exact_mod_cast e2
    rcases Nat.lt_or_ge 30 (a + c) with q2 | q2
    · have := Nat.mul_le_mul (show 31 ≤ a + c by omega) (show 31 ≤ a + c by omega)
      have := hd.2.1
      omega
    · exact hd.2.2.2 _ q2 e3
theorem ok_nxt {d : Nat} (hd : VD d) {x : Nat × Nat × Nat} (h : okF d x) : okF d (nxt x) := by
  obtain ⟨k, a, c⟩ := x
  have e := okF_int h
  have hg := gcd_one.mp h.2.2.2.2
  have ha := h.2.1
  have hc := h.2.2.1
  simp only at e hg ha hc
  by_cases hl : c + 30 < a + k
  · have hk := nxt_L_int hd.2.1 h hl
    rw [nxt_L hl]
    refine okF_of hd.2.1 (by omega) hc ?_ (gcd_one.mpr (fun g h1 h2 h3 => ?_))
    · rw [← e, show ((k - 2 * c : Nat) : Int) = k - 2 * c by omega, show ((a + k - 30 - c : Nat) : Int) = a + k - 30 - c by omega]
      grind
    · rw [show ((k - 2 * c : Nat) : Int) = k - 2 * c by omega] at h2
      rw [show ((a + k - 30 - c : Nat) : Int) = a + k - 30 - c by omega] at h1
      have b1 : (g : Int) ∣ (k : Int) - 30 := dvd_lin 1 2 h2 h3 (by omega)
      have b2 : (g : Int) ∣ (a : Int) - c := dvd_lin 1 (-1) h1 b1 (by omega)
      exact hg g (dvd_lin 1 1 b2 h3 (by omega)) b1 h3
  · have hk := nxt_R_int hd h hl
    rw [nxt_R hl]
    refine okF_of hd.2.1 ha (by omega) ?_ (gcd_one.mpr (fun g h1 h2 h3 => ?_))
    · rw [← e, show ((k + 2 * a : Nat) : Int) = k + 2 * a by omega, show ((c + 30 - a - k : Nat) : Int) = c + 30 - a - k by omega]
      grind
    · rw [show ((k + 2 * a : Nat) : Int) = k + 2 * a by omega] at h2
      rw [show ((c + 30 - a - k : Nat) : Int) = c + 30 - a - k by omega] at h3
      have b1 : (g : Int) ∣ (k : Int) - 30 := dvd_lin 1 (-2) h2 h1 (by omega)
      have b2 : (g : Int) ∣ (c : Int) - a := dvd_lin 1 1 h3 b1 (by omega)
      exact hg g h1 b1 (dvd_lin 1 1 b2 h1 (by omega))
theorem nxt_inj {d : Nat} (hd : VD d) {x y : Nat × Nat × Nat} (hx : okF d x) (hy : okF d y) (h : nxt x = nxt y) : x = y := by
  obtain ⟨k, a, c⟩ := x
  obtain ⟨k', a', c'⟩ := y
  have h1 := hx.2.1
  have h2 := hy.2.1
  have h3 := hx.2.2.1
  have h4 := hy.2.2.1
  simp only at h1 h2 h3 h4
  by_cases hl : c + 30 < a + k
  · have hk := nxt_L_int hd.2.1 hx hl
    rw [nxt_L hl] at h
    by_cases hl' : c' + 30 < a' + k'
    · have hk' := nxt_L_int hd.2.1 hy hl'
      rw [nxt_L hl'] at h
      simp only [Prod.mk.injEq] at h ⊢
      omega
    · have hk' := nxt_R_int hd hy hl'
      rw [nxt_R hl'] at h
      simp only [Prod.mk.injEq] at h ⊢
      omega
  · have hk := nxt_R_int hd hx hl
    rw [nxt_R hl] at h
    by_cases hl' : c' + 30 < a' + k'
    · have hk' := nxt_L_int hd.2.1 hy hl'
      rw [nxt_L hl'] at h
      simp only [Prod.mk.injEq] at h ⊢
      omega
    · have hk' := nxt_R_int hd hy hl'
      rw [nxt_R hl'] at h
      simp only [Prod.mk.injEq] at h ⊢
      omega
/-- the same form, read from behind -/
def rvF (x : Nat × Nat × Nat) : Nat × Nat × Nat := (60 - x.1, x.2.1, x.2.2)
def opF (x : Nat × Nat × Nat) : Nat × Nat × Nat := (60 - x.1, x.2.2, x.2.1)
theorem ok_rv {d : Nat} {x : Nat × Nat × Nat} (h : okF d x) (hd : d ≤ 900) : okF d (rvF x) := by
  obtain ⟨k, a, c⟩ := x
  have e := okF_int h
  have hg := gcd_one.mp h.2.2.2.2
  have hk := h.1
  simp only at e hg hk
  refine okF_of hd h.2.1 h.2.2.1 ?_ (gcd_one.mpr (fun g h1 h2 h3 => ?_))
  · rw [← e, show ((60 - k : Nat) : Int) = 60 - k by omega]
    grind
  · simp only at h1 h2 h3
    rw [show ((60 - k : Nat) : Int) = 60 - k by omega] at h2
    exact hg g h1 (dvd_lin (-1) 0 h2 h1 (by omega)) h3
theorem ok_op {d : Nat} {x : Nat × Nat × Nat} (h : okF d x) (hd : d ≤ 900) : okF d (opF x) := by
  obtain ⟨k, a, c⟩ := x
  have e := okF_int h
  have hg := gcd_one.mp h.2.2.2.2
  have hk := h.1
  simp only at e hg hk
  refine okF_of hd h.2.2.1 h.2.1 ?_ (gcd_one.mpr (fun g h1 h2 h3 => ?_))
  · rw [← e, show ((60 - k : Nat) : Int) = 60 - k by omega]
    grind
  · simp only at h1 h2 h3
    rw [show ((60 - k : Nat) : Int) = 60 - k by omega] at h2
    exact hg g h3 (dvd_lin (-1) 0 h2 h1 (by omega)) h1
theorem ok_first {d : Nat} (hd : VD d) : ∃ x, okF d x := by
  obtain ⟨h1, h2, h3, h4⟩ := hd
  refine ⟨(30 + d % 4, 1, (d - d % 4) / 4), okF_of h2 (by omega) (by omega) ?_ ?_⟩
  · have e := Nat.mod_add_div d 4
    rcases (show d % 4 = 0 ∨ d % 4 = 1 by omega) with q | q
    · rw [q]
      omega
    · rw [q]
      omega
  · rw [Nat.gcd_comm 1, Nat.gcd_one_right, Nat.gcd_comm 1, Nat.gcd_one_right]
