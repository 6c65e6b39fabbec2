-- LEAST TURNS, and words that are turns of one another
theorem ltn_min {N : Nat} {L : Nat → Nat} : ∀ (j b k : Nat), b < k → (∀ i, i < k → bv (rot N b L) N ≤ bv (rot N i L) N) → (∀ i, i < b → bv (rot N b L) N < bv (rot N i L) N) → (∀ i, i < k + j → bv (rot N (ltn N L j b k) L) N ≤ bv (rot N i L) N) ∧ (∀ i, i < ltn N L j b k → bv (rot N (ltn N L j b k) L) N < bv (rot N i L) N)
  | 0, b, k, _, h1, h2 => ⟨h1, h2⟩
  | j + 1, b, k, hb, h1, h2 => by
    rw [ltn]
    by_cases c : bv (rot N k L) N < bv (rot N b L) N
    · rw [if_pos c]
      have h := ltn_min (N := N) (L := L) j k (k + 1) (by omega) (fun i hi => by
        by_cases q : i = k
        · rw [q]
          exact Nat.le_refl _
        · have := h1 i (by omega)
          omega) (fun i hi => by
        have := h1 i hi
        omega)
      rw [show k + 1 + j = k + (j + 1) by omega] at h
      exact h
    · rw [if_neg c]
      have h := ltn_min (N := N) (L := L) j b (k + 1) (by omega) (fun i hi => by
        by_cases q : i = k
        · rw [q]
          omega
        · exact h1 i (by omega)) h2
      rw [show k + 1 + j = k + (j + 1) by omega] at h
      exact h
theorem lst_min {N : Nat} {L : Nat → Nat} (h : LW N L) : (∀ i, i < N → bv (rot N (lst N L) L) N ≤ bv (rot N i L) N) ∧ (∀ i, i < lst N L → bv (rot N (lst N L) L) N < bv (rot N i L) N) := by
  have h1 := h.1
  have := ltn_min (N := N) (L := L) (N - 1) 0 1 (by omega) (fun i hi => by rw [show i = 0 by omega]; exact Nat.le_refl _) (fun i hi => by omega)
  rw [show 1 + (N - 1) = N by omega] at this
  exact this
theorem cw_iff {N : Nat} {A B : Nat → Nat} (hA : LW N A) (hB : LW N B) : cw N A = cw N B ↔ bv A N = bv B N := by
  have h2 := hA.2.1
  constructor
  · intro q
    exact bv_congr (cw_inj (by omega) (by omega) hA.2.2 hB.2.2 q).2
  · intro q
    exact cw_congr (bv_inj hA.2.2 hB.2.2 q)
theorem cw_ne {N M : Nat} {A B : Nat → Nat} (hA : LW N A) (hB : LW M B) (h : ¬ N = M) : ¬ cw N A = cw M B := fun q => h (cw_inj (by have := hA.2.1; omega) (by have := hB.2.1; omega) hA.2.2 hB.2.2 q).1
theorem q_place_loop {N : Nat} {L : Nat → Nat} (h : LW N L) : ∀ (j k n : Nat), k + j = lst N L → j < n → P_road_9 (cw N L) n (nI k) = some (nI (lst N L))
  | 0, k, n, hk, hn => by
    obtain ⟨n, rfl⟩ : ∃ z, n = z + 1 := ⟨n - 1, by omega⟩
    have h2 := h.2.1
    have hl := lst_lt (L := L) h.1
    rw [P_road_9, q_turned h (by omega), ob, q_least h, ob, show k = lst N L by omega, if_pos rfl]
  | j + 1, k, n, hk, hn => by
    obtain ⟨n, rfl⟩ : ∃ z, n = z + 1 := ⟨n - 1, by omega⟩
    have h2 := h.2.1
    have hl := lst_lt (L := L) h.1
    have hm := (lst_min h).2 k (by omega)
    rw [P_road_9, q_turned h (by omega), ob, q_least h, ob, if_neg (fun q => by have := (cw_iff (rot_LW h) (rot_LW h)).mp q; omega), nI_1]
    exact q_place_loop h j (k + 1) n (by omega) (by omega)
theorem q_place {N : Nat} {L : Nat → Nat} (h : LW N L) : P_road_9 (cw N L) FU 0 = some (nI (lst N L)) := by
  have h2 := h.2.1
  have hl := lst_lt (L := L) h.1
  exact q_place_loop h (lst N L) 0 FU (by omega) (by unfold FU; omega)
theorem q_period_loop {N : Nat} {L : Nat → Nat} (h : LW N L) : ∀ (j k n : Nat), k + j = N → j < n → P_period_2 (cw N L) n (nI k) = some (nI (fnd (eqr N L L) k j))
  | 0, k, n, hk, hn => by
    obtain ⟨n, rfl⟩ : ∃ z, n = z + 1 := ⟨n - 1, by omega⟩
    have h2 := h.2.1
    have e : cw N (rot N k L) = cw N L := cw_congr (fun i hi => by
      unfold rot
      rw [show k = N by omega, Nat.add_mod_left, Nat.mod_eq_of_lt hi])
    rw [P_period_2, q_turned h (by omega), ob, if_pos e, fnd]
  | j + 1, k, n, hk, hn => by
    obtain ⟨n, rfl⟩ : ∃ z, n = z + 1 := ⟨n - 1, by omega⟩
    have h2 := h.2.1
    rw [P_period_2, q_turned h (by omega), ob, nI_1, fnd]
    by_cases he : bv (rot N k L) N = bv L N
    · rw [if_pos ((cw_iff (rot_LW h) h).mpr he), if_pos (by simp [eqr, he])]
    · rw [if_neg (fun q => he ((cw_iff (rot_LW h) h).mp q)), if_neg (by simp [eqr, he])]
      exact q_period_loop h j (k + 1) n (by omega) (by omega)
theorem q_period {N : Nat} {L : Nat → Nat} (h : LW N L) : P_period (cw N L) = some (nI (fnd (eqr N L L) 1 (N - 1))) := by
  have h1 := h.1
  have h2 := h.2.1
  unfold P_period
  rw [show P_period_2 (cw N L) FU 1 = _ from q_period_loop h (N - 1) 1 FU (by omega) (by unfold FU; omega)]
  rfl
theorem fnd_iff (p : Nat → Bool) : ∀ (j k : Nat), fnd p k j < k + j ↔ ∃ i, k ≤ i ∧ i < k + j ∧ p i = true
  | 0, k => by
    rw [fnd]
    exact ⟨fun q => by omega, fun ⟨i, a, b, _⟩ => by omega⟩
  | j + 1, k => by
    rw [fnd]
    by_cases q : p k = true
    · rw [if_pos q]
      exact ⟨fun _ => ⟨k, Nat.le_refl k, by omega, q⟩, fun _ => by omega⟩
    · rw [if_neg q, show k + (j + 1) = k + 1 + j by omega, fnd_iff p j (k + 1)]
      constructor
      · intro ⟨i, a, b, c⟩
        exact ⟨i, by omega, b, c⟩
      · intro ⟨i, a, b, c⟩
        refine ⟨i, ?_, b, c⟩
        rcases Nat.lt_or_ge k i with r | r
        · omega
        · rw [show i = k by omega] at c
          exact absurd c q
theorem conj_iff {N : Nat} {L T : Nat → Nat} : conj N L T = true ↔ ∃ k, k < N ∧ bv (rot N k L) N = bv T N := by
  have h := fnd_iff (eqr N L T) N 0
  rw [Nat.zero_add] at h
  unfold conj
  rw [decide_eq_true_iff, h]
  constructor
  · intro ⟨i, _, b, c⟩
    exact ⟨i, b, of_decide_eq_true c⟩
  · intro ⟨i, b, c⟩
    exact ⟨i, Nat.zero_le i, b, decide_eq_true c⟩
theorem rot_of {N k : Nat} {L T : Nat → Nat} (h : LW N L) (hT : LW N T) (e : bv (rot N k L) N = bv T N) (i : Nat) : bv (rot N i T) N = bv (rot N ((k + i) % N) L) N := by
  have el := bv_inj (rot_lt h) hT.2.2 e
  refine bv_congr (fun x hx => ?_)
  have hm := Nat.mod_lt (i + x) h.1
  show T ((i + x) % N) = L (((k + i) % N + x) % N)
  rw [← el _ hm]
  show L ((k + (i + x) % N) % N) = _
  rw [Nat.add_mod_mod, Nat.mod_add_mod, Nat.add_assoc]
theorem alk_conj {N : Nat} {L T : Nat → Nat} (h : LW N L) (hT : LW N T) : alk N L N T = conj N L T := by
  have h1 := h.1
  obtain ⟨mL, -⟩ := lst_min h
  obtain ⟨mT, -⟩ := lst_min hT
  have lL := lst_lt (L := L) h.1
  have lT := lst_lt (L := T) h.1
  rw [Bool.eq_iff_iff, conj_iff]
  unfold alk
  rw [decide_eq_true_iff]
  constructor
  · intro ⟨_, e⟩
    have e1 := bv_inj (rot_lt h) (rot_lt hT) e
    refine ⟨(lst N L + (N - lst N T)) % N, Nat.mod_lt _ h1, bv_congr (fun x hx => ?_)⟩
    have hm := Nat.mod_lt (N - lst N T + x) h1
    have e2 := e1 _ hm
    have e3 : rot N (lst N L) L ((N - lst N T + x) % N) = L (((lst N L + (N - lst N T)) % N + x) % N) := by
      show L ((lst N L + (N - lst N T + x) % N) % N) = _
      rw [Nat.add_mod_mod, Nat.mod_add_mod, Nat.add_assoc]
    have e4 : rot N (lst N T) T ((N - lst N T + x) % N) = T x := by
      show T ((lst N T + (N - lst N T + x) % N) % N) = _
      rw [Nat.add_mod_mod, show lst N T + (N - lst N T + x) = x + N by omega, Nat.add_mod_right, Nat.mod_eq_of_lt hx]
    rw [e3, e4] at e2
    exact e2
  · intro ⟨k, hk, e⟩
    refine ⟨rfl, ?_⟩
    have a1 := mL _ (Nat.mod_lt (k + lst N T) h1)
    rw [← rot_of h hT e] at a1
    have a2 := mT _ (Nat.mod_lt (lst N L + (N - k)) h1)
    rw [rot_of h hT e ((lst N L + (N - k)) % N), Nat.add_mod_mod, show k + (lst N L + (N - k)) = lst N L + N by omega, Nat.add_mod_right, Nat.mod_eq_of_lt lL] at a2
    omega
theorem alk_sym {N M : Nat} {L T : Nat → Nat} : alk N L M T = alk M T N L := by
  unfold alk
  rw [Bool.eq_iff_iff, decide_eq_true_iff, decide_eq_true_iff]
  exact ⟨fun q => ⟨q.1.symm, q.2.symm⟩, fun q => ⟨q.1.symm, q.2.symm⟩⟩
/-- the turn that the class tells -/
def tell (N : Nat) (L : Nat → Nat) (M : Nat) (T : Nat → Nat) : Int32 := if N = M ∧ fnd (eqr N L T) 0 N < N then nI (fnd (eqr N L T) 0 N) else (-2000000001)
theorem tell_alk {N M : Nat} {L T : Nat → Nat} (h : LW N L) (hT : LW M T) : (alk N L M T = true ↔ ¬ tell N L M T < 0) ∧ (tell N L M T = (-2000000001) ∨ ∃ t, t < 20 ∧ tell N L M T = nI t) := by
  have h2 := h.2.1
  unfold tell
  by_cases c : N = M
  · subst c
    rw [alk_conj h hT]
    unfold conj
    by_cases d : fnd (eqr N L T) 0 N < N
    · rw [if_pos ⟨rfl, d⟩, decide_eq_true d]
      exact ⟨⟨fun _ => n_neg (by omega), fun _ => rfl⟩, Or.inr ⟨_, by omega, rfl⟩⟩
    · rw [if_neg (fun q => d q.2), decide_eq_false d]
      exact ⟨⟨fun q => (by cases q), fun q => absurd (by decide) q⟩, Or.inl rfl⟩
  · rw [if_neg (fun q => c q.1)]
    have : alk N L M T = false := by
      unfold alk
      rw [decide_eq_false (fun q => c q.1)]
    rw [this]
    exact ⟨⟨fun q => (by cases q), fun q => absurd (by decide) q⟩, Or.inl rfl⟩
-- THE TABLE'S NUMBERS
theorem mtN_det (L : Nat → Nat) : ∀ n : Nat, (mtN L n).1 * (mtN L n).2.2.2 = (mtN L n).2.1 * (mtN L n).2.2.1 + 1
  | 0 => rfl
  | n + 1 => by
    have ih := mtN_det L n
    rw [mtN]
    generalize mtN L n = m at ih
    obtain ⟨a, b, c, d⟩ := m
    by_cases h : L n = 1
    · rw [if_pos h]
      simp only at ih ⊢
      rw [Nat.mul_add, Nat.add_mul]
      omega
    · rw [if_neg h]
      simp only at ih ⊢
      rw [Nat.add_mul, Nat.mul_add]
      omega
/-- no table is larger -/
def gf : Nat → Nat × Nat
  | 0 => (1, 1)
  | n + 1 => ((gf n).2, (gf n).2 + (gf n).1)
theorem mtN_gf (L : Nat → Nat) : ∀ n : Nat, ((mtN L n).1 ≤ (gf n).1 ∧ (mtN L n).2.1 ≤ (gf n).1 ∧ (mtN L n).1 + (mtN L n).2.1 ≤ (gf n).2) ∧ ((mtN L n).2.2.1 ≤ (gf n).1 ∧ (mtN L n).2.2.2 ≤ (gf n).1 ∧ (mtN L n).2.2.1 + (mtN L n).2.2.2 ≤ (gf n).2)
  | 0 => by simp [mtN, gf]
  | n + 1 => by
    have ih := mtN_gf L n
    rw [mtN, gf]
    by_cases h : L n = 1
    · rw [if_pos h]
      simp only
      omega
    · rw [if_neg h]
      simp only
      omega
theorem gf_mono : ∀ (j n : Nat), (gf n).1 ≤ (gf (n + j)).1 ∧ (gf n).2 ≤ (gf (n + j)).2
  | 0, n => ⟨Nat.le_refl _, Nat.le_refl _⟩
  | j + 1, n => by
    obtain ⟨h1, h2⟩ := gf_mono j n
    have h3 : ∀ k, (gf k).1 ≤ (gf k).2 := fun k => by
      cases k with
      | zero => exact Nat.le_refl 1
      | succ k =>
        rw [gf]
        exact Nat.le_add_right _ _
    have h4 := h3 (n + j)
    rw [← Nat.add_assoc, gf]
    simp only
    omega
theorem gf20 : gf 20 = (10946, 17711) := by decide +kernel
theorem mt_small {N : Nat} {L : Nat → Nat} (h : LW N L) : (mtN L N).1 ≤ 10946 ∧ (mtN L N).2.1 ≤ 10946 ∧ (mtN L N).2.2.1 ≤ 10946 ∧ (mtN L N).2.2.2 ≤ 10946 := by
  have h1 := mtN_gf L N
  have h2 := gf_mono (20 - N) N
  rw [show N + (20 - N) = 20 by have := h.2.1; omega, gf20] at h2
  omega
theorem mtN_b {L : Nat → Nat} : ∀ {n : Nat}, zc L n < n → (∀ i, i < n → L i < 2) → 1 ≤ (mtN L n).2.1
  | 0, h, _ => by omega
  | n + 1, h, hL => by
    have h2 := hL n (by omega)
    have h3 := mtN_le L n
    rw [mtN]
    by_cases h1 : L n = 1
    · rw [if_pos h1]
      simp only
      omega
    · rw [if_neg h1]
      rw [zc, if_pos (by omega)] at h
      have := mtN_b (L := L) (n := n) (by omega) (fun i hi => hL i (by omega))
      simp only
      omega
theorem end_gcd (L : Nat → Nat) (n : Nat) : Nat.gcd ((mtN L n).1 + (mtN L n).2.1) ((mtN L n).2.2.1 + (mtN L n).2.2.2) = 1 := by
  have h := mtN_det L n
  generalize mtN L n = m at h
  obtain ⟨a, b, c, d⟩ := m
  simp only at h ⊢
  have e : (a + b) * d = b * (c + d) + 1 := by
    rw [Nat.add_mul, Nat.mul_add]
    omega
  have d1 : Nat.gcd (a + b) (c + d) ∣ (a + b) * d := Nat.dvd_trans (Nat.gcd_dvd_left _ _) (Nat.dvd_mul_right _ _)
  have d2 : Nat.gcd (a + b) (c + d) ∣ b * (c + d) := Nat.dvd_trans (Nat.gcd_dvd_right _ _) (Nat.dvd_mul_left _ _)
  rw [e] at d1
  exact Nat.dvd_one.mp ((Nat.dvd_add_right d2).mp d1)
