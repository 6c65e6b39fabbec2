-- WHICH FORMS ARE IN THE LIST, AND IN WHICH ORDER
def okF (d : Nat) (x : Nat × Nat × Nat) : Prop := x.1 ≤ 60 ∧ 1 ≤ x.2.1 ∧ 1 ≤ x.2.2 ∧ df x.1 * df x.1 + 4 * (x.2.1 * x.2.2) = d ∧ Nat.gcd (Nat.gcd x.2.1 (df x.1)) x.2.2 = 1
def ltF (x y : Nat × Nat × Nat) : Prop := x.1 < y.1 ∨ (x.1 = y.1 ∧ x.2.1 < y.2.1)
theorem mem_rowL {k p : Nat} {x : Nat × Nat × Nat} : ∀ (j a : Nat), x ∈ rowL k p a j ↔ ∃ a', a ≤ a' ∧ a' < a + j ∧ p % a' = 0 ∧ Nat.gcd (Nat.gcd a' (df k)) (p / a') = 1 ∧ x = (k, a', p / a')
  | 0, a => by
    rw [rowL_0]
    exact ⟨fun h => (by cases h), fun ⟨a', h1, h2, _⟩ => by omega⟩
  | j + 1, a => by
    rw [rowL_s]
    by_cases h : p % a = 0 ∧ Nat.gcd (Nat.gcd a (df k)) (p / a) = 1
    · rw [if_pos h, List.mem_cons, mem_rowL j (a + 1)]
      constructor
      · rintro (q | ⟨a', h1, h2, h3⟩)
        · exact ⟨a, Nat.le_refl a, by omega, h.1, h.2, q⟩
        · exact ⟨a', by omega, by omega, h3⟩
      · rintro ⟨a', h1, h2, h3, h4, h5⟩
        by_cases q : a' = a
        · subst q
          exact Or.inl h5
        · exact Or.inr ⟨a', by omega, by omega, h3, h4, h5⟩
    · rw [if_neg h, mem_rowL j (a + 1)]
      constructor
      · rintro ⟨a', h1, h2, h3⟩
        exact ⟨a', by omega, by omega, h3⟩
      · rintro ⟨a', h1, h2, h3, h4, h5⟩
        by_cases q : a' = a
        · subst q
          exact absurd ⟨h3, h4⟩ h
        · exact ⟨a', by omega, by omega, h3, h4, h5⟩
def inK (d k : Nat) (x : Nat × Nat × Nat) : Prop := df k * df k < d ∧ (d - df k * df k) % 4 = 0 ∧ x ∈ rowL k ((d - df k * df k) / 4) 1 ((d - df k * df k) / 4)
theorem mem_allL {d : Nat} {x : Nat × Nat × Nat} : ∀ (j k : Nat), x ∈ allL d k j ↔ ∃ k', k ≤ k' ∧ k' < k + j ∧ inK d k' x
  | 0, k => by
    rw [allL_0]
    exact ⟨fun h => (by cases h), fun ⟨a', h1, h2, _⟩ => by omega⟩
  | j + 1, k => by
    rw [allL_s, List.mem_append, mem_allL j (k + 1)]
    constructor
    · rintro (q | ⟨k', h1, h2, h3⟩)
      · by_cases h : df k * df k < d ∧ (d - df k * df k) % 4 = 0
        · rw [if_pos h] at q
          exact ⟨k, Nat.le_refl k, by omega, h.1, h.2, q⟩
        · rw [if_neg h] at q
          cases q
      · exact ⟨k', by omega, by omega, h3⟩
    · rintro ⟨k', h1, h2, h3⟩
      by_cases q : k' = k
      · subst q
        left
        rw [if_pos ⟨h3.1, h3.2.1⟩]
        exact h3.2.2
      · exact Or.inr ⟨k', by omega, by omega, h3⟩
theorem mem_FL {d : Nat} {x : Nat × Nat × Nat} : x ∈ FL d ↔ okF d x := by
  unfold FL
  rw [mem_allL]
  constructor
  · rintro ⟨k, h1, h2, h3, h4, h5⟩
    rw [mem_rowL] at h5
    obtain ⟨a, g1, g2, g3, g4, rfl⟩ := h5
    have e1 := Nat.div_add_mod ((d - df k * df k) / 4) a
    rw [g3, Nat.add_zero] at e1
    refine ⟨by show k ≤ 60; omega, g1, ?_, ?_, g4⟩
    · show 1 ≤ (d - df k * df k) / 4 / a
      exact Nat.div_pos (by omega) (by omega)
    · show df k * df k + 4 * (a * ((d - df k * df k) / 4 / a)) = d
      rw [e1]
      omega
  · obtain ⟨k, a, c⟩ := x
    rintro ⟨h1, h2, h3, h4, h5⟩
    simp only at h1 h2 h3 h4 h5
    have hp : 1 ≤ a * c := Nat.mul_le_mul h2 h3
    have e : (d - df k * df k) / 4 = a * c := by omega
    refine ⟨k, by omega, by omega, by omega, by omega, ?_⟩
    rw [e, mem_rowL]
    have e2 : a * c / a = c := Nat.mul_div_cancel_left c (by omega)
    refine ⟨a, h2, ?_, Nat.mul_mod_right a c, by rw [e2]; exact h5, by rw [e2]⟩
    have := Nat.le_mul_of_pos_right a (show 0 < c by omega)
    omega
theorem sorted_rowL (k p : Nat) : ∀ (j a : Nat), List.Pairwise ltF (rowL k p a j)
  | 0, a => by
    rw [rowL_0]
    exact List.Pairwise.nil
  | j + 1, a => by
    rw [rowL_s]
    split
    · refine List.Pairwise.cons (fun y hy => ?_) (sorted_rowL k p j (a + 1))
      obtain ⟨a', h1, h2, h3, h4, rfl⟩ := (mem_rowL j (a + 1)).mp hy
      exact Or.inr ⟨rfl, by show a < a'; omega⟩
    · exact sorted_rowL k p j (a + 1)
theorem inK_k {d k : Nat} {x : Nat × Nat × Nat} (h : x ∈ (if df k * df k < d ∧ (d - df k * df k) % 4 = 0 then rowL k ((d - df k * df k) / 4) 1 ((d - df k * df k) / 4) else [])) : x.1 = k := by
  split at h
  · obtain ⟨a', h1, h2, h3, h4, rfl⟩ := (mem_rowL _ _).mp h
    rfl
  · cases h
theorem sorted_allL (d : Nat) : ∀ (j k : Nat), List.Pairwise ltF (allL d k j)
  | 0, k => by
    rw [allL_0]
    exact List.Pairwise.nil
  | j + 1, k => by
    rw [allL_s, List.pairwise_append]
    refine ⟨?_, sorted_allL d j (k + 1), fun x hx y hy => ?_⟩
    · split
      · exact sorted_rowL _ _ _ _
      · exact List.Pairwise.nil
    · have e := inK_k hx
      obtain ⟨k', h1, h2, h3, h4, h5⟩ := (mem_allL j (k + 1)).mp hy
      obtain ⟨a', g1, g2, g3, g4, rfl⟩ := (mem_rowL _ _).mp h5
      left
      show x.1 < k'
      omega
theorem sorted_FL (d : Nat) : List.Pairwise ltF (FL d) := sorted_allL d 61 0
/-- a form's number in the list -/
def fi (l : List (Nat × Nat × Nat)) (x : Nat × Nat × Nat) : Nat := match l with
  | [] => 0
  | y :: l => if y = x then 0 else fi l x + 1
theorem fi_mem {x : Nat × Nat × Nat} : ∀ {l : List (Nat × Nat × Nat)}, x ∈ l → l[fi l x]? = some x
  | [], h => by cases h
  | y :: l, h => by
    rw [fi]
    by_cases q : y = x
    · rw [if_pos q, q]
      rfl
    · rw [if_neg q, List.getElem?_cons_succ]
      rcases List.mem_cons.mp h with e | e
      · exact absurd e.symm q
      · exact fi_mem e
theorem gt_of {l : List (Nat × Nat × Nat)} {i : Nat} {x : Nat × Nat × Nat} (h : l[i]? = some x) : i < l.length := by
  rcases Nat.lt_or_ge i l.length with q | q
  · exact q
  · rw [List.getElem?_eq_none q] at h
    cases h
theorem gt_ex {l : List (Nat × Nat × Nat)} {i : Nat} (h : i < l.length) : ∃ x, l[i]? = some x := ⟨l[i], List.getElem?_eq_getElem h⟩
theorem sorted_lt {l : List (Nat × Nat × Nat)} (h : List.Pairwise ltF l) {i j : Nat} {x y : Nat × Nat × Nat} (hx : l[i]? = some x) (hy : l[j]? = some y) (hij : i < j) : ltF x y := by
  have hi := gt_of hx
  have hj := gt_of hy
  rw [List.getElem?_eq_getElem hi] at hx
  rw [List.getElem?_eq_getElem hj] at hy
  rw [← Option.some.inj hx, ← Option.some.inj hy]
  exact List.pairwise_iff_getElem.mp h i j hi hj hij
theorem ltF_irr {x : Nat × Nat × Nat} (h : ltF x x) : False := by
  rcases h with h | h <;> omega
theorem ltF_asymm {x y : Nat × Nat × Nat} (h : ltF x y) (h2 : ltF y x) : False := by
  unfold ltF at h h2
  omega
theorem sorted_inj {l : List (Nat × Nat × Nat)} (h : List.Pairwise ltF l) {i j : Nat} {x y : Nat × Nat × Nat} (hx : l[i]? = some x) (hy : l[j]? = some y) (h1 : x.1 = y.1) (h2 : x.2.1 = y.2.1) : i = j := by
  rcases Nat.lt_trichotomy i j with q | q | q
  · have := sorted_lt h hx hy q
    unfold ltF at this
    omega
  · exact q
  · have := sorted_lt h hy hx q
    unfold ltF at this
    omega
theorem idx_lt {l : List (Nat × Nat × Nat)} (h : List.Pairwise ltF l) {i j : Nat} {x y : Nat × Nat × Nat} (hx : l[i]? = some x) (hy : l[j]? = some y) (hl : ltF x y) : i < j := by
  rcases Nat.lt_trichotomy i j with q | q | q
  · exact q
  · subst q
    rw [hx] at hy
    rw [Option.some.inj hy] at hl
    exact (ltF_irr hl).elim
  · exact (ltF_asymm hl (sorted_lt h hy hx q)).elim
theorem fi_at {d i : Nat} {x : Nat × Nat × Nat} (h : (FL d)[i]? = some x) : fi (FL d) x = i := by
  have hm := fi_mem (List.mem_of_getElem? h)
  exact sorted_inj (sorted_FL d) hm h rfl rfl
