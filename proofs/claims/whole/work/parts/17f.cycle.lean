-- ONE-TO-ONE STEPS ON A FINITE LIST GO ROUND
theorem pigeon : ∀ (n : Nat) (f : Nat → Nat), (∀ i, i ≤ n → f i < n) → ∃ i j, i < j ∧ j ≤ n ∧ f i = f j
  | 0, f, h => absurd (h 0 (Nat.le_refl 0)) (by omega)
  | n + 1, f, h => by
    by_cases c : ∃ i, i ≤ n ∧ f i = f (n + 1)
    · obtain ⟨i, h1, h2⟩ := c
      exact ⟨i, n + 1, by omega, Nat.le_refl _, h2⟩
    · have hl := h (n + 1) (Nat.le_refl _)
      obtain ⟨i, j, h1, h2, h3⟩ := pigeon n (fun i => if f i = n then f (n + 1) else f i) (fun i hi => by
        have h1 := h i (by omega)
        by_cases q : f i = n
        · rw [if_pos q]
          have : ¬ f i = f (n + 1) := fun e => c ⟨i, hi, e⟩
          omega
        · rw [if_neg q]
          omega)
      refine ⟨i, j, h1, by omega, ?_⟩
      by_cases q1 : f i = n
      · by_cases q2 : f j = n
        · rw [q1, q2]
        · rw [if_pos q1, if_neg q2] at h3
          exact absurd ⟨j, h2, h3.symm⟩ c
      · by_cases q2 : f j = n
        · rw [if_neg q1, if_pos q2] at h3
          exact absurd ⟨i, by omega, h3⟩ c
        · rw [if_neg q1, if_neg q2] at h3
          exact h3
def it (nx : Nat → Nat) : Nat → Nat → Nat
  | 0, i => i
  | t + 1, i => nx (it nx t i)
theorem it_add (nx : Nat → Nat) (i : Nat) : ∀ s t : Nat, it nx (s + t) i = it nx s (it nx t i)
  | 0, t => by rw [Nat.zero_add]; rfl
  | s + 1, t => by rw [show s + 1 + t = (s + t) + 1 by omega, it, it, it_add nx i s t]
/-- steps that stay below n and are one-to-one -/
def Perm (n : Nat) (nx : Nat → Nat) : Prop := (∀ i, i < n → nx i < n) ∧ ∀ i j, i < n → j < n → nx i = nx j → i = j
theorem it_lt {n : Nat} {nx : Nat → Nat} (h : Perm n nx) {i : Nat} (hi : i < n) : ∀ t : Nat, it nx t i < n
  | 0 => hi
  | t + 1 => h.1 _ (it_lt h hi t)
theorem it_inj {n : Nat} {nx : Nat → Nat} (h : Perm n nx) {i j : Nat} (hi : i < n) (hj : j < n) : ∀ t : Nat, it nx t i = it nx t j → i = j
  | 0, e => e
  | t + 1, e => it_inj h hi hj t (h.2 _ _ (it_lt h hi t) (it_lt h hj t) e)
/-- the length of a round -/
def Per (nx : Nat → Nat) (s l : Nat) : Prop := 1 ≤ l ∧ it nx l s = s ∧ ∀ t, 0 < t → t < l → ¬ it nx t s = s
theorem per_least {nx : Nat → Nat} {s : Nat} : ∀ (l : Nat), 1 ≤ l → it nx l s = s → ∃ m, m ≤ l ∧ Per nx s m := by
  intro l
  induction l using Nat.strongRecOn with
  | _ l ih =>
    intro h1 h2
    by_cases c : ∃ t, 0 < t ∧ t < l ∧ it nx t s = s
    · obtain ⟨t, t1, t2, t3⟩ := c
      obtain ⟨m, m1, m2⟩ := ih t t2 t1 t3
      exact ⟨m, by omega, m2⟩
    · exact ⟨l, Nat.le_refl l, h1, h2, fun t t1 t2 t3 => c ⟨t, t1, t2, t3⟩⟩
theorem per_ex {n : Nat} {nx : Nat → Nat} (h : Perm n nx) {s : Nat} (hs : s < n) : ∃ l, l ≤ n ∧ Per nx s l := by
  obtain ⟨i, j, h1, h2, h3⟩ := pigeon n (fun t => it nx t s) (fun t _ => it_lt h hs t)
  have e : it nx (j - i) s = s := by
    have := it_add nx s i (j - i)
    rw [show i + (j - i) = j by omega, ← h3] at this
    exact (it_inj h hs (it_lt h hs _) i this).symm
  obtain ⟨m, m1, m2⟩ := per_least (j - i) (by omega) e
  exact ⟨m, by omega, m2⟩
theorem per_ne {n : Nat} {nx : Nat → Nat} (h : Perm n nx) {s l : Nat} (hs : s < n) (hp : Per nx s l) {i j : Nat} (hij : i < j) (hj : j < l) : ¬ it nx i s = it nx j s := fun e => by
  have := it_add nx s i (j - i)
  rw [show i + (j - i) = j by omega, ← e] at this
  exact hp.2.2 (j - i) (by omega) (by omega) (it_inj h hs (it_lt h hs _) i this).symm
/-- j lies on the round of s -/
def orb (nx : Nat → Nat) (s j : Nat) : Prop := ∃ t, it nx t s = j
theorem orb_next {nx : Nat → Nat} {s j : Nat} (h : orb nx s j) : orb nx s (nx j) := by
  obtain ⟨t, rfl⟩ := h
  exact ⟨t + 1, rfl⟩
theorem orb_back {n : Nat} {nx : Nat → Nat} (h : Perm n nx) {s j : Nat} (hs : s < n) (hj : j < n) (ho : orb nx s (nx j)) : orb nx s j := by
  obtain ⟨t, ht⟩ := ho
  obtain ⟨l, -, hl⟩ := per_ex h hs
  cases t with
  | zero =>
    refine ⟨l - 1, ?_⟩
    have e : it nx (l - 1 + 1) s = nx j := by
      rw [show l - 1 + 1 = l by have := hl.1; omega, hl.2.1]
      exact ht
    exact h.2 _ _ (it_lt h hs _) hj e
  | succ t => exact ⟨t, h.2 _ _ (it_lt h hs _) hj ht⟩
theorem orb_mod {n : Nat} {nx : Nat → Nat} {s l : Nat} (hp : Per nx s l) : ∀ t : Nat, ∃ u, u < l ∧ it nx t s = it nx u s
  | 0 => ⟨0, hp.1, rfl⟩
  | t + 1 => by
    obtain ⟨u, h1, h2⟩ := orb_mod (n := n) hp t
    by_cases q : u + 1 = l
    · refine ⟨0, hp.1, ?_⟩
      show nx (it nx t s) = s
      rw [h2]
      show it nx (u + 1) s = s
      rw [q]
      exact hp.2.1
    · exact ⟨u + 1, by omega, by show nx (it nx t s) = it nx (u + 1) s; rw [h2]; rfl⟩
/-- the first t places of the round of s -/
def mkd (nx : Nat → Nat) (s : Nat) : Nat → Nat → Bool
  | 0, _ => false
  | t + 1, j => mkd nx s t j || decide (it nx t s = j)
theorem mkd_iff {nx : Nat → Nat} {s j : Nat} : ∀ t : Nat, mkd nx s t j = true ↔ ∃ u, u < t ∧ it nx u s = j
  | 0 => ⟨fun h => (by cases h), fun ⟨u, h, _⟩ => by omega⟩
  | t + 1 => by
    rw [mkd, Bool.or_eq_true, mkd_iff t, decide_eq_true_iff]
    constructor
    · rintro (⟨u, h1, h2⟩ | h)
      · exact ⟨u, by omega, h2⟩
      · exact ⟨t, by omega, h⟩
    · rintro ⟨u, h1, h2⟩
      by_cases q : u = t
      · subst q
        exact Or.inr h2
      · exact Or.inl ⟨u, by omega, h2⟩
theorem mkd_orb {n : Nat} {nx : Nat → Nat} {s l j : Nat} (hp : Per nx s l) : mkd nx s l j = true ↔ orb nx s j := by
  rw [mkd_iff]
  constructor
  · rintro ⟨u, _, h⟩
    exact ⟨u, h⟩
  · rintro ⟨t, h⟩
    obtain ⟨u, h1, h2⟩ := orb_mod (n := n) hp t
    exact ⟨u, h1, by rw [← h2]; exact h⟩
theorem mkd_new {n : Nat} {nx : Nat → Nat} (h : Perm n nx) {s l t : Nat} (hs : s < n) (hp : Per nx s l) (ht : t < l) : mkd nx s t (it nx t s) = false := by
  rw [Bool.eq_false_iff]
  intro q
  obtain ⟨u, h1, h2⟩ := (mkd_iff t).mp q
  exact per_ne h hs hp h1 ht h2
theorem cnt_congr {p q : Nat → Bool} : ∀ {n : Nat}, (∀ j, j < n → p j = q j) → cnt p n = cnt q n
  | 0, _ => rfl
  | n + 1, h => by rw [cnt, cnt, cnt_congr (n := n) (fun j hj => h j (by omega)), h n (by omega)]
theorem cnt_set {p q : Nat → Bool} {x : Nat} (h0 : p x = false) (h1 : q x = true) (h2 : ∀ j, ¬ j = x → q j = p j) : ∀ {n : Nat}, x < n → cnt q n = cnt p n + 1
  | 0, h => by omega
  | n + 1, h => by
    rw [cnt, cnt]
    by_cases e : x = n
    · subst e
      rw [h0, h1, cnt_congr (p := q) (q := p) (fun j hj => h2 j (by omega))]
      simp
    · rw [cnt_set h0 h1 h2 (n := n) (by omega), h2 n (fun q => e q.symm)]
      omega
theorem cnt_false : ∀ n : Nat, cnt (fun _ => false) n = 0
  | 0 => rfl
  | n + 1 => by
    rw [cnt, cnt_false n]
    rfl
/-- the round has as many places as steps, and as many of a kind as are met -/
theorem cnt_mkd {n : Nat} {nx : Nat → Nat} (h : Perm n nx) {s l : Nat} (hs : s < n) (hp : Per nx s l) (k : Nat → Bool) : ∀ t : Nat, t ≤ l → cnt (fun j => mkd nx s t j && k j) n = cnt (fun u => k (it nx u s)) t
  | 0, _ => by
    rw [cnt, cnt_congr (q := fun _ => false) (fun j _ => by rw [mkd, Bool.false_and]), cnt_false]
  | t + 1, ht => by
    rw [cnt, ← cnt_mkd h hs hp k t (by omega)]
    have hn := mkd_new h hs hp (show t < l by omega)
    by_cases q : k (it nx t s) = true
    · rw [if_pos q]
      refine cnt_set (x := it nx t s) ?_ ?_ (fun j hj => ?_) (it_lt h hs t)
      · rw [hn, Bool.false_and]
      · rw [mkd, q]
        simp
      · rw [mkd, show decide (it nx t s = j) = false from decide_eq_false (fun e => hj e.symm), Bool.or_false]
    · rw [if_neg q, Nat.add_zero]
      refine cnt_congr (fun j _ => ?_)
      by_cases e : it nx t s = j
      · subst e
        rw [Bool.eq_false_iff.mpr q, Bool.and_false, Bool.and_false]
      · rw [mkd, show decide (it nx t s = j) = false from decide_eq_false e, Bool.or_false]
theorem cnt_true : ∀ n : Nat, cnt (fun _ => true) n = n
  | 0 => rfl
  | n + 1 => by
    rw [cnt, cnt_true n]
    rfl
