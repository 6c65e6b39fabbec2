-- A CYCLE IS BEGUN ONLY AT ITS LOWEST FORM, SO THERE ARE FEW
def itF : Nat → (Nat × Nat × Nat) → (Nat × Nat × Nat)
  | 0, x => x
  | t + 1, x => itF t (nxt x)
theorem low_false {k a : Nat} : ∀ (T : Nat) (x : Nat × Nat × Nat), low k a T x = false → ∃ t, 1 ≤ t ∧ ((itF t x).1 < k ∨ ((itF t x).1 = k ∧ (itF t x).2.1 < a))
  | 0, x, h => by cases h
  | T + 1, x, h => by
    rw [low] at h
    generalize hy : nxt x = y at h
    obtain ⟨k2, a2, c2⟩ := y
    simp only at h
    by_cases c1 : k2 < k ∨ (k2 = k ∧ a2 < a)
    · refine ⟨1, Nat.le_refl 1, ?_⟩
      rw [itF, itF, hy]
      exact c1
    · have e1 : (Nat.blt k2 k || (Nat.beq k2 k && Nat.blt a2 a)) = false := by
        rw [Bool.eq_false_iff]
        intro q
        rw [Bool.or_eq_true, Bool.and_eq_true] at q
        exact c1 (q.elim (fun w => Or.inl (Nat.ble_eq.mp w)) (fun w => Or.inr ⟨nbeq.mp w.1, Nat.ble_eq.mp w.2⟩))
      rw [e1] at h
      simp only [cond_false] at h
      by_cases c2' : (Nat.beq k2 k && Nat.beq a2 a) = true
      · rw [c2'] at h
        cases h
      · rw [Bool.eq_false_iff.mpr c2', cond_false] at h
        obtain ⟨t, h1, h2⟩ := low_false T _ h
        exact ⟨t + 1, by omega, by rw [itF, hy]; exact h2⟩
theorem itF_at {d : Nat} (hd : VD d) : ∀ (t : Nat) {i : Nat}, i < (FL d).length → itF t (fx d i) = fx d (it (nxI d) t i)
  | 0, i, _ => rfl
  | t + 1, i, hi => by
    have hn := nx_at hd hi
    rw [itF, ← hn.2, itF_at hd t hn.1]
    congr 1
    have := it_add (nxI d) i t 1
    rw [this]
    rfl
noncomputable def lowB (d i : Nat) : Bool := low (fx d i).1 (fx d i).2.1 300 (fx d i)
theorem lowB_of {d i : Nat} (hd : VD d) (hi : i < (FL d).length) (h : ∀ t, i ≤ it (nxI d) t i) : lowB d i = true := by
  cases hb : lowB d i with
  | true => rfl
  | false =>
    obtain ⟨t, h1, h2⟩ := low_false 300 _ hb
    rw [itF_at hd t hi] at h2
    have := fx_lt (it_lt (nx_perm hd) hi t) hi h2
    have := h t
    omega
theorem cnt_head (f : Nat → Bool) : ∀ n : Nat, cnt f (n + 1) = (if f 0 = true then 1 else 0) + cnt (fun i => f (i + 1)) n
  | 0 => by rw [cnt, cnt, cnt]; omega
  | n + 1 => by
    rw [cnt, cnt_head f n, cnt]
    omega
theorem lows_cnt : ∀ l : List (Nat × Nat × Nat), lows l = cnt (fun i => low ((l[i]?).getD (0, 0, 0)).1 ((l[i]?).getD (0, 0, 0)).2.1 300 ((l[i]?).getD (0, 0, 0))) l.length
  | [] => rfl
  | x :: l => by
    rw [lows, List.length_cons, cnt_head, lows_cnt l]
    simp only [List.getElem?_cons_zero, List.getElem?_cons_succ, Option.getD_some]
    by_cases q : low x.1 x.2.1 300 x = true
    · rw [if_pos q, q, cond_true]
      omega
    · rw [if_neg q, Bool.eq_false_iff.mpr q, cond_false]
      omega
theorem lowB_10 {d : Nat} (hd : VD d) : cnt (lowB d) (FL d).length ≤ 10 := by
  have h := (FL_facts hd).2.1
  rw [lows_cnt] at h
  exact h
theorem cnt_mono (f : Nat → Bool) : ∀ (j i : Nat), cnt f i ≤ cnt f (i + j)
  | 0, i => Nat.le_refl _
  | j + 1, i => by
    rw [← Nat.add_assoc, cnt]
    have := cnt_mono f j i
    omega
