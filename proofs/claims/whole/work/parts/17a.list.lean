-- THE SIMPLE FORMS OF A DISCRIMINANT: (k, a, c) stands for the form (a, k - 30, -c)
/-- the distance of k from 30 -/
def df (k : Nat) : Nat := cond (Nat.blt k 30) (30 - k) (k - 30)
noncomputable def rowL (k p : Nat) (a j : Nat) : List (Nat × Nat × Nat) :=
  @Nat.rec (fun _ => Nat → List (Nat × Nat × Nat)) (fun _ => []) (fun _ ih a => cond (Nat.beq (p % a) 0) (cond (Nat.beq (Nat.gcd (Nat.gcd a (df k)) (p / a)) 1) ((k, a, p / a) :: ih (Nat.succ a)) (ih (Nat.succ a))) (ih (Nat.succ a))) j a
noncomputable def allL (d : Nat) (k j : Nat) : List (Nat × Nat × Nat) :=
  @Nat.rec (fun _ => Nat → List (Nat × Nat × Nat)) (fun _ => []) (fun _ ih k => cond (Nat.blt (df k * df k) d) (cond (Nat.beq ((d - df k * df k) % 4) 0) (rowL k ((d - df k * df k) / 4) 1 ((d - df k * df k) / 4) ++ ih (Nat.succ k)) (ih (Nat.succ k))) (ih (Nat.succ k))) j k
noncomputable def FL (d : Nat) : List (Nat × Nat × Nat) := allL d 0 61
/-- the next form of its cycle -/
def nxt (x : Nat × Nat × Nat) : Nat × Nat × Nat := cond (Nat.blt (x.2.2 + 30) (x.2.1 + x.1)) (x.1 - 2 * x.2.2, x.2.1 + x.1 - 30 - x.2.2, x.2.2) (x.1 + 2 * x.2.1, x.2.1, x.2.2 + 30 - x.2.1 - x.1)
/-- false: a walk meets a form that is lower -/
def low (k a : Nat) : Nat → Nat × Nat × Nat → Bool
  | 0, _ => true
  | n + 1, x => match nxt x with
    | (k2, a2, c2) => cond (Nat.blt k2 k || (Nat.beq k2 k && Nat.blt a2 a)) false (cond (Nat.beq k2 k && Nat.beq a2 a) true (low k a n (k2, a2, c2)))
def lows : List (Nat × Nat × Nat) → Nat
  | [] => 0
  | x :: l => cond (low x.1 x.2.1 300 x) (lows l + 1) (lows l)
def tell (l : List (Nat × Nat × Nat)) : Bool := Nat.ble (List.length l) 320 && Nat.ble (lows l) 10
def sqr (d : Nat) : Nat → Bool
  | 0 => false
  | r + 1 => Nat.beq ((r + 1) * (r + 1)) d || sqr d r
noncomputable def goodD (d : Nat) : Bool := (Nat.blt 1 (d % 4)) || sqr d 30 || tell (FL d)
noncomputable def goods : Nat → Nat → Bool
  | _, 0 => true
  | d, j + 1 => goodD d && goods (d + 1) j
theorem goods_at : ∀ (j d e : Nat), goods d j = true → d ≤ e → e < d + j → goodD e = true
  | 0, d, e, _, h1, h2 => by omega
  | j + 1, d, e, h, h1, h2 => by
    rw [goods, Bool.and_eq_true] at h
    by_cases q : e = d
    · rw [q]
      exact h.1
    · exact goods_at j (d + 1) e h.2 (by omega) (by omega)
theorem nbeq {a b : Nat} : Nat.beq a b = true ↔ a = b := ⟨Nat.eq_of_beq_eq_true, fun h => by subst h; exact Nat.beq_refl _⟩
theorem rowL_0 (k p a : Nat) : rowL k p a 0 = [] := rfl
theorem rowL_s (k p a j : Nat) : rowL k p a (j + 1) = if p % a = 0 ∧ Nat.gcd (Nat.gcd a (df k)) (p / a) = 1 then (k, a, p / a) :: rowL k p (a + 1) j else rowL k p (a + 1) j := by
  show cond (Nat.beq (p % a) 0) (cond (Nat.beq (Nat.gcd (Nat.gcd a (df k)) (p / a)) 1) ((k, a, p / a) :: rowL k p (a + 1) j) (rowL k p (a + 1) j)) (rowL k p (a + 1) j) = _
  by_cases h1 : p % a = 0
  · rw [show Nat.beq (p % a) 0 = true from nbeq.mpr h1]
    by_cases h2 : Nat.gcd (Nat.gcd a (df k)) (p / a) = 1
    · rw [show Nat.beq (Nat.gcd (Nat.gcd a (df k)) (p / a)) 1 = true from nbeq.mpr h2, if_pos ⟨h1, h2⟩]
      rfl
    · rw [show Nat.beq (Nat.gcd (Nat.gcd a (df k)) (p / a)) 1 = false from Bool.eq_false_iff.mpr (fun q => h2 (nbeq.mp q)), if_neg (fun q => h2 q.2)]
      rfl
  · rw [show Nat.beq (p % a) 0 = false from Bool.eq_false_iff.mpr (fun q => h1 (nbeq.mp q)), if_neg (fun q => h1 q.1)]
    rfl
theorem allL_0 (d k : Nat) : allL d k 0 = [] := rfl
theorem allL_s (d k j : Nat) : allL d k (j + 1) = (if df k * df k < d ∧ (d - df k * df k) % 4 = 0 then rowL k ((d - df k * df k) / 4) 1 ((d - df k * df k) / 4) else []) ++ allL d (k + 1) j := by
  show cond (Nat.blt (df k * df k) d) (cond (Nat.beq ((d - df k * df k) % 4) 0) (rowL k ((d - df k * df k) / 4) 1 ((d - df k * df k) / 4) ++ allL d (k + 1) j) (allL d (k + 1) j)) (allL d (k + 1) j) = _
  by_cases h1 : df k * df k < d
  · rw [show Nat.blt (df k * df k) d = true from Nat.ble_eq.mpr h1]
    by_cases h2 : (d - df k * df k) % 4 = 0
    · rw [show Nat.beq ((d - df k * df k) % 4) 0 = true from nbeq.mpr h2, if_pos ⟨h1, h2⟩]
      rfl
    · rw [show Nat.beq ((d - df k * df k) % 4) 0 = false from Bool.eq_false_iff.mpr (fun q => h2 (nbeq.mp q)), if_neg (fun q => h2 q.2)]
      rfl
  · rw [show Nat.blt (df k * df k) d = false from Bool.eq_false_iff.mpr (fun q => h1 (Nat.ble_eq.mp q)), if_neg (fun q => h1 q.1)]
    rfl
