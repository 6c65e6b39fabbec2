-- ROADS, pages, draws of the class
/-- a road of the class: the word of length N with the letters L -/
def WR (wv : Nat → Nat → Int32) (k N : Nat) (L : Nat → Nat) : Prop := wv k 0 = nI (bv L N) ∧ wv k 1 = nI N ∧ wv k 2 = nI (2 ^ N - 1) ∧ wv k 3 = (mt L N).1 ∧ wv k 4 = (mt L N).2.1 ∧ wv k 5 = (mt L N).2.2.1 ∧ wv k 6 = (mt L N).2.2.2
/-- one character more, if it can stand there -/
def nstep (s : Nat × (Nat → Nat) × Bool) (x : Nat) : Option (Nat × (Nat → Nat) × Bool) :=
  if x = 76 ∨ x = 82 then (if s.1 = 20 then none else some (s.1 + 1, fun i => if i = s.1 then (if x = 82 then 1 else 0) else s.2.1 i, true))
  else if s.2.2 = true ∧ 50 ≤ x ∧ x ≤ 57 ∧ s.1 + (x - 49) ≤ 20 then some (s.1 + (x - 49), fun i => if i < s.1 then s.2.1 i else s.2.1 (s.1 - 1), false) else none
/-- the good beginning of a text: how many characters, and what they say -/
def pst (c : Nat → Nat) : Nat → Nat × Nat × (Nat → Nat) × Bool
  | 0 => (0, 0, fun _ => 0, false)
  | j + 1 => if (pst c j).1 = j then (match nstep (pst c j).2 (c j) with | none => pst c j | some s => (j + 1, s)) else pst c j
theorem nn {x : Int32} (h : ¬ x < 0) : ∃ k : Nat, k < 2 ^ 31 ∧ x = nI k := by
  have h1 := x.toInt_lt
  have h2 := Int32.le_iff_toInt_le.mp (Int32.not_lt.mp h)
  rw [show (0 : Int32).toInt = 0 from rfl] at h2
  exact ⟨x.toInt.toNat, by omega, Int32.toInt_inj.mp (by rw [nI_toInt (by omega)]; omega)⟩
/-- a word's record, written whole -/
def wvr (wv : Nat → Nat → Int32) (k : Nat) (r : Int32 × Int32 × Int32 × Int32 × Int32 × Int32 × Int32) : Nat → Nat → Int32 := wvset wv k r.1 r.2.1 r.2.2.1 r.2.2.2.1 r.2.2.2.2.1 r.2.2.2.2.2.1 r.2.2.2.2.2.2
theorem wvr_at (wv : Nat → Nat → Int32) (k N : Nat) (T : Nat → Nat) : WR (wvr wv k (wrec N T)) k N T := by
  unfold WR wvr wvset
  simp only [if_true]
  exact ⟨rfl, rfl, rfl, rfl, rfl, rfl, rfl⟩
theorem wvr_ne {wv : Nat → Nat → Int32} {k k' N M : Nat} {T L : Nat → Nat} (h : ¬ k' = k) (hw : WR wv k' N L) : WR (wvr wv k (wrec M T)) k' N L := by
  unfold WR wvr wvset at *
  simp only [if_neg h]
  exact hw
theorem per_rot {N k : Nat} {L : Nat → Nat} (h : LW N L) (hk : k < N) : fnd (eqr N (rot N k L) (rot N k L)) 1 (N - 1) = fnd (eqr N L L) 1 (N - 1) := by
  refine fnd_congr _ _ (fun j _ _ => ?_)
  unfold eqr
  congr 1
  have hR := rot_LW (k := k) h
  rw [bv_iff (rot_lt hR) (rot_lt h), bv_iff (rot_lt h) h.2.2]
  unfold rot
  apply propext
  have e : ∀ i, (k + (j + i) % N) % N = (j + (k + i) % N) % N := fun i => by
    rw [Nat.add_mod_mod, Nat.add_mod_mod]
    congr 1
    omega
  constructor
  · intro q i hi
    have := q ((i + (N - k)) % N) (Nat.mod_lt _ h.1)
    rw [e] at this
    have e2 : (k + (i + (N - k)) % N) % N = i := by
      rw [Nat.add_mod_mod, show k + (i + (N - k)) = i + N by omega, Nat.add_mod_right, Nat.mod_eq_of_lt hi]
    rw [e2] at this
    exact this
  · intro q i hi
    show L ((k + (j + i) % N) % N) = L ((k + i) % N)
    rw [e]
    exact q _ (Nat.mod_lt _ h.1)
theorem w_sum_at {wv : Nat → Nat → Int32} (k N : Nat) (T : Nat → Nat) : P3_traceSum (wvr wv k (wrec N T) k 3) (wvr wv k (wrec N T) k 6) = some ((mt T N).1 + (mt T N).2.2.2) := by
  have hw2 := wvr_at wv k N T
  rw [hw2.2.2.2.1, hw2.2.2.2.2.2.2]
  rfl
def cat (N : Nat) (L T : Nat → Nat) : Nat → Nat := fun i => if i < N then L i else T (i - N)
theorem cat_lt {N M : Nat} {L T : Nat → Nat} (hL : ∀ i, i < N → L i < 2) (hT : ∀ i, i < M → T i < 2) : ∀ i, i < N + M → cat N L T i < 2 := fun i hi => by
  unfold cat
  by_cases h : i < N
  · rw [if_pos h]
    exact hL i h
  · rw [if_neg h]
    exact hT _ (by omega)
theorem bv_cat {N : Nat} {L T : Nat → Nat} (M : Nat) : bv (cat N L T) (N + M) = bv L N * 2 ^ M + bv T M := by
  rw [bv_add, bv_congr (A := cat N L T) (B := L) (fun i hi => by unfold cat; rw [if_pos hi]), bv_congr (A := fun i => cat N L T (N + i)) (B := T) (fun i _ => by show cat N L T (N + i) = T i; unfold cat; rw [if_neg (by omega), Nat.add_sub_cancel_left])]
theorem n_cat {x M : Nat} {T : Nat → Nat} (hM : M ≤ 20) (hT : ∀ i, i < M → T i < 2) : jshl (nI x) (nI M) ||| nI (bv T M) = nI (x * 2 ^ M + bv T M) := by
  rw [n_shl x (by omega), n_or, Nat.mul_comm x, ← Nat.two_pow_add_eq_or_of_lt (bv_lt hT)]
theorem add_long {rc : Int32} {wn : Nat} {wv : Nat → Nat → Int32} {x : Int32} {s : Nat} (h : 20 < s) (h2 : s < 2 ^ 31) : P4_addRoad rc wn wv x (nI s) = some (-2000000103, rc, wn, wv) := by
  unfold P4_addRoad
  rw [if_neg (show ¬ nI s ≤ (20 : Int32) from nI_ge (a := 20) h h2)]
theorem cat_0 {L : Nat → Nat} {C : Nat → Nat} : cat 0 C L = L := by
  funext i
  unfold cat
  rw [if_neg (by omega), Nat.sub_zero]
/-- a word, so often -/
def rpt (N : Nat) (L : Nat → Nat) : Nat → Nat → Nat
  | 0 => fun _ => 0
  | t + 1 => cat (t * N) (rpt N L t) L
theorem rpt_lt {N : Nat} {L : Nat → Nat} (hL : ∀ i, i < N → L i < 2) : ∀ (t i : Nat), i < t * N → rpt N L t i < 2
  | 0, i, hi => by omega
  | t + 1, i, hi => by
    rw [Nat.succ_mul] at hi
    exact cat_lt (rpt_lt hL t) hL i hi
theorem w_times_loop {wv : Nat → Nat → Int32} {k N m : Nat} {L : Nat → Nat} (hL : LW N L) (w0 : wv k 0 = nI (bv L N)) (w1 : wv k 1 = nI N) (hm : m ≤ 5) : ∀ (j t n : Nat), t + j = m → j < n → P4_times_32 k wv (nI m) n (nI (bv (rpt N L t) (t * N))) (nI t) = some (nI (bv (rpt N L m) (m * N)))
  | 0, t, n, hk, hn => by
    obtain ⟨n, rfl⟩ : ∃ z, n = z + 1 := ⟨n - 1, by omega⟩
    rw [P4_times_32, if_pos (nI_le (by omega) (by omega)), show t = m by omega]
  | j + 1, t, n, hk, hn => by
    obtain ⟨n, rfl⟩ : ∃ z, n = z + 1 := ⟨n - 1, by omega⟩
    rw [P4_times_32, if_neg (nI_ge (by omega) (by omega)), w0, w1, n_cat hL.2.1 hL.2.2, ← bv_cat, nI_1]
    have := w_times_loop hL w0 w1 hm j (t + 1) n (by omega) (by omega)
    rw [Nat.succ_mul] at this
    exact this
def ext (C : Nat → Nat) (s l : Nat) : Nat → Nat := fun i => if i = s then l else C i
theorem bv_ext (C : Nat → Nat) (s l : Nat) : bv (ext C s l) (s + 1) = bv C s * 2 + l := by
  rw [bv, bv_congr (A := ext C s l) (B := C) (fun i hi => by unfold ext; rw [if_neg (by omega)])]
  unfold ext
  rw [if_pos rfl]
  omega
theorem ext_lt {C : Nat → Nat} {s l : Nat} (hl : l < 2) (h : ∀ i, i < s → C i < 2) : ∀ i, i < s + 1 → ext C s l i < 2 := fun i hi => by
  unfold ext
  by_cases q : i = s
  · rw [if_pos q]
    exact hl
  · rw [if_neg q]
    exact h i (by omega)
theorem n_app (x l : Nat) (hl : l < 2) : jshl (nI x) 1 ||| nI l = nI (x * 2 + l) := by
  have := n_cat (x := x) (M := 1) (T := fun _ => l) (by omega) (fun _ _ => hl)
  rw [show bv (fun _ => l) 1 = l by simp [bv]] at this
  exact this
theorem n_app0 (x : Nat) : jshl (nI x) 1 = nI (x * 2 + 0) := n_shl x (k := 1) (by omega)
theorem in_1_99 {x : Int32} (h1 : ¬ x < 1) (h2 : ¬ 99 < x) : ∃ k, 1 ≤ k ∧ k ≤ 99 ∧ x = nI k := by
  obtain ⟨k, hk, rfl⟩ := nn (x := x) (fun q => h1 (by
    have q1 := Int32.lt_iff_toInt_lt.mp q
    rw [show (0 : Int32).toInt = 0 from rfl] at q1
    exact Int32.lt_iff_toInt_lt.mpr (by rw [show (1 : Int32).toInt = 1 from rfl]; omega)))
  exact ⟨k, (nI_leI (a := 1) (by omega) hk).mp (Int32.not_lt.mp h1), (nI_leI (b := 99) hk (by omega)).mp (Int32.not_lt.mp h2), rfl⟩
/-- what a state of the reading keeps -/
def PgI (s : Nat × (Nat → Nat) × Bool) : Prop := s.1 ≤ 20 ∧ (∀ i, i < s.1 → s.2.1 i < 2) ∧ (s.2.2 = true → 1 ≤ s.1)
def runL (n : Nat) (L : Nat → Nat) : Nat → Nat := fun i => if i < n then L i else L (n - 1)
theorem nstep_PgI {s t : Nat × (Nat → Nat) × Bool} {x : Nat} (h : PgI s) (e : nstep s x = some t) : PgI t ∧ s.1 < t.1 := by
  obtain ⟨h1, h2, h3⟩ := h
  unfold nstep at e
  by_cases c : x = 76 ∨ x = 82
  · rw [if_pos c] at e
    by_cases d : s.1 = 20
    · rw [if_pos d] at e
      cases e
    · rw [if_neg d] at e
      cases e
      refine ⟨⟨by simp only; omega, fun i hi => ?_, fun _ => by simp only; omega⟩, by simp only; omega⟩
      simp only
      by_cases q : i = s.1
      · rw [if_pos q]
        split <;> omega
      · rw [if_neg q]
        simp only at hi
        exact h2 i (by omega)
  · rw [if_neg c] at e
    by_cases d : s.2.2 = true ∧ 50 ≤ x ∧ x ≤ 57 ∧ s.1 + (x - 49) ≤ 20
    · rw [if_pos d] at e
      have h4 := h3 d.1
      cases e
      refine ⟨⟨d.2.2.2, fun i hi => ?_, fun q => by cases q⟩, by simp only; omega⟩
      simp only
      by_cases q : i < s.1
      · rw [if_pos q]
        exact h2 i q
      · rw [if_neg q]
        exact h2 _ (by omega)
    · rw [if_neg d] at e
      cases e
theorem n_dec {x : Nat} (h : x < 127) : (nI x - 49).toInt = (x : Int) - 49 := pk_sub_toInt (b := 49) (by omega) (by omega)
theorem w_digit {x : Nat} (h : x < 127) : (1 ≤ nI x - 49 ∧ nI x - 49 ≤ 8) ↔ (50 ≤ x ∧ x ≤ 57) := by
  rw [Int32.le_iff_toInt_le, Int32.le_iff_toInt_le, n_dec h, show (1 : Int32).toInt = 1 from rfl, show (8 : Int32).toInt = 8 from rfl]
  omega
theorem w_more_loop {n m l : Nat} {C : Nat → Nat} (hl : l < 2) (hm : m < 100) (hC : ∀ i, n ≤ i → i < n + m → C i = l) : ∀ (j i k : Nat), i + j = m → j < k → P1_continues_110 (nI m) (nI l) k (nI (bv C (n + i))) (nI i) = some (nI (bv C (n + m)))
  | 0, i, k, hi, hk => by
    obtain ⟨k, rfl⟩ : ∃ z, k = z + 1 := ⟨k - 1, by omega⟩
    rw [P1_continues_110, if_pos (nI_le (by omega) (by omega)), show i = m by omega]
  | j + 1, i, k, hi, hk => by
    obtain ⟨k, rfl⟩ : ∃ z, k = z + 1 := ⟨k - 1, by omega⟩
    have := w_more_loop hl hm hC j (i + 1) k (by omega) (by omega)
    rw [← Nat.add_assoc, bv, hC (n + i) (by omega) (by omega), Nat.mul_comm] at this
    rw [P1_continues_110, if_neg (nI_ge (by omega) (by omega)), n_app _ l hl, nI_1]
    exact this
theorem w_more {n m l : Nat} {L C : Nat → Nat} (hl : l < 2) (hm : m < 100) (hC : ∀ i, n ≤ i → i < n + m → C i = l) (hL : ∀ i, i < n → C i = L i) : P1_continues_110 (nI m) (nI l) FU (nI (bv L n)) 0 = some (nI (bv C (n + m))) := by
  have := w_more_loop hl hm hC m 0 FU (by omega) (by unfold FU; omega)
  rw [Nat.add_zero, bv_congr hL] at this
  exact this
theorem w_continues {s : Nat × (Nat → Nat) × Bool} {x : Nat} (h : PgI s) (hx : x < 127) : (nstep s x = none ∧ P1_continues (nI (bv s.2.1 s.1)) (nI s.1) (b2 s.2.2) (nI x) = some (0, nI (bv s.2.1 s.1), nI s.1, b2 s.2.2)) ∨ (∃ t, nstep s x = some t ∧ P1_continues (nI (bv s.2.1 s.1)) (nI s.1) (b2 s.2.2) (nI x) = some (1, nI (bv t.2.1 t.1), nI t.1, b2 t.2.2)) := by
  obtain ⟨h1, h2, h3⟩ := h
  unfold nstep P1_continues
  have key : ∀ l, l < 2 → P1_continues_110 1 (nI l) FU (nI (bv s.2.1 s.1)) 0 = some (nI (bv (fun i => if i = s.1 then l else s.2.1 i) (s.1 + 1))) := fun l hl => w_more (m := 1) hl (by omega) (fun i _ _ => by show (if i = s.1 then l else s.2.1 i) = _; rw [if_pos (by omega)]) (fun i hi => by show (if i = s.1 then l else s.2.1 i) = _; rw [if_neg (by omega)])
  have full : ¬ s.1 = 20 → nI s.1 + 1 ≤ 20 := fun d => by
    rw [nI_1]
    exact nI_le (b := 20) (by omega) (by omega)
  have nfull : s.1 = 20 → ¬ nI s.1 + 1 ≤ 20 := fun d => by
    rw [nI_1]
    exact nI_ge (a := 20) (by omega) (by omega)
  by_cases c76 : x = 76
  · subst c76
    rw [if_pos (Or.inl rfl), if_pos (show nI 76 = (76 : Int32) by decide), if_neg (show ¬ nI 76 = (82 : Int32) by decide), if_neg (show ¬ nI 76 < (50 : Int32) by decide), if_pos (show (57 : Int32) < nI 76 by decide), if_neg (show ¬ 76 = 82 by decide)]
    by_cases d : s.1 = 20
    · rw [if_pos d, if_neg (nfull d)]
      refine Or.inl ⟨rfl, ?_⟩
      split <;> rfl
    · rw [if_neg d, if_pos (full d), show P1_continues_110 1 0 FU (nI (bv s.2.1 s.1)) 0 = _ from key 0 (by omega), ob, nI_1]
      refine Or.inr ⟨_, rfl, ?_⟩
      split <;> rfl
  · by_cases c82 : x = 82
    · subst c82
      rw [if_pos (Or.inr rfl), if_neg (show ¬ nI 82 = (76 : Int32) by decide), if_pos (show nI 82 = (82 : Int32) by decide), if_neg (show ¬ nI 82 < (50 : Int32) by decide), if_pos (show (57 : Int32) < nI 82 by decide), if_pos (show 82 = 82 from rfl)]
      by_cases d : s.1 = 20
      · rw [if_pos d, if_neg (nfull d)]
        refine Or.inl ⟨rfl, ?_⟩
        split <;> rfl
      · rw [if_neg d, if_pos (full d), if_pos (show nI 82 = (82 : Int32) by decide), show P1_continues_110 1 1 FU (nI (bv s.2.1 s.1)) 0 = _ from key 1 (by omega), ob, nI_1]
        refine Or.inr ⟨_, rfl, ?_⟩
        split <;> rfl
    · rw [if_neg (by omega), if_neg (show ¬ nI x = (76 : Int32) from fun q => c76 ((nI_eq (b := 76) (by omega) (by omega)).mp q)), if_neg (show ¬ nI x = (82 : Int32) from fun q => c82 ((nI_eq (b := 82) (by omega) (by omega)).mp q))]
      by_cases r : s.2.2 = true
      · rw [if_neg (show ¬ b2 s.2.2 = 0 by rw [r]; decide)]
        by_cases d1 : x < 50
        · rw [if_pos (show nI x < (50 : Int32) from nI_lt (b := 50) d1 (by omega)), if_neg (fun q => by omega)]
          exact Or.inl ⟨rfl, rfl⟩
        · rw [if_neg (show ¬ nI x < (50 : Int32) from fun q => d1 ((nI_ltI (b := 50) (by omega) (by omega)).mp q))]
          by_cases d2 : 57 < x
          · rw [if_pos (show (57 : Int32) < nI x from nI_lt (a := 57) d2 (by omega)), if_neg (fun q => by omega)]
            exact Or.inl ⟨rfl, rfl⟩
          · rw [if_neg (show ¬ (57 : Int32) < nI x from fun q => d2 ((nI_ltI (a := 57) (by omega) (by omega)).mp q)), show nI x - 49 = nI (x - 49) from n_sub (b := 49) (by omega), nI_add]
            by_cases f : s.1 + (x - 49) ≤ 20
            · have h4 := h3 r
              have e1 : bv s.2.1 s.1 % 2 = s.2.1 (s.1 - 1) := by
                have := bv_bit (L := s.2.1) (p := s.1 - 1) (h2 _ (by omega))
                rw [show s.1 - 1 + 1 = s.1 by omega] at this
                exact this
              rw [if_pos ⟨r, by omega, by omega, f⟩, if_pos (show nI (s.1 + (x - 49)) ≤ (20 : Int32) from nI_le (b := 20) f (by omega)), n_mask1, e1, w_more (C := runL s.1 s.2.1) (h2 _ (by omega)) (by omega) (fun i hi _ => by unfold runL; rw [if_neg (by omega)]) (fun i hi => by unfold runL; rw [if_pos hi])]
              exact Or.inr ⟨_, rfl, rfl⟩
            · rw [if_neg (fun q => f q.2.2.2), if_neg (show ¬ nI (s.1 + (x - 49)) ≤ (20 : Int32) from nI_ge (a := 20) (by omega) (by omega))]
              exact Or.inl ⟨rfl, rfl⟩
      · rw [if_neg (fun q => r q.1), if_pos (show b2 s.2.2 = 0 by unfold b2; rw [if_neg r])]
        exact Or.inl ⟨rfl, rfl⟩
def lI (n : Nat) : Int64 := Int64.ofNat n
theorem bm64 {n : Nat} (h : n < 2 ^ 63) : ((n : Int)).bmod (2 ^ 64) = (n : Int) := Int.bmod_eq_of_le (by omega) (by omega)
theorem l_rem {a b : Nat} (ha : a < 2 ^ 63) (h0 : 0 < b) (hb : b < 2 ^ 63) : jlrem (lI a) (lI b) = lI (a % b) := by
  have hd : lI a / lI b = lI (a / b) := by
    apply Int64.toInt_inj.mp
    have h1 := Nat.div_le_self a b
    rw [Int64.toInt_div]
    unfold lI
    rw [Int64.toInt_ofNat_of_lt ha, Int64.toInt_ofNat_of_lt hb, Int64.toInt_ofNat_of_lt (by omega), ← Int.ofNat_tdiv, bm64 (by omega)]
  unfold jlrem
  rw [hd]
  unfold lI
  rw [← Int64.ofNat_mul, ← Int64.ofNat_sub _ _ (Nat.div_mul_le_self a b)]
  congr 1
  have := Nat.div_add_mod a b
  rw [Nat.mul_comm] at this
  omega
theorem l_div {a b : Nat} (ha : a < 2 ^ 63) (hb : b < 2 ^ 63) : lI a / lI b = lI (a / b) := by
  apply Int64.toInt_inj.mp
  have h1 := Nat.div_le_self a b
  rw [Int64.toInt_div]
  unfold lI
  rw [Int64.toInt_ofNat_of_lt ha, Int64.toInt_ofNat_of_lt hb, Int64.toInt_ofNat_of_lt (by omega), ← Int.ofNat_tdiv, bm64 (by omega)]
/-- the next number of the row -/
def nx (s : Nat) : Nat := (1103515245 * s + 12345) % 2147483648
theorem l_nx {s : Nat} (h : s < 2147483648) : jlrem ((1103515245 * lI s) + 12345) 2147483648 = lI (nx s) := by
  have e : (1103515245 * lI s) + 12345 = lI (1103515245 * s + 12345) := by
    unfold lI
    rw [Int64.ofNat_add, Int64.ofNat_mul]
    rfl
  rw [e, show (2147483648 : Int64) = lI 2147483648 from rfl, l_rem (by omega) (by omega) (by omega)]
  rfl
theorem nx_lt (s : Nat) : nx s < 2147483648 := Nat.mod_lt _ (by omega)
theorem l_bit {s : Nat} (h : s < 2147483648) : Int64.toInt32 (jlrem (lI s / 65536) 2) = nI (s / 65536 % 2) := by
  rw [show (65536 : Int64) = lI 65536 from rfl, l_div (by omega) (by omega), show (2 : Int64) = lI 2 from rfl, l_rem (by omega) (by omega) (by omega)]
  rcases (show s / 65536 % 2 = 0 ∨ s / 65536 % 2 = 1 by omega) with e | e
  · rw [e]
    rfl
  · rw [e]
    rfl
def z8 : Nat → Nat := fun _ => 0
theorem z8_LW : LW 8 z8 := ⟨by omega, by omega, fun i _ => by unfold z8; omega⟩
theorem z8_bv : bv z8 8 = 0 := bv_zero 8
theorem z8_clo : clo 8 z8 = false := by
  unfold clo
  rw [z8_bv]
  rfl
theorem z8_become : P3_become 0 8 = some (wrec 8 z8) := by
  have h := w_become z8_LW
  rw [z8_bv] at h
  exact h
