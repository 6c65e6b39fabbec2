-- THE LAW'S CROSSINGS, and what is true of crossings
theorem bks_lt {N s x : Nat} (h : 1 ≤ N) : bks N s x < N := Nat.mod_lt _ h
theorem bks_0 {N x : Nat} (h : x < N) : bks N 0 x = x := by
  unfold bks
  rw [Nat.zero_mul, Nat.add_zero, Nat.mod_eq_of_lt h]
theorem bks_N {N s x : Nat} : bks N (N + s) x = bks N s x := by
  unfold bks
  rw [Nat.add_mul, show x + (N * (N - 1) + s * (N - 1)) = (x + s * (N - 1)) + N * (N - 1) by omega, Nat.add_mul_mod_self_left]
theorem bks_1 {N x : Nat} (h : 1 ≤ N) : bks N 1 x = bk N x := by
  rw [show 1 = 0 + 1 from rfl, bks_succ h, bks_0 (bk_lt h)]
/-- the first place back, from k on, of c, where the two words differ -/
def fdk (L T : Nat → Nat) (N M i j : Nat) : Nat → Nat → Nat
  | 0, k => k
  | c + 1, k => if L (bks N k i) = T (bks M k j) then fdk L T N M i j c (k + 1) else k
theorem fdk_spec {L T : Nat → Nat} {N M i j : Nat} : ∀ (c k : Nat), k ≤ fdk L T N M i j c k ∧ fdk L T N M i j c k ≤ k + c ∧ (∀ s, k ≤ s → s < fdk L T N M i j c k → L (bks N s i) = T (bks M s j)) ∧ (fdk L T N M i j c k < k + c → ¬ L (bks N (fdk L T N M i j c k) i) = T (bks M (fdk L T N M i j c k) j))
  | 0, k => ⟨Nat.le_refl _, Nat.le_refl _, fun s h1 h2 => by rw [fdk] at h2; omega, fun h => by rw [fdk] at h; omega⟩
  | c + 1, k => by
    obtain ⟨h1, h2, h3, h4⟩ := fdk_spec (L := L) (T := T) (N := N) (M := M) (i := i) (j := j) c (k + 1)
    rw [fdk]
    by_cases e : L (bks N k i) = T (bks M k j)
    · rw [if_pos e]
      refine ⟨by omega, by omega, fun s q1 q2 => ?_, fun q => h4 (by omega)⟩
      by_cases qs : s = k
      · rw [qs]
        exact e
      · exact h3 s (by omega) q2
    · rw [if_neg e]
      exact ⟨Nat.le_refl _, by omega, fun s q1 q2 => by omega, fun _ => e⟩
/-- so many places back at most -/
theorem fine {L T : Nat → Nat} {N M i j : Nat} (hi : i < N) (hj : j < M) (h : ∀ s, 1 ≤ s → s ≤ N + M → L (bks N s i) = T (bks M s j)) : L i = T j := by
  have a1 := h N (by omega) (by omega)
  have a2 := h M (by omega) (by omega)
  have a3 := h (N + M) (by omega) (by omega)
  have e1 : bks N N i = i := by
    have := bks_N (N := N) (s := 0) (x := i)
    rw [Nat.add_zero, bks_0 hi] at this
    exact this
  have e2 : bks M M j = j := by
    have := bks_N (N := M) (s := 0) (x := j)
    rw [Nat.add_zero, bks_0 hj] at this
    exact this
  rw [bks_N, Nat.add_comm N M, bks_N] at a3
  rw [e1] at a1
  rw [e2] at a2
  rw [a1, ← a3, a2]
/-- the two words differ at k places back for the first time -/
def FD (L T : Nat → Nat) (N M i j k : Nat) : Prop := 1 ≤ k ∧ (∀ s, 1 ≤ s → s < k → L (bks N s i) = T (bks M s j)) ∧ ¬ L (bks N k i) = T (bks M k j)
theorem FD_one {L T : Nat → Nat} {N M i j k l : Nat} (h : FD L T N M i j k) (h2 : FD L T N M i j l) : k = l := by
  rcases Nat.lt_trichotomy k l with q | q | q
  · exact absurd (h2.2.1 k h.1 q) h.2.2
  · exact q
  · exact absurd (h.2.1 l h2.1 q) h2.2.2
theorem brk_FD {L T : Nat → Nat} {N M : Nat} (hN : 1 ≤ N) (hM : 1 ≤ M) : ∀ (c x y z : Nat), brk L T N M c x y = some z → ∃ k, z = bks N k x ∧ FD L T N M x y k
  | 0, x, y, z, h => by cases h
  | c + 1, x, y, z, h => by
    rw [brk] at h
    by_cases he : L (bk N x) = T (bk M y)
    · rw [if_pos he] at h
      obtain ⟨k, h1, h2, h3, h4⟩ := brk_FD hN hM c _ _ z h
      refine ⟨k + 1, by rw [bks_succ hN]; exact h1, by omega, fun s q1 q2 => ?_, by rw [bks_succ hN, bks_succ hM]; exact h4⟩
      by_cases qs : s = 1
      · rw [qs, bks_1 hN, bks_1 hM]
        exact he
      · obtain ⟨s, rfl⟩ : ∃ w, s = w + 1 := ⟨s - 1, by omega⟩
        rw [bks_succ hN, bks_succ hM]
        exact h3 s (by omega) (by omega)
    · rw [if_neg he] at h
      exact ⟨1, by rw [bks_1 hN]; exact (Option.some.inj h).symm, Nat.le_refl 1, fun s q1 q2 => by omega, by rw [bks_1 hN, bks_1 hM]; exact he⟩
/-- u at i and v at j cross, k places long -/
def CK (L T : Nat → Nat) (N M i j k : Nat) : Prop := ¬ L i = T j ∧ (∀ s, 1 ≤ s → s < k → L (bks N s i) = T (bks M s j)) ∧ L (bks N k i) = T j ∧ T (bks M k j) = L i
def XC (L T : Nat → Nat) (N M i j : Nat) : Prop := ∃ k, 1 ≤ k ∧ CK L T N M i j k
theorem CK_FD {L T : Nat → Nat} {N M i j k : Nat} (h1 : 1 ≤ k) (h : CK L T N M i j k) : FD L T N M i j k := ⟨h1, h.2.1, fun q => h.1 (by rw [← h.2.2.2, ← q, h.2.2.1])⟩
theorem FD_CK {L T : Nat → Nat} {N M i j k : Nat} (hL : LW N L) (hT : LW M T) (hi : i < N) (hj : j < M) (hne : ¬ L i = T j) (h : FD L T N M i j k) (hx : ¬ L (bks N k i) = L i) : CK L T N M i j k := by
  have a1 := hL.2.2 i hi
  have a2 := hT.2.2 j hj
  have a3 := hL.2.2 (bks N k i) (bks_lt hL.1)
  have a4 := hT.2.2 (bks M k j) (bks_lt hT.1)
  have a5 := h.2.2
  exact ⟨hne, h.2.1, by omega, by omega⟩
theorem xcr_iff {L T : Nat → Nat} {N M i j : Nat} (hL : LW N L) (hT : LW M T) (hi : i < N) (hj : j < M) : xcr L T N M i j = true ↔ XC L T N M i j := by
  have a1 := hL.2.2 i hi
  have a2 := hT.2.2 j hj
  by_cases hne : L i = T j
  · rw [xcr_ne hne]
    exact ⟨fun q => (by cases q), fun ⟨k, _, q⟩ => absurd hne q.1⟩
  · obtain ⟨z, hz⟩ := brk_ex hL.1 hT.1 hi hj hne
    obtain ⟨k, hk, hF⟩ := brk_FD hL.1 hT.1 _ _ _ _ hz
    have a3 := hL.2.2 (bks N k i) (bks_lt hL.1)
    have e : xcr L T N M i j = (decide (¬ L i = T j) && decide (L z = T j)) := by
      unfold xcr
      rw [hz]
    rw [e, Bool.and_eq_true, decide_eq_true_iff, decide_eq_true_iff, hk]
    constructor
    · intro ⟨q1, q2⟩
      exact ⟨k, hF.1, FD_CK hL hT hi hj q1 hF (by omega)⟩
    · intro ⟨l, l1, q⟩
      have el := FD_one hF (CK_FD l1 q)
      subst el
      exact ⟨hne, q.2.2.1⟩
theorem fdk_FD {L T : Nat → Nat} {N M i j : Nat} (hi : i < N) (hj : j < M) (hne : ¬ L i = T j) : FD L T N M i j (fdk L T N M i j (N + M) 1) ∧ fdk L T N M i j (N + M) 1 ≤ N + M := by
  obtain ⟨h1, h2, h3, h4⟩ := fdk_spec (L := L) (T := T) (N := N) (M := M) (i := i) (j := j) (N + M) 1
  have h5 : fdk L T N M i j (N + M) 1 ≤ N + M := by
    refine Nat.le_of_not_lt (fun q => hne (fine hi hj (fun s s1 s2 => h3 s s1 (by omega))))
  exact ⟨⟨h1, h3, h4 (by omega)⟩, h5⟩
theorem q_cross44 {L T : Nat → Nat} {N M i j : Nat} (hL : LW N L) (hT : LW M T) (hi : i < N) (hj : j < M) : ∀ (c k n : Nat), k + c = N + M + 1 → c < n → P_crossings_44 (cw N L) (cw M T) (nI i) (nI j) n (nI k) = some (nI (fdk L T N M i j c k))
  | 0, k, n, hk, hn => by
    obtain ⟨n, rfl⟩ : ∃ z, n = z + 1 := ⟨n - 1, by omega⟩
    have h2 := hL.2.1
    have h4 := hT.2.1
    rw [P_crossings_44, q_size (by omega), ob, q_size (by omega), ob, nI_add, if_pos (nI_lt (by omega) (by omega)), fdk]
  | c + 1, k, n, hk, hn => by
    obtain ⟨n, rfl⟩ : ∃ z, n = z + 1 := ⟨n - 1, by omega⟩
    have h2 := hL.2.1
    have h4 := hT.2.1
    have a1 := hL.2.2 _ (bks_lt (s := k) (x := i) hL.1)
    have a2 := hT.2.2 _ (bks_lt (s := k) (x := j) hT.1)
    rw [P_crossings_44, q_size (by omega), ob, q_size (by omega), ob, nI_add, if_neg (fun q => by have := (nI_ltI (by omega) (by omega)).mp q; omega), q_back hL hi (by omega), ob, q_back hT hj (by omega), ob, fdk, nI_1]
    by_cases e : L (bks N k i) = T (bks M k j)
    · rw [if_pos (by rw [e]), if_pos e]
      exact q_cross44 hL hT hi hj c (k + 1) n (by omega) (by omega)
    · rw [if_neg (fun q => e ((nI_eq (by omega) (by omega)).mp q)), if_neg e]
theorem q_crossIn {L T : Nat → Nat} {N M i : Nat} (hL : LW N L) (hT : LW M T) (hi : i < N) (a : Nat) : ∀ (j k n : Nat), k + j = M → j < n → P_crossings_15 (cw N L) (cw M T) (nI i) n (nI (a + cnt (xcr L T N M i) k)) (nI k) = some (nI (a + cnt (xcr L T N M i) M))
  | 0, k, n, hk, hn => by
    obtain ⟨n, rfl⟩ : ∃ z, n = z + 1 := ⟨n - 1, by omega⟩
    have h4 := hT.2.1
    rw [P_crossings_15, q_size (by omega), ob, if_pos (nI_le (by omega) (by omega)), show M = k by omega]
  | j + 1, k, n, hk, hn => by
    obtain ⟨n, rfl⟩ : ∃ z, n = z + 1 := ⟨n - 1, by omega⟩
    have h2 := hL.2.1
    have h4 := hT.2.1
    have l1 := hL.2.2 i hi
    have l2 := hT.2.2 k (by omega)
    have ih := q_crossIn hL hT hi a j (k + 1) n (by omega) (by omega)
    rw [cnt] at ih
    rw [P_crossings_15, q_size (by omega), ob, if_neg (nI_ge (by omega) (by omega)), q_bit (by omega) hL.2.2 hi, ob, q_bit (by omega) hT.2.2 (by omega), ob, nI_1]
    by_cases he : L i = T k
    · rw [if_pos (by rw [he])]
      rw [xcr_ne he, if_neg (by decide), Nat.add_zero] at ih
      exact ih
    · obtain ⟨hF, hle⟩ := fdk_FD hi (show k < M by omega) he
      have l3 := hL.2.2 _ (bks_lt (s := fdk L T N M i k (N + M) 1) (x := i) hL.1)
      rw [if_neg (fun q => he ((nI_eq (by omega) (by omega)).mp q)), show P_crossings_44 (cw N L) (cw M T) (nI i) (nI k) FU 1 = _ from q_cross44 hL hT hi (by omega) (N + M) 1 FU (by omega) (by unfold FU; omega), ob, q_back hL hi (by omega), ob, ob]
      by_cases hc : L (bks N (fdk L T N M i k (N + M) 1) i) = L i
      · have hx : ¬ xcr L T N M i k = true := fun q => by
          obtain ⟨l, l4, q⟩ := (xcr_iff hL hT hi (by omega)).mp q
          have el := FD_one hF (CK_FD l4 q)
          rw [el] at hc
          exact he (by rw [← hc, q.2.2.1])
        rw [if_neg hx, Nat.add_zero] at ih
        rw [if_pos (by rw [hc]), n_a0]
        exact ih
      · have hx : xcr L T N M i k = true := (xcr_iff hL hT hi (by omega)).mpr ⟨_, hF.1, FD_CK hL hT hi (by omega) he hF hc⟩
        rw [if_pos hx] at ih
        rw [if_neg (fun q => hc ((nI_eq (by omega) (by omega)).mp q)), nI_1]
        exact ih
theorem q_crossOut {L T : Nat → Nat} {N M : Nat} (hL : LW N L) (hT : LW M T) : ∀ (j k n : Nat), k + j = N → j < n → P_crossings_4 (cw N L) (cw M T) n (nI (sm (fun i => cnt (xcr L T N M i) M) k)) (nI k) = some (nI (crs L T N M))
  | 0, k, n, hk, hn => by
    obtain ⟨n, rfl⟩ : ∃ z, n = z + 1 := ⟨n - 1, by omega⟩
    have h2 := hL.2.1
    rw [P_crossings_4, q_size (by omega), ob, if_pos (nI_le (by omega) (by omega)), show k = N by omega]
    rfl
  | j + 1, k, n, hk, hn => by
    obtain ⟨n, rfl⟩ : ∃ z, n = z + 1 := ⟨n - 1, by omega⟩
    have h2 := hL.2.1
    have h4 := hT.2.1
    have hin := q_crossIn (i := k) hL hT (by omega) (sm (fun i => cnt (xcr L T N M i) M) k) M 0 FU (by omega) (by unfold FU; omega)
    rw [P_crossings_4, q_size (by omega), ob, if_neg (nI_ge (by omega) (by omega)), nI_1]
    show Option.bind (P_crossings_15 (cw N L) (cw M T) (nI k) FU (nI (sm (fun i => cnt (xcr L T N M i) M) k + cnt (xcr L T N M k) 0)) (nI 0)) _ = _
    rw [hin, ob]
    exact q_crossOut hL hT j (k + 1) n (by omega) (by omega)
theorem q_crossings {L T : Nat → Nat} {N M : Nat} (hL : LW N L) (hT : LW M T) : P_crossings (cw N L) (cw M T) = some (nI (crs L T N M)) := by
  have h2 := hL.2.1
  have := q_crossOut hL hT N 0 FU (by omega) (by unfold FU; omega)
  unfold P_crossings
  show Option.bind (P_crossings_4 (cw N L) (cw M T) FU (nI (sm (fun i => cnt (xcr L T N M i) M) 0)) (nI 0)) _ = _
  rw [this]
  rfl
-- SUMS
theorem sm_congr {f g : Nat → Nat} : ∀ {n : Nat}, (∀ i, i < n → f i = g i) → sm f n = sm g n
  | 0, _ => rfl
  | n + 1, h => by rw [sm, sm, sm_congr (n := n) (fun i hi => h i (by omega)), h n (by omega)]
theorem sm_split (f : Nat → Nat) (a : Nat) : ∀ b : Nat, sm f (a + b) = sm f a + sm (fun i => f (a + i)) b
  | 0 => rfl
  | b + 1 => by
    rw [← Nat.add_assoc, sm, sm, sm_split f a b, Nat.add_assoc]
theorem sm_plus (f g : Nat → Nat) : ∀ n : Nat, sm (fun i => f i + g i) n = sm f n + sm g n
  | 0 => rfl
  | n + 1 => by
    rw [sm, sm, sm, sm_plus f g n]
    omega
theorem sm_0 : ∀ n : Nat, sm (fun _ => 0) n = 0
  | 0 => rfl
  | n + 1 => by rw [sm, sm_0 n]
theorem sm_swap (f : Nat → Nat → Nat) (m : Nat) : ∀ n : Nat, sm (fun i => sm (fun j => f i j) m) n = sm (fun j => sm (fun i => f i j) n) m
  | 0 => (sm_0 m).symm
  | n + 1 => by
    rw [sm, sm_swap f m n, ← sm_plus]
    rfl
theorem sm_rev : ∀ (n : Nat) (f : Nat → Nat), sm (fun i => f (n - 1 - i)) n = sm f n
  | 0, f => rfl
  | n + 1, f => by
    have h := sm_split (fun i => f (n + 1 - 1 - i)) 1 n
    rw [Nat.add_comm 1 n] at h
    rw [h]
    show _ = sm f n + f n
    rw [← sm_rev n f, Nat.add_comm]
    congr 1
    · refine sm_congr (fun i hi => ?_)
      congr 1
      omega
    · show 0 + f (n + 1 - 1 - 0) = f n
      rw [Nat.zero_add]
      rfl
theorem sm_rot {n : Nat} (hn : 1 ≤ n) (k : Nat) (f : Nat → Nat) : sm (fun i => f ((k + i) % n)) n = sm f n := by
  have hk := Nat.mod_lt k hn
  have e1 : sm (fun i => f ((k + i) % n)) n = sm (fun i => f ((k % n + i) % n)) n := sm_congr (fun i _ => by rw [Nat.mod_add_mod])
  rw [e1]
  generalize k % n = k at hk
  have a1 := sm_split (fun i => f ((k + i) % n)) (n - k) k
  have a2 := sm_split f k (n - k)
  rw [show n - k + k = n by omega] at a1
  rw [show k + (n - k) = n by omega] at a2
  rw [a1, a2, Nat.add_comm]
  congr 1
  · refine sm_congr (fun i hi => ?_)
    show f ((k + (n - k + i)) % n) = f i
    rw [show k + (n - k + i) = i + n by omega, Nat.add_mod_right, Nat.mod_eq_of_lt (by omega)]
  · refine sm_congr (fun i hi => ?_)
    show f ((k + i) % n) = f (k + i)
    rw [Nat.mod_eq_of_lt (by omega)]
noncomputable def ind (P : Prop) : Nat := @ite Nat P (Classical.propDecidable P) 1 0
theorem ind_t {P : Prop} (h : P) : ind P = 1 := by
  unfold ind
  rw [if_pos h]
theorem ind_f {P : Prop} (h : ¬ P) : ind P = 0 := by
  unfold ind
  rw [if_neg h]
theorem ind_iff {P Q : Prop} (h : P ↔ Q) : ind P = ind Q := by rw [propext h]
theorem ind_le (P : Prop) : ind P ≤ 1 := by
  by_cases h : P
  · rw [ind_t h]
    exact Nat.le_refl 1
  · rw [ind_f h]
    exact Nat.zero_le 1
theorem sm_one (k : Nat) : ∀ n : Nat, sm (fun i => ind (i = k)) n = if k < n then 1 else 0
  | 0 => by rw [sm, if_neg (by omega)]
  | n + 1 => by
    rw [sm, sm_one k n]
    by_cases q : n = k
    · subst q
      rw [if_neg (by omega), ind_t rfl, if_pos (by omega)]
    · rw [ind_f q]
      by_cases r : k < n
      · rw [if_pos r, if_pos (by omega)]
      · rw [if_neg r, if_neg (by omega)]
theorem ind_sum {P : Prop} {Q : Nat → Prop} {n : Nat} (h1 : P → ∃ k, k < n ∧ Q k) (h2 : ∀ k, Q k → P) (h3 : ∀ k l, Q k → Q l → k = l) : ind P = sm (fun k => ind (Q k)) n := by
  by_cases hp : P
  · obtain ⟨k, hk, hq⟩ := h1 hp
    have e : sm (fun l => ind (Q l)) n = sm (fun l => ind (l = k)) n := sm_congr (fun l _ => ind_iff ⟨fun q => h3 l k q hq, fun q => by rw [q]; exact hq⟩)
    rw [ind_t hp, e, sm_one, if_pos hk]
  · have e : sm (fun l => ind (Q l)) n = sm (fun _ => 0) n := sm_congr (fun l _ => ind_f (fun q => hp (h2 l q)))
    rw [ind_f hp, e, sm_0]
theorem cnt_sm {f : Nat → Bool} {P : Nat → Prop} : ∀ {n : Nat}, (∀ j, j < n → (f j = true ↔ P j)) → cnt f n = sm (fun j => ind (P j)) n
  | 0, _ => rfl
  | n + 1, h => by
    rw [cnt, sm, cnt_sm (n := n) (fun j hj => h j (by omega))]
    congr 1
    by_cases q : f n = true
    · rw [if_pos q, ind_t ((h n (by omega)).mp q)]
    · rw [if_neg q, ind_f (fun w => q ((h n (by omega)).mpr w))]
theorem crs_ind {L T : Nat → Nat} {N M : Nat} (hL : LW N L) (hT : LW M T) : crs L T N M = sm (fun i => sm (fun j => ind (XC L T N M i j)) M) N := sm_congr (fun i hi => cnt_sm (fun j hj => xcr_iff hL hT hi hj))
theorem sm_le {f : Nat → Nat} {b : Nat} : ∀ {n : Nat}, (∀ i, i < n → f i ≤ b) → sm f n ≤ n * b
  | 0, _ => by rw [sm]; omega
  | n + 1, h => by
    have h1 := sm_le (n := n) (fun i hi => h i (by omega))
    have h2 := h n (by omega)
    rw [sm, Nat.succ_mul]
    omega
theorem crs_le {L T : Nat → Nat} {N M : Nat} (hL : LW N L) (hT : LW M T) : crs L T N M ≤ 400 := by
  rw [crs_ind hL hT]
  have h : sm (fun i => sm (fun j => ind (XC L T N M i j)) M) N ≤ N * (M * 1) := sm_le (fun i _ => sm_le (fun j _ => ind_le _))
  have h2 := nm400 hL.2.1 hT.2.1
  rw [Nat.mul_one] at h
  omega
theorem crs_sym {L T : Nat → Nat} {N M : Nat} (hL : LW N L) (hT : LW M T) : crs T L M N = crs L T N M := by
  rw [crs_ind hL hT, crs_ind hT hL, sm_swap]
  refine sm_congr (fun i _ => sm_congr (fun j _ => ind_iff ?_))
  have key : ∀ {L T : Nat → Nat} {N M i j : Nat}, XC T L M N j i → XC L T N M i j := fun ⟨k, k1, h1, h2, h3, h4⟩ => ⟨k, k1, fun q => h1 q.symm, fun s s1 s2 => (h2 s s1 s2).symm, h4, h3⟩
  exact ⟨key, key⟩
theorem bks_rot {N k s i : Nat} : (k + bks N s i) % N = bks N s ((k + i) % N) := by
  unfold bks
  rw [Nat.add_mod_mod, Nat.mod_add_mod, Nat.add_assoc]
theorem crs_rot {L T : Nat → Nat} {N M : Nat} (hL : LW N L) (hT : LW M T) (k : Nat) : crs (rot N k L) T N M = crs L T N M := by
  rw [crs_ind hL hT, crs_ind (rot_LW hL) hT, ← sm_rot hL.1 k (fun i => sm (fun j => ind (XC L T N M i j)) M)]
  refine sm_congr (fun i _ => sm_congr (fun j _ => ind_iff ?_))
  have e : ∀ s, rot N k L (bks N s i) = L (bks N s ((k + i) % N)) := fun s => by
    unfold rot
    rw [bks_rot]
  have e0 : rot N k L i = L ((k + i) % N) := rfl
  unfold XC CK
  rw [e0]
  simp only [e]
theorem crs_cpl {L T : Nat → Nat} {N M : Nat} (hL : LW N L) (hT : LW M T) : crs (cpl L) (cpl T) N M = crs L T N M := by
  rw [crs_ind hL hT, crs_ind (cpl_LW hL) (cpl_LW hT)]
  refine sm_congr (fun i hi => sm_congr (fun j hj => ind_iff ?_))
  have key : ∀ a b, a < 2 → b < 2 → ((1 - a = 1 - b) = (a = b)) := fun a b ha hb => propext (by omega)
  have li := hL.2.2 i hi
  have lj := hT.2.2 j hj
  have lb : ∀ s, L (bks N s i) < 2 := fun s => hL.2.2 _ (bks_lt hL.1)
  have lc : ∀ s, T (bks M s j) < 2 := fun s => hT.2.2 _ (bks_lt hT.1)
  unfold XC CK cpl
  simp only [key _ _ li lj, key _ _ (lb _) (lc _), key _ _ (lb _) lj, key _ _ (lc _) li]
theorem crs_k {L T : Nat → Nat} {N M : Nat} (hL : LW N L) (hT : LW M T) : crs L T N M = sm (fun k => sm (fun i => sm (fun j => ind (CK L T N M i j (k + 1))) M) N) (N + M) := by
  rw [crs_ind hL hT, sm_swap (fun k i => sm (fun j => ind (CK L T N M i j (k + 1))) M) N]
  refine sm_congr (fun i hi => ?_)
  rw [sm_swap (fun k j => ind (CK L T N M i j (k + 1))) M]
  refine sm_congr (fun j hj => ?_)
  refine ind_sum (Q := fun k => CK L T N M i j (k + 1)) ?_ (fun k q => ⟨k + 1, by omega, q⟩) (fun k l q r => ?_)
  · intro ⟨k, k1, q⟩
    obtain ⟨hF, hle⟩ := fdk_FD hi hj q.1
    have e := FD_one (CK_FD k1 q) hF
    exact ⟨k - 1, by omega, by rw [show k - 1 + 1 = k by omega]; exact q⟩
  · have := FD_one (CK_FD (by omega) q) (CK_FD (by omega) r)
    omega
theorem rev_bks {N s i : Nat} (hi : i < N) : N - 1 - bks N s i = (N - 1 - i + s) % N := by
  obtain ⟨N, rfl⟩ : ∃ z, N = z + 1 := ⟨N - 1, by omega⟩
  have hb : bks (N + 1) s i < N + 1 := bks_lt (by omega)
  have e : ((N + 1 - 1 - i + s) + bks (N + 1) s i) % (N + 1) = N := by
    unfold bks
    rw [Nat.add_mod_mod, show N + 1 - 1 = N by omega, show N - i + s + (i + s * N) = N + s * (N + 1) by rw [Nat.mul_add]; omega, Nat.add_mul_mod_self_right, Nat.mod_eq_of_lt (by omega)]
  have h1 := Nat.mod_lt (N + 1 - 1 - i + s) (show 0 < N + 1 by omega)
  rw [← Nat.mod_add_mod] at e
  generalize (N + 1 - 1 - i + s) % (N + 1) = u at e h1
  generalize bks (N + 1) s i = v at e hb
  by_cases q : u + v < N + 1
  · rw [Nat.mod_eq_of_lt q] at e
    omega
  · rw [Nat.mod_eq_sub_mod (by omega), Nat.mod_eq_of_lt (by omega)] at e
    omega
theorem bks_fwd {N a k s : Nat} (hN : 1 ≤ N) (hs : s ≤ k) : bks N s ((a + k) % N) = (a + (k - s)) % N := by
  unfold bks
  rw [Nat.mod_add_mod]
  obtain ⟨N, rfl⟩ : ∃ z, N = z + 1 := ⟨N - 1, by omega⟩
  obtain ⟨k, rfl⟩ : ∃ z, k = s + z := ⟨k - s, by omega⟩
  rw [show N + 1 - 1 = N by omega, show s + k - s = k by omega, show a + (s + k) + s * N = (a + k) + s * (N + 1) by rw [Nat.mul_add]; omega, Nat.add_mul_mod_self_right]
theorem CK_rev {L T : Nat → Nat} {N M i j k : Nat} (hi : i < N) (hj : j < M) : CK (rev N L) (rev M T) N M i j k ↔ CK L T N M ((k + (N - 1 - i)) % N) ((k + (M - 1 - j)) % M) k := by
  have e1 : ∀ s, rev N L (bks N s i) = L ((N - 1 - i + s) % N) := fun s => by
    unfold rev
    rw [rev_bks hi]
  have e2 : ∀ s, rev M T (bks M s j) = T ((M - 1 - j + s) % M) := fun s => by
    unfold rev
    rw [rev_bks hj]
  have e3 : rev N L i = L (N - 1 - i) := rfl
  have e4 : rev M T j = T (M - 1 - j) := rfl
  have f1 : ∀ s, s ≤ k → bks N s ((k + (N - 1 - i)) % N) = (N - 1 - i + (k - s)) % N := fun s hs => by rw [Nat.add_comm k, bks_fwd (by omega) hs]
  have f2 : ∀ s, s ≤ k → bks M s ((k + (M - 1 - j)) % M) = (M - 1 - j + (k - s)) % M := fun s hs => by rw [Nat.add_comm k, bks_fwd (by omega) hs]
  have g1 : (N - 1 - i + (k - k)) % N = N - 1 - i := by rw [Nat.sub_self, Nat.add_zero, Nat.mod_eq_of_lt (by omega)]
  have g2 : (M - 1 - j + (k - k)) % M = M - 1 - j := by rw [Nat.sub_self, Nat.add_zero, Nat.mod_eq_of_lt (by omega)]
  unfold CK
  rw [e1, e2, e3, e4, f1 k (Nat.le_refl k), f2 k (Nat.le_refl k), g1, g2, Nat.add_comm k, Nat.add_comm k]
  constructor
  · intro ⟨h1, h2, h3, h4⟩
    refine ⟨fun q => h1 (by rw [← h4, ← q, h3]), fun s s1 s2 => ?_, h4.symm, h3.symm⟩
    have := h2 (k - s) (by omega) (by omega)
    rw [e1, e2] at this
    rw [Nat.add_comm (N - 1 - i) k, Nat.add_comm (M - 1 - j) k, f1 s (by omega), f2 s (by omega)]
    exact this
  · intro ⟨h1, h2, h3, h4⟩
    refine ⟨fun q => h1 (by rw [← h4, ← q, h3]), fun s s1 s2 => ?_, h4.symm, h3.symm⟩
    have := h2 (k - s) (by omega) (by omega)
    rw [Nat.add_comm (N - 1 - i) k, Nat.add_comm (M - 1 - j) k, f1 (k - s) (by omega), f2 (k - s) (by omega), show k - (k - s) = s by omega] at this
    rw [e1, e2]
    exact this
theorem crs_rev {L T : Nat → Nat} {N M : Nat} (hL : LW N L) (hT : LW M T) : crs (rev N L) (rev M T) N M = crs L T N M := by
  rw [crs_k hL hT, crs_k (rev_LW hL) (rev_LW hT)]
  refine sm_congr (fun k _ => ?_)
  rw [← sm_rot hL.1 (k + 1) (fun i => sm (fun j => ind (CK L T N M i j (k + 1))) M), ← sm_rev N (fun i => sm (fun j => ind (CK L T N M ((k + 1 + i) % N) j (k + 1))) M)]
  refine sm_congr (fun i hi => ?_)
  show _ = sm (fun j => ind (CK L T N M ((k + 1 + (N - 1 - i)) % N) j (k + 1))) M
  rw [← sm_rot hT.1 (k + 1) (fun j => ind (CK L T N M ((k + 1 + (N - 1 - i)) % N) j (k + 1))), ← sm_rev M (fun j => ind (CK L T N M ((k + 1 + (N - 1 - i)) % N) ((k + 1 + j) % M) (k + 1)))]
  exact sm_congr (fun j hj => ind_iff (CK_rev hi hj))
theorem cat_mod {N x : Nat} {L : Nat → Nat} (hx : x < N + N) : cat N L L x = L (x % N) := by
  unfold cat
  by_cases h : x < N
  · rw [if_pos h, Nat.mod_eq_of_lt h]
  · rw [if_neg h, Nat.mod_eq_sub_mod (by omega), Nat.mod_eq_of_lt (by omega)]
theorem bks_2 {N s i : Nat} (hN : 1 ≤ N) : bks (N + N) s i % N = bks N s (i % N) := by
  unfold bks
  rw [show N + N = N * 2 by omega, Nat.mod_mul_right_mod, Nat.mod_add_mod]
  have e : s * (N * 2 - 1) = s * (N - 1) + N * s := by
    obtain ⟨N, rfl⟩ : ∃ z, N = z + 1 := ⟨N - 1, by omega⟩
    rw [show (N + 1) * 2 - 1 = N + (N + 1) by omega, show N + 1 - 1 = N by omega, Nat.mul_add, Nat.mul_comm s (N + 1)]
  rw [e, ← Nat.add_assoc, Nat.add_mul_mod_self_left]
theorem cat_LW {N M : Nat} {L T : Nat → Nat} (hL : LW N L) (hT : LW M T) (h : N + M ≤ 20) : LW (N + M) (cat N L T) := ⟨by have := hL.1; omega, h, cat_lt hL.2.2 hT.2.2⟩
theorem crs_two {L T : Nat → Nat} {N M : Nat} (hL : LW N L) (hT : LW M T) (h : N + N ≤ 20) : crs (cat N L L) T (N + N) M = 2 * crs L T N M := by
  have hN := hL.1
  rw [crs_ind hL hT, crs_ind (cat_LW hL hL h) hT]
  have key : ∀ i, i < N + N → sm (fun j => ind (XC (cat N L L) T (N + N) M i j)) M = sm (fun j => ind (XC L T N M (i % N) j)) M := fun i hi => by
    refine sm_congr (fun j _ => ind_iff ?_)
    have e : ∀ s, cat N L L (bks (N + N) s i) = L (bks N s (i % N)) := fun s => by rw [cat_mod (bks_lt (by omega)), bks_2 hN]
    have e0 : cat N L L i = L (i % N) := cat_mod hi
    unfold XC CK
    rw [e0]
    simp only [e]
  rw [sm_congr key, sm_split, Nat.two_mul]
  congr 1
  · refine sm_congr (fun i hi => ?_)
    rw [Nat.mod_eq_of_lt hi]
  · refine sm_congr (fun i hi => ?_)
    rw [Nat.add_mod_left, Nat.mod_eq_of_lt hi]
theorem sm_even {f : Nat → Nat → Nat} (h0 : ∀ i, f i i = 0) (hs : ∀ i j, f i j = f j i) : ∀ n : Nat, sm (fun i => sm (fun j => f i j) n) n % 2 = 0
  | 0 => rfl
  | n + 1 => by
    have ih := sm_even h0 hs n
    have e1 : sm (fun i => sm (fun j => f i j) (n + 1)) n = sm (fun i => sm (fun j => f i j) n) n + sm (fun i => f n i) n := by
      rw [← sm_plus]
      refine sm_congr (fun i _ => ?_)
      rw [sm, hs i n]
    rw [sm, e1, sm, h0 n]
    omega
theorem crs_even {L T : Nat → Nat} {N k : Nat} (hL : LW N L) (hT : LW N T) (h : ∀ i, i < N → T i = rot N k L i) : crs L T N N % 2 = 0 := by
  have e : crs L T N N = crs L (rot N k L) N N := by
    rw [crs_ind hL hT, crs_ind hL (rot_LW hL)]
    refine sm_congr (fun i _ => sm_congr (fun j hj => ind_iff ?_))
    have e1 : ∀ s, T (bks N s j) = rot N k L (bks N s j) := fun s => h _ (bks_lt hL.1)
    unfold XC CK
    rw [h j hj]
    simp only [e1]
  rw [e, crs_sym (rot_LW hL) hL, crs_rot hL hL, crs_ind hL hL]
  have key : ∀ {i j : Nat}, XC L L N N j i → XC L L N N i j := fun ⟨k, k1, h1, h2, h3, h4⟩ => ⟨k, k1, fun q => h1 q.symm, fun s s1 s2 => (h2 s s1 s2).symm, h4, h3⟩
  exact sm_even (f := fun i j => ind (XC L L N N i j)) (fun i => ind_f (fun ⟨k, k1, q⟩ => q.1 rfl)) (fun i j => ind_iff ⟨key, key⟩) N
