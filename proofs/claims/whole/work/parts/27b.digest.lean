-- digest: the numbers of a road
theorem mix_w (l : Int64) (x : Int32) : P4_mix l x = some ((31 * l) + Int32.toInt64 x) := rfl
theorem mix_m (l x : Int64) : P5_mix l x = some ((31 * l) + x) := rfl
section
variable {rc roads : Int32} {wn : Nat} {wv : Nat → Nat → Int32} {lengths signs : Nat → Int32} {k N : Nat} {L : Nat → Nat}
theorem n_road (h : SimRoads rc wn wv roads lengths signs) (hR : RD rc roads wn wv lengths signs k N L) {i : Nat} (hi : i ≤ 9) (os tA tB tC tD : Int32) (at_ other : Nat → Int32) : ∃ a r, P4_road rc wn wv (nI k) (nI i) = some a ∧ P5_roadNow lengths signs at_ os other tA tB tC tD (nI k) (nI i) = some r ∧ a = r.1 := by
  obtain ⟨a, b, h1, h2, h3, -⟩ := c_road (size := 0) (otherSize := os) (tA := tA) (tB := tB) (tC := tC) (tD := tD) (at_ := at_) (other := other) h (nI k) (nI i)
  unfold P5_road at h2
  rw [hR.2.2.1, ob, if_neg (show ¬ (1 : Int32) = 0 by decide), show P5_within (nI i) 0 9 = some 1 from wi1 (m := 9) hi (by omega), ob, if_neg (show ¬ (1 : Int32) = 0 by decide)] at h2
  obtain ⟨r, r1, r2⟩ := obx h2
  rw [← Option.some.inj r2] at h3
  exact ⟨a, r, h1, r1, h3⟩
theorem h_road_loop (h : SimRoads rc wn wv roads lengths signs) (hR : RD rc roads wn wv lengths signs k N L) : ∀ (j i f g : Nat) (l : Int64) (os tA tB tC tD : Int32) (at_ other : Nat → Int32), i + j = 10 → j < f → j < g → ∃ u r, P4_hashRoad_6 rc wn wv (nI k) f l (nI i) = some u ∧ P5_mixRoad_2 lengths signs (nI k) g at_ os other tA tB tC tD l (nI i) = some r ∧ u = r.2.2.2
  | 0, i, f, g, l, os, tA, tB, tC, tD, at_, other, hi, hf, hg => by
    obtain ⟨f, rfl⟩ : ∃ w, f = w + 1 := ⟨f - 1, by omega⟩
    obtain ⟨g, rfl⟩ : ∃ w, g = w + 1 := ⟨g - 1, by omega⟩
    have h10 : (10 : Int32) ≤ nI i := nI_le (a := 10) (by omega) (by omega)
    rw [P4_hashRoad_6, if_pos h10, P5_mixRoad_2, if_pos h10]
    exact ⟨_, _, rfl, rfl, rfl⟩
  | j + 1, i, f, g, l, os, tA, tB, tC, tD, at_, other, hi, hf, hg => by
    obtain ⟨f, rfl⟩ : ∃ w, f = w + 1 := ⟨f - 1, by omega⟩
    obtain ⟨g, rfl⟩ : ∃ w, g = w + 1 := ⟨g - 1, by omega⟩
    have h10 : ¬ (10 : Int32) ≤ nI i := nI_ge (b := 10) (by omega) (by omega)
    obtain ⟨a, r, r1, r2, r3⟩ := n_road h hR (show i ≤ 9 by omega) os tA tB tC tD at_ other
    rw [P4_hashRoad_6, if_neg h10, r1, ob, mix_w, ob, P5_mixRoad_2, if_neg h10, r2, ob, mix_m, ob, nI_1, r3]
    exact h_road_loop h hR j (i + 1) f g _ _ _ _ _ _ _ _ (by omega) (by omega) (by omega)
theorem n_sign (h : SimRoads rc wn wv roads lengths signs) (hR : RD rc roads wn wv lengths signs k N L) {i : Nat} (hi : i < N) : ∃ a, P4_sign rc wn wv (nI k) (nI i) = some a ∧ P5_codeOf (signs (20 * k + i)) = some a := by
  obtain ⟨a, h1, h2⟩ := c_sign h (nI k) (nI i)
  obtain ⟨k6, e4, e5, hL, hl, hs, hw⟩ := hR
  have hN := hL.2.1
  unfold P5_sign at h2
  rw [e5, ob, if_neg (show ¬ (1 : Int32) = 0 by decide), if_pos (n_in k6 (by omega)), n_cl (by omega), hl, show nI N - 1 = nI (N - 1) from n_sub (b := 1) hL.1, wi1 (by omega) (by omega), ob, if_neg (show ¬ (1 : Int32) = 0 by decide), show (20 : Int32) = nI 20 from rfl, pk_mul, nI_add, if_pos (n_in (by omega) (by omega)), n_cl (by omega)] at h2
  obtain ⟨r, r1, r2⟩ := obx h2
  rw [← Option.some.inj r2] at h1
  exact ⟨r, h1, r1⟩
theorem h_sign_loop (h : SimRoads rc wn wv roads lengths signs) (hR : RD rc roads wn wv lengths signs k N L) : ∀ (j i f g : Nat) (l : Int64), i + j = N → j < f → j < g → ∃ u, P4_hashRoad_44 rc wn wv (nI k) (nI N) f l (nI i) = some u ∧ P5_mixRoad_27 lengths signs (nI k) g l (nI i) = some u
  | 0, i, f, g, l, hi, hf, hg => by
    obtain ⟨f, rfl⟩ : ∃ w, f = w + 1 := ⟨f - 1, by omega⟩
    obtain ⟨g, rfl⟩ : ∃ w, g = w + 1 := ⟨g - 1, by omega⟩
    have hN := hR.2.2.2.1.2.1
    have k6 := hR.1
    rw [P4_hashRoad_44, if_pos (nI_le (by omega) (by omega)), P5_mixRoad_27, if_pos (n_in k6 (by omega)), n_cl (by omega), hR.2.2.2.2.1, if_pos (nI_le (by omega) (by omega))]
    exact ⟨_, rfl, rfl⟩
  | j + 1, i, f, g, l, hi, hf, hg => by
    obtain ⟨f, rfl⟩ : ∃ w, f = w + 1 := ⟨f - 1, by omega⟩
    obtain ⟨g, rfl⟩ : ∃ w, g = w + 1 := ⟨g - 1, by omega⟩
    have hN := hR.2.2.2.1.2.1
    have k6 := hR.1
    obtain ⟨a, a1, a2⟩ := n_sign h hR (show i < N by omega)
    rw [P4_hashRoad_44, if_neg (nI_ge (show i < N by omega) (by omega)), a1, ob, mix_w, ob, P5_mixRoad_27, if_pos (n_in k6 (by omega)), n_cl (show k < 2 ^ 31 by omega), hR.2.2.2.2.1, if_neg (nI_ge (show i < N by omega) (by omega)), show (20 : Int32) = nI 20 from rfl, pk_mul, nI_add, if_pos (n_in (by omega) (by omega)), n_cl (by omega), a2, ob, mix_m, ob, nI_1]
    exact h_sign_loop h hR j (i + 1) f g _ (by omega) (by omega) (by omega)
theorem n_table (h : SimRoads rc wn wv roads lengths signs) (hR : RD rc roads wn wv lengths signs k N L) {i : Nat} (hi : i ≤ 3) (at_ : Nat → Int32) : ∃ a r, P4_table rc wn wv (nI k) (nI i) = some a ∧ P5_tableNow lengths signs at_ (nI k) (nI i) = some r ∧ a = r.1 := by
  obtain ⟨a, b, h1, h2, h3, -⟩ := c_table (size := 0) (tA := 0) (tB := 0) (tC := 0) (tD := 0) (at_ := at_) h (nI k) (nI i)
  unfold P5_table at h2
  rw [hR.2.2.1, ob, if_neg (show ¬ (1 : Int32) = 0 by decide), show P5_within (nI i) 0 3 = some 1 from wi1 (m := 3) hi (by omega), ob, if_neg (show ¬ (1 : Int32) = 0 by decide)] at h2
  obtain ⟨r, r1, r2⟩ := obx h2
  rw [← Option.some.inj r2] at h3
  exact ⟨a, r, h1, r1, h3⟩
theorem h_table_loop (h : SimRoads rc wn wv roads lengths signs) (hR : RD rc roads wn wv lengths signs k N L) : ∀ (j i f g : Nat) (l : Int64) (at_ : Nat → Int32), i + j = 4 → j < f → j < g → ∃ u r, P4_hashRoad_74 rc wn wv (nI k) f l (nI i) = some u ∧ P5_mixRoad_64 lengths signs (nI k) g at_ l (nI i) = some r ∧ u = r.2
  | 0, i, f, g, l, at_, hi, hf, hg => by
    obtain ⟨f, rfl⟩ : ∃ w, f = w + 1 := ⟨f - 1, by omega⟩
    obtain ⟨g, rfl⟩ : ∃ w, g = w + 1 := ⟨g - 1, by omega⟩
    have h4 : (4 : Int32) ≤ nI i := nI_le (a := 4) (by omega) (by omega)
    rw [P4_hashRoad_74, if_pos h4, P5_mixRoad_64, if_pos h4]
    exact ⟨_, _, rfl, rfl, rfl⟩
  | j + 1, i, f, g, l, at_, hi, hf, hg => by
    obtain ⟨f, rfl⟩ : ∃ w, f = w + 1 := ⟨f - 1, by omega⟩
    obtain ⟨g, rfl⟩ : ∃ w, g = w + 1 := ⟨g - 1, by omega⟩
    have h4 : ¬ (4 : Int32) ≤ nI i := nI_ge (b := 4) (by omega) (by omega)
    obtain ⟨a, r, r1, r2, r3⟩ := n_table h hR (show i ≤ 3 by omega) at_
    rw [P4_hashRoad_74, if_neg h4, r1, ob, mix_w, ob, P5_mixRoad_64, if_neg h4, r2, ob, mix_m, ob, nI_1, r3]
    exact h_table_loop h hR j (i + 1) f g _ _ (by omega) (by omega) (by omega)
theorem n_end (h : SimRoads rc wn wv roads lengths signs) (hR : RD rc roads wn wv lengths signs k N L) {i : Nat} (hi : i ≤ 1) (at_ : Nat → Int32) : ∃ a r, P4_end rc wn wv (nI k) (nI i) = some a ∧ P5_endNow lengths signs at_ (nI k) (nI i) = some r ∧ a = r.1 := by
  obtain ⟨a, b, h1, h2, h3, -⟩ := c_end (size := 0) (tA := 0) (tB := 0) (tC := 0) (tD := 0) (at_ := at_) h (nI k) (nI i)
  unfold P5_end at h2
  rw [hR.2.2.1, ob, if_neg (show ¬ (1 : Int32) = 0 by decide), show P5_within (nI i) 0 1 = some 1 from wi1 (m := 1) hi (by omega), ob, if_neg (show ¬ (1 : Int32) = 0 by decide)] at h2
  obtain ⟨r, r1, r2⟩ := obx h2
  rw [← Option.some.inj r2] at h3
  exact ⟨a, r, h1, r1, h3⟩
theorem n_form (h : SimRoads rc wn wv roads lengths signs) (hR : RD rc roads wn wv lengths signs k N L) (hc : clo N L = true) {i : Nat} (hi : i ≤ 4) (at_ : Nat → Int32) : ∃ a r, P4_form rc wn wv (nI k) (nI i) = some a ∧ P5_formNow lengths signs at_ (nI k) (nI i) = some r ∧ a = r.1 ∧ r.2.1 = nI N := by
  obtain ⟨k6, e4, e5, hL, hl, hs, hw⟩ := hR
  obtain ⟨o, ho, -⟩ := m_formNow (at_ := at_) hL hc k6 hl hs (nI i)
  obtain ⟨w0, w1, w2, w3, w4, w5, w6⟩ := hw
  refine ⟨frm N L (nI i), _, ?_, ho, rfl, rfl⟩
  unfold P4_form
  rw [e4, ob]
  simp only []
  rw [if_neg (n_neg (by omega)), if_pos (show nI i < (5 : Int32) from nI_lt (b := 5) (by omega) (by omega)), w0, w2, w_isClosed hL, ob, if_pos hc, if_neg (show ¬ (1 : Int32) = 0 by decide), w3, w4, w5, w6, w_form hL hc]
  rfl
theorem h_form_loop (h : SimRoads rc wn wv roads lengths signs) (hR : RD rc roads wn wv lengths signs k N L) (hc : clo N L = true) : ∀ (j i f g : Nat) (l : Int64) (tA tB tC tD fa fb fc fg : Int32) (at_ : Nat → Int32), i + j = 5 → j < f → j < g → ∃ u r, P4_hashRoad_132 rc wn wv (nI k) f l (nI i) = some u ∧ P5_mixRoad_116 lengths signs (nI k) 1 g (nI N) at_ tA tB tC tD fa fb fc fg l (nI i) = some r ∧ u = r.2.2.2.2.2.2.2.2.2.2 ∧ r.1 = nI N
  | 0, i, f, g, l, tA, tB, tC, tD, fa, fb, fc, fg, at_, hi, hf, hg => by
    obtain ⟨f, rfl⟩ : ∃ w, f = w + 1 := ⟨f - 1, by omega⟩
    obtain ⟨g, rfl⟩ : ∃ w, g = w + 1 := ⟨g - 1, by omega⟩
    have h5 : (5 : Int32) ≤ nI i := nI_le (a := 5) (by omega) (by omega)
    rw [P4_hashRoad_132, if_pos h5, P5_mixRoad_116, if_pos h5]
    exact ⟨_, _, rfl, rfl, rfl, rfl⟩
  | j + 1, i, f, g, l, tA, tB, tC, tD, fa, fb, fc, fg, at_, hi, hf, hg => by
    obtain ⟨f, rfl⟩ : ∃ w, f = w + 1 := ⟨f - 1, by omega⟩
    obtain ⟨g, rfl⟩ : ∃ w, g = w + 1 := ⟨g - 1, by omega⟩
    have h5 : ¬ (5 : Int32) ≤ nI i := nI_ge (b := 5) (by omega) (by omega)
    obtain ⟨a, r, r1, r2, r3, r4⟩ := n_form h hR hc (show i ≤ 4 by omega) at_
    rw [P4_hashRoad_132, if_neg h5, k_closed hR, ob, hc, if_neg (show ¬ b2 true = 0 by decide), r1, ob, mix_w, ob, P5_mixRoad_116, if_neg h5, if_neg (show ¬ (1 : Int32) = 0 by decide), r2, ob, mix_m, ob, nI_1, r3, r4]
    exact h_form_loop h hR hc j (i + 1) f g _ _ _ _ _ _ _ _ _ _ (by omega) (by omega) (by omega)
theorem h_road (h : SimRoads rc wn wv roads lengths signs) (hR : RD rc roads wn wv lengths signs k N L) (l : Int64) (os tA tB tC tD fa fb fc fg : Int32) (at_ other : Nat → Int32) : ∃ u r, P4_hashRoad rc wn wv l (nI k) = some u ∧ P5_mixRoad lengths signs at_ os other tA tB tC tD fa fb fc fg l (nI k) = some r ∧ u = r.2.2.2.2.2.2.2.2.2.2.2.2 ∧ r.1 = nI N := by
  obtain ⟨u1, r1, a1, b1, c1⟩ := h_road_loop h hR 10 0 FU FU l os tA tB tC tD at_ other (by omega) (by unfold FU; omega) (by unfold FU; omega)
  have hN := hR.2.2.2.1.2.1
  obtain ⟨u2, a2, b2'⟩ := h_sign_loop h hR N 0 FU FU u1 (by omega) (by unfold FU; omega) (by unfold FU; omega)
  obtain ⟨u3, r3, a3, b3, c3⟩ := h_table_loop h hR 4 0 FU FU u2 r1.1 (by omega) (by unfold FU; omega) (by unfold FU; omega)
  obtain ⟨x0, e0, a4, b4, c4⟩ := n_end h hR (i := 0) (by omega) r3.1
  obtain ⟨x1, e1, a5, b5, c5⟩ := n_end h hR (i := 1) (by omega) e0.2.2.1
  obtain ⟨o, ho⟩ := k_isClosed hR e1.2.2.1
  have g0 : P4_road rc wn wv (nI k) 0 = some (nI N) := by
    unfold P4_road
    rw [hR.2.1, ob]
    simp only []
    rw [if_pos trivial, hR.2.2.2.2.2.2.2.1]
  have gE : P4_hashRoad_103 rc wn wv (nI k) FU u3 0 = some ((31 * ((31 * u3) + Int32.toInt64 x0)) + Int32.toInt64 x1) := by
    rw [show FU = 3997 + 3 from rfl, P4_hashRoad_103, if_neg (show ¬ (2 : Int32) ≤ 0 by decide), show P4_end rc wn wv (nI k) 0 = some x0 from a4, ob, mix_w, ob, show (0 : Int32) + 1 = nI 1 by decide, P4_hashRoad_103, if_neg (show ¬ (2 : Int32) ≤ nI 1 by decide), a5, ob, mix_w, ob, show nI 1 + 1 = nI 2 by decide, P4_hashRoad_103, if_pos (show (2 : Int32) ≤ nI 2 by decide)]
  unfold P4_hashRoad P5_mixRoad
  rw [show P4_hashRoad_6 rc wn wv (nI k) FU l 0 = some u1 from a1, ob, g0, ob, show P4_hashRoad_44 rc wn wv (nI k) (nI N) FU u1 0 = some u2 from a2, ob, show P4_hashRoad_74 rc wn wv (nI k) FU u2 0 = some u3 from a3, ob, gE, ob]
  rw [show P5_mixRoad_2 lengths signs (nI k) FU at_ os other tA tB tC tD l 0 = some r1 from b1, ob, ← c1, show P5_mixRoad_27 lengths signs (nI k) FU u1 0 = some u2 from b2', ob, show P5_mixRoad_64 lengths signs (nI k) FU r1.1 u2 0 = some r3 from b3, ob, ← c3, show P5_endNow lengths signs r3.1 (nI k) 0 = some e0 from b4, ob, mix_m, ob, ← c4, show P5_endNow lengths signs e0.2.2.1 (nI k) 1 = some e1 from b5, ob, mix_m, ob, ← c5, ho, ob]
  simp only []
  cases hc : clo N L with
  | true =>
    obtain ⟨u, r, s1, s2, s3, s4⟩ := h_form_loop h hR hc 5 0 FU FU ((31 * ((31 * u3) + Int32.toInt64 x0)) + Int32.toInt64 x1) e1.2.2.2.1 e1.2.2.2.2.1 e1.2.2.2.2.2.1 e1.2.2.2.2.2.2 fa fb fc fg o (by omega) (by unfold FU; omega) (by unfold FU; omega)
    rw [show P4_hashRoad_132 rc wn wv (nI k) FU ((31 * ((31 * u3) + Int32.toInt64 x0)) + Int32.toInt64 x1) 0 = some u from s1, ob, show P5_mixRoad_116 lengths signs (nI k) (b2 true) FU (nI N) o e1.2.2.2.1 e1.2.2.2.2.1 e1.2.2.2.2.2.1 e1.2.2.2.2.2.2 fa fb fc fg ((31 * ((31 * u3) + Int32.toInt64 x0)) + Int32.toInt64 x1) 0 = some r from s2, ob]
    exact ⟨_, _, rfl, rfl, s3, s4⟩
  | false =>
    have q1 : ∀ x, P4_hashRoad_132 rc wn wv (nI k) FU x 0 = some x := fun x => by
      rw [show FU = 3999 + 1 from rfl, P4_hashRoad_132, if_neg (show ¬ (5 : Int32) ≤ 0 by decide), k_closed hR, ob, hc, if_pos (show b2 false = 0 by decide)]
    have q2 : ∀ a b c d e f g m n p q, P5_mixRoad_116 lengths signs (nI k) (b2 false) FU a b c d e f g m n p q 0 = some (a, b, c, d, e, f, g, m, n, p, q) := fun a b c d e f g m n p q => by
      rw [show FU = 3999 + 1 from rfl, P5_mixRoad_116, if_neg (show ¬ (5 : Int32) ≤ 0 by decide), if_pos (show b2 false = 0 by decide)]
    rw [q1, ob, q2, ob]
    exact ⟨_, _, rfl, rfl, rfl, rfl⟩
end
section
variable {wn : Nat} {wv : Nat → Nat → Int32} {lengths signs : Nat → Int32} {n : Nat}
theorem h_roads_loop (n6 : n ≤ 6) (h : SimRoads (nI n) wn wv (nI n) lengths signs) (hK : ∀ k, k < n → ∃ N L, RD (nI n) (nI n) wn wv lengths signs k N L) : ∀ (j k f g : Nat) (l : Int64) (size os tA tB tC tD fa fb fc fg : Int32) (at_ other : Nat → Int32), k + j = n → j < f → j < g → ∃ u r, P4_hashRoads_5 (nI n) wn wv f l (nI k) = some u ∧ P5_digest_9 (nI n) lengths signs g size at_ os other tA tB tC tD fa fb fc fg l (nI k) = some r ∧ u = r.2.2.2.2.2.2.2.2.2.2.2.2 ∧ Sz size r.1
  | 0, k, f, g, l, size, os, tA, tB, tC, tD, fa, fb, fc, fg, at_, other, hk, hf, hg => by
    obtain ⟨f, rfl⟩ : ∃ w, f = w + 1 := ⟨f - 1, by omega⟩
    obtain ⟨g, rfl⟩ : ∃ w, g = w + 1 := ⟨g - 1, by omega⟩
    rw [P4_hashRoads_5, if_pos (nI_le (by omega) (by omega)), P5_digest_9, if_pos (nI_le (by omega) (by omega))]
    exact ⟨_, _, rfl, rfl, rfl, Sz.r _⟩
  | j + 1, k, f, g, l, size, os, tA, tB, tC, tD, fa, fb, fc, fg, at_, other, hk, hf, hg => by
    obtain ⟨f, rfl⟩ : ∃ w, f = w + 1 := ⟨f - 1, by omega⟩
    obtain ⟨g, rfl⟩ : ∃ w, g = w + 1 := ⟨g - 1, by omega⟩
    obtain ⟨N, L, hR⟩ := hK k (by omega)
    have hN := hR.2.2.2.1.2.1
    obtain ⟨u, r, s1, s2, s3, s4⟩ := h_road h hR l os tA tB tC tD fa fb fc fg at_ other
    rw [P4_hashRoads_5, if_neg (nI_ge (show k < n by omega) (by omega)), s1, ob, P5_digest_9, if_neg (nI_ge (show k < n by omega) (by omega)), s2, ob, nI_1, ← s3]
    obtain ⟨u', r', t1, t2, t3, t4⟩ := h_roads_loop n6 h hK j (k + 1) f g u r.1 r.2.2.1 r.2.2.2.2.1 r.2.2.2.2.2.1 r.2.2.2.2.2.2.1 r.2.2.2.2.2.2.2.1 r.2.2.2.2.2.2.2.2.1 r.2.2.2.2.2.2.2.2.2.1 r.2.2.2.2.2.2.2.2.2.2.1 r.2.2.2.2.2.2.2.2.2.2.2.1 r.2.1 r.2.2.2.1 (by omega) (by omega) (by omega)
    rw [s4] at t4
    exact ⟨u', r', t1, t2, t3, t4.tr hN⟩
theorem k_cross {i k N M : Nat} {L T : Nat → Nat} {rc roads : Int32} (hA : RD rc roads wn wv lengths signs i N L) (hB : RD rc roads wn wv lengths signs k M T) (hcA : clo N L = true) (hcB : clo M T = true) (at_ other : Nat → Int32) : ∃ a o1 o2, P4_cross rc wn wv (nI i) (nI k) = some a ∧ P5_crossings lengths signs at_ other (nI i) (nI k) = some (a, nI N, o1, nI M, o2) := by
  obtain ⟨k6, e4, e5, hL, hl, hs, w0, w1, w2, w3, w4, w5, w6⟩ := hA
  obtain ⟨k6', e4', e5', hT, hl', hs', w0', w1', w2', w3', w4', w5', w6'⟩ := hB
  obtain ⟨o, ho, hO⟩ := m_look (at_ := at_) hT.2.1 k6' hl' hs'
  obtain ⟨o2, ho2, hO2⟩ := m_layOther (other := other) hT.2.1 hT.2.2 hO 0 0
  obtain ⟨o3, ho3, hO3⟩ := m_look (at_ := o) hL.2.1 k6 hl hs
  rw [oth00] at hO2
  unfold P4_cross P5_crossings
  rw [e4, ob]
  simp only []
  rw [e4', ob, ho, ob]
  simp only []
  rw [ho2, ob, ho3, ob, w0, w2, w_isClosed hL, ob, if_pos hcA, if_neg (show ¬ (1 : Int32) = 0 by decide), w0', w2', w_isClosed hT, ob, if_pos hcB, if_neg (show ¬ (1 : Int32) = 0 by decide), w1, w1', w_crossings hL hT]
  simp only []
  rw [m_crossNow hL hT hO3 hO2]
  exact ⟨_, _, _, rfl, rfl⟩
theorem h_cross_loop (n6 : n ≤ 6) (hK : ∀ k, k < n → ∃ N L, RD (nI n) (nI n) wn wv lengths signs k N L) {k : Nat} (hk : k < n) : ∀ (j i f g : Nat) (l : Int64) (size os : Int32) (at_ other : Nat → Int32), i + j = n → j < f → j < g → ∃ u r, P4_hashCrossings_18 (nI n) wn wv (nI k) f l (nI i) = some u ∧ P5_mixCrossings_12 (nI n) lengths signs (nI k) g size at_ os other l (nI i) = some r ∧ u = r.2.2.2.2 ∧ Sz size r.1
  | 0, i, f, g, l, size, os, at_, other, hi, hf, hg => by
    obtain ⟨f, rfl⟩ : ∃ w, f = w + 1 := ⟨f - 1, by omega⟩
    obtain ⟨g, rfl⟩ : ∃ w, g = w + 1 := ⟨g - 1, by omega⟩
    rw [P4_hashCrossings_18, if_pos (nI_le (by omega) (by omega)), P5_mixCrossings_12, if_pos (nI_le (by omega) (by omega))]
    exact ⟨_, _, rfl, rfl, rfl, Sz.r _⟩
  | j + 1, i, f, g, l, size, os, at_, other, hi, hf, hg => by
    obtain ⟨f, rfl⟩ : ∃ w, f = w + 1 := ⟨f - 1, by omega⟩
    obtain ⟨g, rfl⟩ : ∃ w, g = w + 1 := ⟨g - 1, by omega⟩
    obtain ⟨N, L, hA⟩ := hK k hk
    obtain ⟨M, T, hB⟩ := hK i (by omega)
    have hN := hA.2.2.2.1.2.1
    have hM := hB.2.2.2.1.2.1
    obtain ⟨o, ho⟩ := k_isClosed hA at_
    obtain ⟨o2, ho2⟩ := k_isClosed hB o
    rw [P4_hashCrossings_18, if_neg (nI_ge (show i < n by omega) (by omega)), k_closed hA, ob, P5_mixCrossings_12, if_neg (nI_ge (show i < n by omega) (by omega)), ho, ob, nI_1]
    simp only []
    cases hcA : clo N L with
    | false =>
      rw [if_pos (show b2 false = 0 by decide), if_pos (show b2 false = 0 by decide)]
      obtain ⟨u, r, h1, h2, h3, h4⟩ := h_cross_loop n6 hK hk j (i + 1) f g l (nI N) os o other (by omega) (by omega) (by omega)
      exact ⟨u, r, h1, h2, h3, h4.tr hN⟩
    | true =>
      rw [if_neg (show ¬ b2 true = 0 by decide), if_neg (show ¬ b2 true = 0 by decide), k_closed hB, ob, ho2, ob]
      simp only []
      cases hcB : clo M T with
      | false =>
        rw [if_pos (show b2 false = 0 by decide), if_pos (show b2 false = 0 by decide)]
        obtain ⟨u, r, h1, h2, h3, h4⟩ := h_cross_loop n6 hK hk j (i + 1) f g l (nI M) os o2 other (by omega) (by omega) (by omega)
        exact ⟨u, r, h1, h2, h3, h4.tr hM⟩
      | true =>
        obtain ⟨a, o3, o4, q1, q2⟩ := k_cross hA hB hcA hcB o2 other
        rw [if_neg (show ¬ b2 true = 0 by decide), if_neg (show ¬ b2 true = 0 by decide), q1, ob, mix_w, ob, q2, ob, mix_m, ob]
        obtain ⟨u, r, h1, h2, h3, h4⟩ := h_cross_loop n6 hK hk j (i + 1) f g ((31 * l) + Int32.toInt64 a) (nI N) (nI M) o3 o4 (by omega) (by omega) (by omega)
        exact ⟨u, r, h1, h2, h3, h4.tr hN⟩
theorem h_crosses_loop (n6 : n ≤ 6) (hK : ∀ k, k < n → ∃ N L, RD (nI n) (nI n) wn wv lengths signs k N L) : ∀ (j k f g : Nat) (l : Int64) (size os : Int32) (at_ other : Nat → Int32), k + j = n → j < f → j < g → ∃ u r, P4_hashCrossings_5 (nI n) wn wv f l (nI k) = some u ∧ P5_mixCrossings_2 (nI n) lengths signs g size at_ os other l (nI k) = some r ∧ u = r.2.2.2.2 ∧ Sz size r.1
  | 0, k, f, g, l, size, os, at_, other, hk, hf, hg => by
    obtain ⟨f, rfl⟩ : ∃ w, f = w + 1 := ⟨f - 1, by omega⟩
    obtain ⟨g, rfl⟩ : ∃ w, g = w + 1 := ⟨g - 1, by omega⟩
    rw [P4_hashCrossings_5, if_pos (nI_le (by omega) (by omega)), P5_mixCrossings_2, if_pos (nI_le (by omega) (by omega))]
    exact ⟨_, _, rfl, rfl, rfl, Sz.r _⟩
  | j + 1, k, f, g, l, size, os, at_, other, hk, hf, hg => by
    obtain ⟨f, rfl⟩ : ∃ w, f = w + 1 := ⟨f - 1, by omega⟩
    obtain ⟨g, rfl⟩ : ∃ w, g = w + 1 := ⟨g - 1, by omega⟩
    obtain ⟨u, r, s1, s2, s3, s4⟩ := h_cross_loop n6 hK (show k < n by omega) (n - k) k FU FU l size os at_ other (by omega) (by unfold FU; omega) (by unfold FU; omega)
    rw [P4_hashCrossings_5, if_neg (nI_ge (show k < n by omega) (by omega)), s1, ob, P5_mixCrossings_2, if_neg (nI_ge (show k < n by omega) (by omega)), s2, ob, nI_1, ← s3]
    obtain ⟨u', r', t1, t2, t3, t4⟩ := h_crosses_loop n6 hK j (k + 1) f g u r.1 r.2.2.1 r.2.1 r.2.2.2.1 (by omega) (by omega) (by omega)
    exact ⟨u', r', t1, t2, t3, s4.two t4⟩
end
