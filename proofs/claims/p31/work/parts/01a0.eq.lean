-- words that are alike, their bytes compared place by place
def qb_q (a b : ByteArray) : Bool := decide (a.data.toList = b.data.toList)
theorem qb_eq {a b : ByteArray} (h : qb_q a b = true) : a = b := by
  have h1 := of_decide_eq_true h
  cases a with
  | mk x =>
    cases b with
    | mk y =>
      congr 1
      exact Array.toList_inj.mp h1
def qb_c (a b : Cond) : Bool := match a with
  | .code y z n r => (match b with
    | .code y2 z2 n2 r2 => decide (y = y2) && (qb_q z z2 && (decide (n = n2) && decide (r = r2)))
    | _ => false)
  | _ => decide (a = b)
theorem qb_ceq {a b : Cond} (h : qb_c a b = true) : a = b := by
  cases a with
  | code y z n r =>
    cases b with
    | code y2 z2 n2 r2 =>
      have h0 : (decide (y = y2) && (qb_q z z2 && (decide (n = n2) && decide (r = r2)))) = true := h
      obtain ⟨h1, h0⟩ := Bool.and_eq_true_iff.mp h0
      obtain ⟨h2, h0⟩ := Bool.and_eq_true_iff.mp h0
      obtain ⟨h3, h4⟩ := Bool.and_eq_true_iff.mp h0
      rw [of_decide_eq_true h1, qb_eq h2, of_decide_eq_true h3, of_decide_eq_true h4]
    | _ => exact absurd h (by intro q; cases q)
  | _ => exact of_decide_eq_true h
def qb_l : List Cond → List Cond → Bool
  | [], [] => true
  | a :: as, b :: bs => qb_c a b && qb_l as bs
  | _, _ => false
theorem qb_leq : ∀ {a b : List Cond}, qb_l a b = true → a = b
  | [], [], _ => rfl
  | x :: a, y :: b, h => by
    obtain ⟨h1, h2⟩ := Bool.and_eq_true_iff.mp (show (qb_c x y && qb_l a b) = true from h)
    rw [qb_ceq h1, qb_leq h2]
  | [], _ :: _, h => by cases h
  | _ :: _, [], h => by cases h
theorem goodIn_rq {big : List Cond} (ws : List Cond) (ps : List Nat) (hp : qb_l ws (ps.filterMap (fun i => big[i]?)) = true) (h : ws.all goodWord = true) : GoodIn big ws := goodIn_r ws ps (qb_leq hp) h
theorem goodIn_pq {big : List Cond} (ws : List Cond) (ps : List Nat) (hp : qb_l (ws.filter k2_isCode) (ps.filterMap (fun i => big[i]?)) = true) (h : (ws.filter (fun w => !k2_isCode w)).all (fun w => decide (w ∈ big) && goodWord w) = true) : GoodIn big ws := goodIn_p ws ps (qb_leq hp) h
