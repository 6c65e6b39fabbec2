-- THE DECOMPILED FUNCTIONS of the law's own methods
def P_at (x0 : Int32) (x1 : Int32) : Option (Int32) :=
  if ¬ x1 = 0 then
  some (jrem (jushr x0 1) x1)
  else none
def P_size (x0 : Int32) : Option (Int32) :=
  some (x0 &&& 31)
def P_bit (x0 : Int32) (x1 : Int32) : Option (Int32) :=
  some ((jshr x0 (5 + x1)) &&& 1)
def P_round (x0 : Int32) (x1 : Int32) : Option (Int32) :=
  Option.bind (P_size x0) fun r1 =>
  if ¬ r1 = 0 then
  if ¬ r1 = 0 then
  Option.bind (P_bit x0 (jrem ((jrem x1 r1) + r1) r1)) fun r4 =>
  some r4
  else none
  else none
def P_with (x0 : Int32) (x1 : Int32) : Option (Int32) :=
  Option.bind (P_size x0) fun r1 =>
  some ((x0 + 1) ||| (jshl x1 (5 + r1)))
def P_turned_4 (x0 : Int32) (x1 : Int32) : Nat → Int32 → Int32 → Option (Int32)
  | 0, _, _ => none
  | n + 1, x2, x3 =>
    Option.bind (P_size x0) fun r1 =>
    if r1 ≤ x3 then
      some x2
    else
      Option.bind (P_round x0 (x3 + x1)) fun r3 =>
      Option.bind (P_with x2 r3) fun r4 =>
      P_turned_4 x0 x1 n r4 (x3 + 1)
def P_turned (x0 : Int32) (x1 : Int32) : Option (Int32) :=
  Option.bind (P_turned_4 x0 x1 FU 0 0) fun o5 =>
  some o5
def P_back_9 (x0 : Int32) : Nat → Int32 → Int32 → Option (Int32)
  | 0, _, _ => none
  | n + 1, x1, x2 =>
    if x2 < 0 then
      some x1
    else
      Option.bind (P_bit x0 x2) fun r3 =>
      Option.bind (P_with x1 r3) fun r4 =>
      P_back_9 x0 n r4 (x2 + (-1))
def P_back (x0 : Int32) : Option (Int32) :=
  Option.bind (P_size x0) fun r1 =>
  Option.bind (P_back_9 x0 FU 0 (r1 - 1)) fun o5 =>
  some o5
def P_mirror_4 (x0 : Int32) : Nat → Int32 → Int32 → Option (Int32)
  | 0, _, _ => none
  | n + 1, x1, x2 =>
    Option.bind (P_size x0) fun r1 =>
    if r1 ≤ x2 then
      some x1
    else
      Option.bind (P_bit x0 x2) fun r3 =>
      Option.bind (P_with x1 (1 - r3)) fun r4 =>
      P_mirror_4 x0 n r4 (x2 + 1)
def P_mirror (x0 : Int32) : Option (Int32) :=
  Option.bind (P_mirror_4 x0 FU 0 0) fun o5 =>
  some o5
def P_join_4 (x1 : Int32) : Nat → Int32 → Int32 → Option (Int32)
  | 0, _, _ => none
  | n + 1, x2, x3 =>
    Option.bind (P_size x1) fun r1 =>
    if r1 ≤ x3 then
      some x2
    else
      Option.bind (P_bit x1 x3) fun r3 =>
      Option.bind (P_with x2 r3) fun r4 =>
      P_join_4 x1 n r4 (x3 + 1)
def P_join (x0 : Int32) (x1 : Int32) : Option (Int32) :=
  Option.bind (P_join_4 x1 FU x0 0) fun o5 =>
  some o5
def P_rights_4 (x0 : Int32) : Nat → Int32 → Int32 → Option (Int32)
  | 0, _, _ => none
  | n + 1, x1, x2 =>
    Option.bind (P_size x0) fun r1 =>
    if r1 ≤ x2 then
      some x1
    else
      Option.bind (P_bit x0 x2) fun r3 =>
      P_rights_4 x0 n (x1 + r3) (x2 + 1)
def P_rights (x0 : Int32) : Option (Int32) :=
  Option.bind (P_rights_4 x0 FU 0 0) fun o4 =>
  some o4
def P_isClosed (x0 : Int32) : Option (Int32) :=
  Option.bind (P_rights x0) fun r1 =>
  if r1 ≤ 0 then
    some 0
  else
    Option.bind (P_rights x0) fun r3 =>
    Option.bind (P_size x0) fun r4 =>
    if r4 ≤ r3 then
      some 0
    else
      some 1
def P_rank_4 (x0 : Int32) : Nat → Int32 → Int32 → Option (Int32)
  | 0, _, _ => none
  | n + 1, x1, x2 =>
    Option.bind (P_size x0) fun r1 =>
    if r1 ≤ x2 then
      some x1
    else
      Option.bind (P_bit x0 x2) fun r3 =>
      P_rank_4 x0 n ((2 * x1) + r3) (x2 + 1)
def P_rank (x0 : Int32) : Option (Int32) :=
  Option.bind (P_rank_4 x0 FU 0 0) fun o4 =>
  some o4
def P_least_4 (x0 : Int32) : Nat → Int32 → Int32 → Option (Int32)
  | 0, _, _ => none
  | n + 1, x1, x2 =>
    Option.bind (P_size x0) fun r1 =>
    if r1 ≤ x2 then
      some x1
    else
      Option.bind (P_turned x0 x2) fun r3 =>
      Option.bind (P_rank r3) fun r4 =>
      Option.bind (P_rank x1) fun r5 =>
      if r5 ≤ r4 then
        P_least_4 x0 n x1 (x2 + 1)
      else
        Option.bind (P_turned x0 x2) fun r7 =>
        P_least_4 x0 n r7 (x2 + 1)
def P_least (x0 : Int32) : Option (Int32) :=
  Option.bind (P_least_4 x0 FU x0 1) fun o8 =>
  some o8
def P_alike (x0 : Int32) (x1 : Int32) : Option (Int32) :=
  Option.bind (P_size x0) fun r1 =>
  Option.bind (P_size x1) fun r2 =>
  if r1 = r2 then
    Option.bind (P_least x0) fun r4 =>
    Option.bind (P_rank r4) fun r5 =>
    Option.bind (P_least x1) fun r6 =>
    Option.bind (P_rank r6) fun r7 =>
    if r5 = r7 then
      some 1
    else
      some 0
  else
    some 0
def P_table_18 (x0 : Int32) : Nat → (Nat → Int32) → Int32 → Option ((Nat → Int32))
  | 0, _, _ => none
  | n + 1, v_zt, x2 =>
    Option.bind (P_size x0) fun r5 =>
    if r5 ≤ x2 then
      some v_zt
    else
      Option.bind (P_bit x0 x2) fun r7 =>
      if vx r7 40 then
      if vx (1 - r7) 40 then
      if vx r7 40 then
      if vx (2 + r7) 40 then
      if vx (3 - r7) 40 then
      if vx (2 + r7) 40 then
      P_table_18 x0 n (upd (upd v_zt (Int32.toNatClampNeg r7) ((v_zt (Int32.toNatClampNeg r7)) + (v_zt (Int32.toNatClampNeg (1 - r7))))) (Int32.toNatClampNeg (2 + r7)) (((upd v_zt (Int32.toNatClampNeg r7) ((v_zt (Int32.toNatClampNeg r7)) + (v_zt (Int32.toNatClampNeg (1 - r7))))) (Int32.toNatClampNeg (2 + r7))) + ((upd v_zt (Int32.toNatClampNeg r7) ((v_zt (Int32.toNatClampNeg r7)) + (v_zt (Int32.toNatClampNeg (1 - r7))))) (Int32.toNatClampNeg (3 - r7))))) (x2 + 1)
      else none
      else none
      else none
      else none
      else none
      else none
def P_table (v_zt : Nat → Int32) (x0 : Int32) : Option ((Nat → Int32)) :=
  if vx 0 40 then
  if vx 1 40 then
  if vx 2 40 then
  if vx 3 40 then
  Option.bind (P_table_18 x0 FU (upd (upd (upd (upd v_zt (Int32.toNatClampNeg 0) 1) (Int32.toNatClampNeg 1) 0) (Int32.toNatClampNeg 2) 0) (Int32.toNatClampNeg 3) 1) 0) fun o14 =>
  some o14
  else none
  else none
  else none
  else none
def P_gcd_22  : Nat → Int32 → Int32 → Option (Int32)
  | 0, _, _ => none
  | n + 1, x2, x3 =>
    if x3 = 0 then
      some x2
    else
      if ¬ x3 = 0 then
      P_gcd_22 n x3 (jrem x2 x3)
      else none
def P_gcd (x0 : Int32) (x1 : Int32) : Option (Int32) :=
  if 0 ≤ x0 then
    if 0 ≤ x1 then
      Option.bind (P_gcd_22 FU x0 x1) fun o5 =>
      some o5
    else
      Option.bind (P_gcd_22 FU x0 (-x1)) fun o6 =>
      some o6
  else
    if 0 ≤ x1 then
      Option.bind (P_gcd_22 FU (-x0) x1) fun o8 =>
      some o8
    else
      Option.bind (P_gcd_22 FU (-x0) (-x1)) fun o9 =>
      some o9
def P_wordBy_13 (x0 : Int32) (x3 : Int32) : Nat → Int32 → Int32 → Option (Int32)
  | 0, _, _ => none
  | n + 1, x2, x4 =>
    if x3 ≤ x4 then
      some x2
    else
      Option.bind (P_at x0 5) fun r3 =>
      if r3 = 0 then
        if x4 ≤ 0 then
          Option.bind (P_with x2 ((jshr x0 (jrem (4 + x4) 31)) &&& 1)) fun r7 =>
          P_wordBy_13 x0 x3 n r7 (x4 + 1)
        else
          Option.bind (P_bit x2 (x4 - 1)) fun r8 =>
          Option.bind (P_with x2 (1 - r8)) fun r9 =>
          P_wordBy_13 x0 x3 n r9 (x4 + 1)
      else
        Option.bind (P_with x2 ((jshr x0 (jrem (4 + x4) 31)) &&& 1)) fun r5 =>
        P_wordBy_13 x0 x3 n r5 (x4 + 1)
def P_wordBy (x0 : Int32) (x1 : Int32) : Option (Int32) :=
  Option.bind (P_at x0 x1) fun r1 =>
  Option.bind (P_wordBy_13 x0 (1 + r1) FU 0 0) fun o10 =>
  some o10
def P_write_17 (x0 : Int32) (x4 : Int32) : Nat → Int32 → Option (Int32)
  | 0, _ => none
  | n + 1, x5 =>
    if 9 ≤ x5 then
      some x5
    else
      Option.bind (P_size x0) fun r4 =>
      if r4 ≤ (x4 + x5) then
        some x5
      else
        Option.bind (P_bit x0 (x4 + x5)) fun r6 =>
        Option.bind (P_bit x0 x4) fun r7 =>
        if r6 = r7 then
          P_write_17 x0 x4 n (x5 + 1)
        else
          some x5
def P_write_5 (x0 : Int32) (x1 : Int32) : Nat → (Nat → Int32) → Int32 → Int32 → Option ((Nat → Int32) × Int32)
  | 0, _, _, _ => none
  | n + 1, v_zt, x3, x4 =>
    Option.bind (P_size x0) fun r1 =>
    if r1 ≤ x4 then
      some (v_zt, x3)
    else
      Option.bind (P_write_17 x0 x4 FU 1) fun o9 =>
      Option.bind (P_bit x0 x4) fun r10 =>
      if r10 = 1 then
        if vx x3 40 then
        if o9 ≤ 1 then
          P_write_5 x0 x1 n (upd v_zt (Int32.toNatClampNeg x3) 82) (x3 + 1) (x4 + 1)
        else
          Option.bind (P_at (jshr x1 x4) 3) fun r19 =>
          if r19 ≤ 0 then
            P_write_5 x0 x1 n (upd v_zt (Int32.toNatClampNeg x3) 82) (x3 + 1) (x4 + 1)
          else
            if vx (x3 + 1) 40 then
            P_write_5 x0 x1 n (upd (upd v_zt (Int32.toNatClampNeg x3) 82) (Int32.toNatClampNeg (x3 + 1)) (48 + o9)) ((x3 + 1) + 1) (x4 + o9)
            else none
        else none
      else
        if vx x3 40 then
        if o9 ≤ 1 then
          P_write_5 x0 x1 n (upd v_zt (Int32.toNatClampNeg x3) 76) (x3 + 1) (x4 + 1)
        else
          Option.bind (P_at (jshr x1 x4) 3) fun r14 =>
          if r14 ≤ 0 then
            P_write_5 x0 x1 n (upd v_zt (Int32.toNatClampNeg x3) 76) (x3 + 1) (x4 + 1)
          else
            if vx (x3 + 1) 40 then
            P_write_5 x0 x1 n (upd (upd v_zt (Int32.toNatClampNeg x3) 76) (Int32.toNatClampNeg (x3 + 1)) (48 + o9)) ((x3 + 1) + 1) (x4 + o9)
            else none
        else none
def P_write (v_zt : Nat → Int32) (x0 : Int32) (x1 : Int32) : Option (Int32 × (Nat → Int32)) :=
  Option.bind (P_write_5 x0 x1 FU v_zt 0 0) fun o22 =>
  some (o22.2, o22.1)
def P_spell_2 (v_zt : Nat → Int32) (x2 : Int32) : Nat → Int32 → Int32 → Int32 → Int32 → Int32 → (Nat → Int32) → Int32 → Option ((Int32 × Int32 × Int32 × Int32 × Int32 × Int32 × (Nat → Int32)) ⊕ (Int32 × Int32 × Int32 × Int32 × Int32 × (Nat → Int32)))
  | 0, _, _, _, _, _, _, _ => none
  | n + 1, v_psize, v_good, v_pbits, v_letters, v_afterLetter, v_codes, x3 =>
    if x2 ≤ x3 then
      some (Sum.inr (v_psize, v_good, v_pbits, v_letters, v_afterLetter, v_codes))
    else
      if vx x3 40 then
      Option.bind (P4_letter v_psize v_good v_pbits v_letters v_afterLetter v_codes (v_zt (Int32.toNatClampNeg x3))) fun r3 =>
      if r3.1 = (x3 + 1) then
        P_spell_2 v_zt x2 n r3.2.1 r3.2.2.1 r3.2.2.2.1 r3.2.2.2.2.1 r3.2.2.2.2.2.1 r3.2.2.2.2.2.2 (x3 + 1)
      else
        some (Sum.inl (0, r3.2.1, r3.2.2.1, r3.2.2.2.1, r3.2.2.2.2.1, r3.2.2.2.2.2.1, r3.2.2.2.2.2.2))
      else none
def P_spell (v_zt : Nat → Int32) (v_psize : Int32) (v_good : Int32) (v_pbits : Int32) (v_letters : Int32) (v_afterLetter : Int32) (v_codes : Nat → Int32) (x2 : Int32) : Option (Int32 × Int32 × Int32 × Int32 × Int32 × Int32 × (Nat → Int32)) :=
  sb0 (P_spell_2 v_zt x2 FU v_psize v_good v_pbits v_letters v_afterLetter v_codes 0) fun o5 =>
  some (1, o5.1, o5.2.1, o5.2.2.1, o5.2.2.2.1, o5.2.2.2.2.1, o5.2.2.2.2.2)
def P_crossings_44 (x0 : Int32) (x1 : Int32) (x3 : Int32) (x4 : Int32) : Nat → Int32 → Option (Int32)
  | 0, _ => none
  | n + 1, x5 =>
    Option.bind (P_size x0) fun r8 =>
    Option.bind (P_size x1) fun r9 =>
    if (r8 + r9) < x5 then
      some x5
    else
      Option.bind (P_round x0 (x3 - x5)) fun r11 =>
      Option.bind (P_round x1 (x4 - x5)) fun r12 =>
      if r11 = r12 then
        P_crossings_44 x0 x1 x3 x4 n (x5 + 1)
      else
        some x5
def P_crossings_15 (x0 : Int32) (x1 : Int32) (x3 : Int32) : Nat → Int32 → Int32 → Option (Int32)
  | 0, _, _ => none
  | n + 1, x2, x4 =>
    Option.bind (P_size x1) fun r3 =>
    if r3 ≤ x4 then
      some x2
    else
      Option.bind (P_bit x0 x3) fun r5 =>
      Option.bind (P_bit x1 x4) fun r6 =>
      if r5 = r6 then
        P_crossings_15 x0 x1 x3 n x2 (x4 + 1)
      else
        Option.bind (P_crossings_44 x0 x1 x3 x4 FU 1) fun o14 =>
        Option.bind (P_round x0 (x3 - o14)) fun r15 =>
        Option.bind (P_bit x0 x3) fun r16 =>
        if r15 = r16 then
          P_crossings_15 x0 x1 x3 n (x2 + 0) (x4 + 1)
        else
          P_crossings_15 x0 x1 x3 n (x2 + 1) (x4 + 1)
def P_crossings_4 (x0 : Int32) (x1 : Int32) : Nat → Int32 → Int32 → Option (Int32)
  | 0, _, _ => none
  | n + 1, x2, x3 =>
    Option.bind (P_size x0) fun r1 =>
    if r1 ≤ x3 then
      some x2
    else
      Option.bind (P_crossings_15 x0 x1 x3 FU x2 0) fun o18 =>
      P_crossings_4 x0 x1 n o18 (x3 + 1)
def P_crossings (x0 : Int32) (x1 : Int32) : Option (Int32) :=
  Option.bind (P_crossings_4 x0 x1 FU 0 0) fun o19 =>
  some o19
def P_period_2 (x0 : Int32) : Nat → Int32 → Option (Int32)
  | 0, _ => none
  | n + 1, x1 =>
    Option.bind (P_turned x0 x1) fun r1 =>
    if r1 = x0 then
      some x1
    else
      P_period_2 x0 n (x1 + 1)
def P_period (x0 : Int32) : Option (Int32) :=
  Option.bind (P_period_2 x0 FU 1) fun o3 =>
  some o3
def P_road_9 (x2 : Int32) : Nat → Int32 → Option (Int32)
  | 0, _ => none
  | n + 1, x5 =>
    Option.bind (P_turned x2 x5) fun r2 =>
    Option.bind (P_least x2) fun r3 =>
    if r2 = r3 then
      some x5
    else
      P_road_9 x2 n (x5 + 1)
def P_road_235 (v_zt : Nat → Int32) (v_roadCount : Int32) (v_wn : Nat) (v_wv : Nat → Nat → Int32) (x1 : Int32) (x2 : Int32) (x4 : Int32) : Nat → Int32 → Option ((Int32 × (Nat → Int32)) ⊕ (Unit))
  | 0, _ => none
  | n + 1, x6 =>
    if x4 ≤ x6 then
      some (Sum.inr ())
    else
      Option.bind (P4_sign v_roadCount v_wn v_wv x1 x6) fun r47 =>
      Option.bind (P_bit x2 x6) fun r48 =>
      if r48 = 1 then
        if r47 = 82 then
          P_road_235 v_zt v_roadCount v_wn v_wv x1 x2 x4 n (x6 + 1)
        else
          some (Sum.inl (0, v_zt))
      else
        if r47 = 76 then
          P_road_235 v_zt v_roadCount v_wn v_wv x1 x2 x4 n (x6 + 1)
        else
          some (Sum.inl (0, v_zt))
def P_road_280 (v_zt : Nat → Int32) (v_roadCount : Int32) (v_wn : Nat) (v_wv : Nat → Nat → Int32) (x1 : Int32) : Nat → Int32 → Option ((Int32 × (Nat → Int32)) ⊕ (Unit))
  | 0, _ => none
  | n + 1, x6 =>
    if 4 ≤ x6 then
      some (Sum.inr ())
    else
      Option.bind (P4_table v_roadCount v_wn v_wv x1 x6) fun r54 =>
      if vx x6 40 then
      if r54 = (v_zt (Int32.toNatClampNeg x6)) then
        P_road_280 v_zt v_roadCount v_wn v_wv x1 n (x6 + 1)
      else
        some (Sum.inl (0, v_zt))
      else none
def P_road_J215 (v_zt : Nat → Int32) (v_roadCount : Int32) (v_wn : Nat) (v_wv : Nat → Nat → Int32) (x1 : Int32) (x2 : Int32) (x4 : Int32) (s0 : Int32) (s1 : Int32) : Option (Int32 × (Nat → Int32)) :=
  if s1 = s0 then
    Option.bind (P4_road v_roadCount v_wn v_wv x1 10) fun r44 =>
    if r44 = (-2000000102) then
      sb0 (P_road_235 v_zt v_roadCount v_wn v_wv x1 x2 x4 FU 0) fun o52 =>
      sb0 (P_road_280 v_zt v_roadCount v_wn v_wv x1 FU 0) fun o57 =>
      if vx 0 40 then
      if vx 3 40 then
      if vx 1 40 then
      if vx 2 40 then
      if (lg_cmp (((Int32.toInt64 (v_zt (Int32.toNatClampNeg 0))) * (Int32.toInt64 (v_zt (Int32.toNatClampNeg 3)))) - ((Int32.toInt64 (v_zt (Int32.toNatClampNeg 1))) * (Int32.toInt64 (v_zt (Int32.toNatClampNeg 2))))) 1) = 0 then
        Option.bind (P4_end v_roadCount v_wn v_wv x1 0) fun r63 =>
        if vx 0 40 then
        if vx 1 40 then
        if r63 = ((v_zt (Int32.toNatClampNeg 0)) + (v_zt (Int32.toNatClampNeg 1))) then
          Option.bind (P4_end v_roadCount v_wn v_wv x1 1) fun r67 =>
          if vx 2 40 then
          if vx 3 40 then
          if r67 = ((v_zt (Int32.toNatClampNeg 2)) + (v_zt (Int32.toNatClampNeg 3))) then
            if vx 0 40 then
            if vx 1 40 then
            if vx 2 40 then
            if vx 3 40 then
            Option.bind (P_gcd ((v_zt (Int32.toNatClampNeg 0)) + (v_zt (Int32.toNatClampNeg 1))) ((v_zt (Int32.toNatClampNeg 2)) + (v_zt (Int32.toNatClampNeg 3)))) fun r75 =>
            if r75 = 1 then
              Option.bind (P_isClosed x2) fun r77 =>
              if r77 = 0 then
                Option.bind (P4_form v_roadCount v_wn v_wv x1 0) fun r109 =>
                if r109 = (-2000000103) then
                  Option.bind (P4_form v_roadCount v_wn v_wv x1 5) fun r111 =>
                  if r111 = (-2000000102) then
                    Option.bind (P4_sign v_roadCount v_wn v_wv x1 x4) fun r113 =>
                    if r113 = (-2000000101) then
                      Option.bind (P4_sign v_roadCount v_wn v_wv x1 (-1)) fun r115 =>
                      if r115 = (-2000000101) then
                        some (1, v_zt)
                      else
                        some (0, v_zt)
                    else
                      some (0, v_zt)
                  else
                    some (0, v_zt)
                else
                  some (0, v_zt)
              else
                if vx 2 40 then
                if vx 3 40 then
                if vx 0 40 then
                Option.bind (P_gcd (v_zt (Int32.toNatClampNeg 2)) ((v_zt (Int32.toNatClampNeg 3)) - (v_zt (Int32.toNatClampNeg 0)))) fun r82 =>
                if vx 1 40 then
                Option.bind (P_gcd r82 (v_zt (Int32.toNatClampNeg 1))) fun r84 =>
                if vx 2 40 then
                if ¬ r84 = 0 then
                if vx 3 40 then
                if vx 0 40 then
                if ¬ r84 = 0 then
                if vx 1 40 then
                if ¬ r84 = 0 then
                if vx 0 40 then
                if vx 3 40 then
                Option.bind (P4_form v_roadCount v_wn v_wv x1 0) fun r94 =>
                if r94 = ((v_zt (Int32.toNatClampNeg 2)) / r84) then
                  Option.bind (P4_form v_roadCount v_wn v_wv x1 1) fun r96 =>
                  if r96 = (((v_zt (Int32.toNatClampNeg 3)) - (v_zt (Int32.toNatClampNeg 0))) / r84) then
                    Option.bind (P4_form v_roadCount v_wn v_wv x1 2) fun r98 =>
                    if r98 = ((-(v_zt (Int32.toNatClampNeg 1))) / r84) then
                      Option.bind (P4_form v_roadCount v_wn v_wv x1 3) fun r100 =>
                      if r100 = r84 then
                        Option.bind (P4_form v_roadCount v_wn v_wv x1 4) fun r102 =>
                        if r102 = (((((v_zt (Int32.toNatClampNeg 3)) - (v_zt (Int32.toNatClampNeg 0))) / r84) * (((v_zt (Int32.toNatClampNeg 3)) - (v_zt (Int32.toNatClampNeg 0))) / r84)) - ((4 * ((v_zt (Int32.toNatClampNeg 2)) / r84)) * ((-(v_zt (Int32.toNatClampNeg 1))) / r84))) then
                          if ((v_zt (Int32.toNatClampNeg 2)) / r84) ≤ 0 then
                            some (0, v_zt)
                          else
                            if 0 ≤ ((-(v_zt (Int32.toNatClampNeg 1))) / r84) then
                              some (0, v_zt)
                            else
                              if (lg_cmp (((Int32.toInt64 ((v_zt (Int32.toNatClampNeg 0)) + (v_zt (Int32.toNatClampNeg 3)))) * (Int32.toInt64 ((v_zt (Int32.toNatClampNeg 0)) + (v_zt (Int32.toNatClampNeg 3))))) - 4) (((Int32.toInt64 r84) * (Int32.toInt64 r84)) * (Int32.toInt64 (((((v_zt (Int32.toNatClampNeg 3)) - (v_zt (Int32.toNatClampNeg 0))) / r84) * (((v_zt (Int32.toNatClampNeg 3)) - (v_zt (Int32.toNatClampNeg 0))) / r84)) - ((4 * ((v_zt (Int32.toNatClampNeg 2)) / r84)) * ((-(v_zt (Int32.toNatClampNeg 1))) / r84)))))) = 0 then
                                Option.bind (P4_sign v_roadCount v_wn v_wv x1 x4) fun r107 =>
                                if r107 = (-2000000101) then
                                  some (1, v_zt)
                                else
                                  some (0, v_zt)
                              else
                                some (0, v_zt)
                        else
                          some (0, v_zt)
                      else
                        some (0, v_zt)
                    else
                      some (0, v_zt)
                  else
                    some (0, v_zt)
                else
                  some (0, v_zt)
                else none
                else none
                else none
                else none
                else none
                else none
                else none
                else none
                else none
                else none
                else none
                else none
                else none
            else
              some (0, v_zt)
            else none
            else none
            else none
            else none
          else
            some (0, v_zt)
          else none
          else none
        else
          some (0, v_zt)
        else none
        else none
      else
        some (0, v_zt)
      else none
      else none
      else none
      else none
    else
      some (0, v_zt)
  else
    some (0, v_zt)
def P_road_J186 (v_zt : Nat → Int32) (v_roadCount : Int32) (v_wn : Nat) (v_wv : Nat → Nat → Int32) (x1 : Int32) (x2 : Int32) (x4 : Int32) (s0 : Int32) (s1 : Int32) : Option (Int32 × (Nat → Int32)) :=
  if s1 = s0 then
    Option.bind (P4_road v_roadCount v_wn v_wv x1 9) fun r38 =>
    Option.bind (P_mirror x2) fun r39 =>
    Option.bind (P_back r39) fun r40 =>
    Option.bind (P_alike x2 r40) fun r41 =>
    if r41 = 0 then
      P_road_J215 v_zt v_roadCount v_wn v_wv x1 x2 x4 0 r38
    else
      P_road_J215 v_zt v_roadCount v_wn v_wv x1 x2 x4 1 r38
  else
    some (0, v_zt)
def P_road_J160 (v_zt : Nat → Int32) (v_roadCount : Int32) (v_wn : Nat) (v_wv : Nat → Nat → Int32) (x1 : Int32) (x2 : Int32) (x4 : Int32) (s0 : Int32) (s1 : Int32) : Option (Int32 × (Nat → Int32)) :=
  if s1 = s0 then
    Option.bind (P4_road v_roadCount v_wn v_wv x1 8) fun r33 =>
    Option.bind (P_mirror x2) fun r34 =>
    Option.bind (P_alike x2 r34) fun r35 =>
    if r35 = 0 then
      P_road_J186 v_zt v_roadCount v_wn v_wv x1 x2 x4 0 r33
    else
      P_road_J186 v_zt v_roadCount v_wn v_wv x1 x2 x4 1 r33
  else
    some (0, v_zt)
def P_road_J132 (v_zt : Nat → Int32) (v_roadCount : Int32) (v_wn : Nat) (v_wv : Nat → Nat → Int32) (x1 : Int32) (x2 : Int32) (x4 : Int32) (s0 : Int32) (s1 : Int32) : Option (Int32 × (Nat → Int32)) :=
  if s1 = s0 then
    Option.bind (P4_road v_roadCount v_wn v_wv x1 7) fun r28 =>
    Option.bind (P_back x2) fun r29 =>
    Option.bind (P_alike x2 r29) fun r30 =>
    if r30 = 0 then
      P_road_J160 v_zt v_roadCount v_wn v_wv x1 x2 x4 0 r28
    else
      P_road_J160 v_zt v_roadCount v_wn v_wv x1 x2 x4 1 r28
  else
    some (0, v_zt)
def P_road (v_zt : Nat → Int32) (v_roadCount : Int32) (v_wn : Nat) (v_wv : Nat → Nat → Int32) (x1 : Int32) (x2 : Int32) : Option (Int32 × (Nat → Int32)) :=
  Option.bind (P_size x2) fun r1 =>
  Option.bind (P_road_9 x2 FU 0) fun o5 =>
  Option.bind (P_table v_zt x2) fun r6 =>
  Option.bind (P4_road v_roadCount v_wn v_wv x1 0) fun r7 =>
  if r7 = r1 then
    Option.bind (P4_road v_roadCount v_wn v_wv x1 1) fun r9 =>
    Option.bind (P_rights x2) fun r10 =>
    if r9 = (r1 - r10) then
      Option.bind (P4_road v_roadCount v_wn v_wv x1 2) fun r12 =>
      Option.bind (P_rights x2) fun r13 =>
      if r12 = r13 then
        Option.bind (P4_road v_roadCount v_wn v_wv x1 3) fun r15 =>
        Option.bind (P_period x2) fun r16 =>
        if r15 = r16 then
          Option.bind (P4_road v_roadCount v_wn v_wv x1 4) fun r18 =>
          if r18 = o5 then
            Option.bind (P4_road v_roadCount v_wn v_wv x1 5) fun r20 =>
            if vx 0 40 then
            if vx 3 40 then
            if r20 = ((r6 (Int32.toNatClampNeg 0)) + (r6 (Int32.toNatClampNeg 3))) then
              Option.bind (P4_road v_roadCount v_wn v_wv x1 6) fun r24 =>
              Option.bind (P_isClosed x2) fun r25 =>
              if r25 = 0 then
                P_road_J132 r6 v_roadCount v_wn v_wv x1 x2 r1 0 r24
              else
                P_road_J132 r6 v_roadCount v_wn v_wv x1 x2 r1 1 r24
            else
              some (0, r6)
            else none
            else none
          else
            some (0, r6)
        else
          some (0, r6)
      else
        some (0, r6)
    else
      some (0, r6)
  else
    some (0, r6)
def P_stands_57 (v_zw : Nat → Int32) (x6 : Int32) : Nat → Int32 → Int32 → Option (Int32)
  | 0, _, _ => none
  | n + 1, x7, x8 =>
    if x6 ≤ x8 then
      some x7
    else
      if vx x6 6 then
      if vx x8 6 then
      Option.bind (P_alike (v_zw (Int32.toNatClampNeg x6)) (v_zw (Int32.toNatClampNeg x8))) fun r11 =>
      if r11 = 0 then
        P_stands_57 v_zw x6 n (x7 &&& 1) (x8 + 1)
      else
        P_stands_57 v_zw x6 n (x7 &&& 0) (x8 + 1)
      else none
      else none
def P_stands_133 (v_zw : Nat → Int32) (x6 : Int32) (x8 : Int32) : Nat → Int32 → Int32 → Option (Int32)
  | 0, _, _ => none
  | n + 1, x9, x10 =>
    if x10 < 0 then
      some x9
    else
      if vx x6 6 then
      Option.bind (P_turned (v_zw (Int32.toNatClampNeg x6)) x10) fun r20 =>
      if vx x8 6 then
      if r20 = (v_zw (Int32.toNatClampNeg x8)) then
        P_stands_133 v_zw x6 x8 n x10 (x10 + (-1))
      else
        P_stands_133 v_zw x6 x8 n x9 (x10 + (-1))
      else none
      else none
def P_stands_112 (v_zw : Nat → Int32) (v_zt : Nat → Int32) (v_roadCount : Int32) (v_wn : Nat) (v_wv : Nat → Nat → Int32) (x2 : Int32) (x6 : Int32) : Nat → Int32 → Option ((Int32 × (Nat → Int32)) ⊕ (Unit))
  | 0, _ => none
  | n + 1, x8 =>
    if x2 ≤ x8 then
      some (Sum.inr ())
    else
      if vx x6 6 then
      Option.bind (P_size (v_zw (Int32.toNatClampNeg x6))) fun r17 =>
      Option.bind (P_stands_133 v_zw x6 x8 FU (-2000000001) (r17 - 1)) fun o23 =>
      Option.bind (P4_alike v_roadCount v_wn v_wv x6 x8) fun r24 =>
      if r24 = o23 then
        P_stands_112 v_zw v_zt v_roadCount v_wn v_wv x2 x6 n (x8 + 1)
      else
        some (Sum.inl (0, v_zt))
      else none
def P_stands_9 (v_zw : Nat → Int32) (v_roadCount : Int32) (v_wn : Nat) (v_wv : Nat → Nat → Int32) (x2 : Int32) : Nat → (Nat → Int32) → Int32 → Int32 → Int32 → Option ((Int32 × (Nat → Int32)) ⊕ ((Nat → Int32) × Int32 × Int32))
  | 0, _, _, _, _ => none
  | n + 1, v_zt, x4, x5, x6 =>
    if x2 ≤ x6 then
      some (Sum.inr (v_zt, x4, x5))
    else
      if vx x6 6 then
      Option.bind (P_road v_zt v_roadCount v_wn v_wv x6 (v_zw (Int32.toNatClampNeg x6))) fun r3 =>
      if r3.1 = 0 then
        some (Sum.inl (0, r3.2))
      else
        if vx x6 6 then
        Option.bind (P_isClosed (v_zw (Int32.toNatClampNeg x6))) fun r6 =>
        if r6 = 0 then
          Option.bind (P_stands_57 v_zw x6 FU 1 0) fun o13 =>
          if o13 = 0 then
            sb1 (P_stands_112 v_zw r3.2 v_roadCount v_wn v_wv x2 x6 FU 0) fun o26 =>
            P_stands_9 v_zw v_roadCount v_wn v_wv x2 n r3.2 (x4 + 0) (x5 + 0) (x6 + 1)
          else
            sb1 (P_stands_112 v_zw r3.2 v_roadCount v_wn v_wv x2 x6 FU 0) fun o27 =>
            P_stands_9 v_zw v_roadCount v_wn v_wv x2 n r3.2 (x4 + 0) (x5 + 1) (x6 + 1)
        else
          Option.bind (P_stands_57 v_zw x6 FU 1 0) fun o28 =>
          if o28 = 0 then
            sb1 (P_stands_112 v_zw r3.2 v_roadCount v_wn v_wv x2 x6 FU 0) fun o30 =>
            P_stands_9 v_zw v_roadCount v_wn v_wv x2 n r3.2 (x4 + 1) (x5 + 0) (x6 + 1)
          else
            sb1 (P_stands_112 v_zw r3.2 v_roadCount v_wn v_wv x2 x6 FU 0) fun o31 =>
            P_stands_9 v_zw v_roadCount v_wn v_wv x2 n r3.2 (x4 + 1) (x5 + 1) (x6 + 1)
        else none
      else none
def P_stands (v_zw : Nat → Int32) (v_zt : Nat → Int32) (v_roadCount : Int32) (v_readings : Int32) (v_psize : Int32) (v_rsize : Int32) (v_cycleCount : Int32) (v_wn : Nat) (v_wv : Nat → Nat → Int32) (x2 : Int32) : Option (Int32 × (Nat → Int32)) :=
  sb0 (P_stands_9 v_zw v_roadCount v_wn v_wv x2 FU v_zt 0 0 0) fun o32 =>
  Option.bind (P4_count v_roadCount v_readings v_psize v_rsize v_cycleCount v_wn v_wv 0) fun r33 =>
  if r33 = x2 then
    Option.bind (P4_count v_roadCount v_readings v_psize v_rsize v_cycleCount v_wn v_wv 1) fun r35 =>
    if r35 = o32.2.1 then
      Option.bind (P4_count v_roadCount v_readings v_psize v_rsize v_cycleCount v_wn v_wv 2) fun r37 =>
      if r37 = o32.2.2 then
        Option.bind (P4_road v_roadCount v_wn v_wv x2 0) fun r39 =>
        if r39 = (-2000000101) then
          Option.bind (P4_road v_roadCount v_wn v_wv (-1) 0) fun r41 =>
          if r41 = (-2000000101) then
            Option.bind (P4_sign v_roadCount v_wn v_wv x2 0) fun r43 =>
            if r43 = (-2000000101) then
              Option.bind (P4_table v_roadCount v_wn v_wv x2 0) fun r45 =>
              if r45 = (-2000000101) then
                Option.bind (P4_form v_roadCount v_wn v_wv x2 9) fun r47 =>
                if r47 = (-2000000101) then
                  Option.bind (P4_end v_roadCount v_wn v_wv x2 0) fun r49 =>
                  if r49 = (-2000000101) then
                    Option.bind (P4_alike v_roadCount v_wn v_wv x2 0) fun r51 =>
                    if r51 = (-2000000101) then
                      Option.bind (P4_cross v_roadCount v_wn v_wv 0 x2) fun r53 =>
                      if r53 = (-2000000101) then
                        if x2 = 0 then
                          some (1, o32.1)
                        else
                          Option.bind (P4_table v_roadCount v_wn v_wv 0 4) fun r56 =>
                          if r56 = (-2000000102) then
                            Option.bind (P4_end v_roadCount v_wn v_wv 0 2) fun r58 =>
                            if r58 = (-2000000102) then
                              some (1, o32.1)
                            else
                              some (0, o32.1)
                          else
                            some (0, o32.1)
                      else
                        some (0, o32.1)
                    else
                      some (0, o32.1)
                  else
                    some (0, o32.1)
                else
                  some (0, o32.1)
              else
                some (0, o32.1)
            else
              some (0, o32.1)
          else
            some (0, o32.1)
        else
          some (0, o32.1)
      else
        some (0, o32.1)
    else
      some (0, o32.1)
  else
    some (0, o32.1)
def P_crosses_10 (v_zw : Nat → Int32) (v_roadCount : Int32) (v_wn : Nat) (v_wv : Nat → Nat → Int32) (x2 : Int32) (x3 : Int32) : Nat → Int32 → Option ((Int32) ⊕ (Unit))
  | 0, _ => none
  | n + 1, x4 =>
    if x2 ≤ x4 then
      some (Sum.inr ())
    else
      if vx x3 6 then
      Option.bind (P_isClosed (v_zw (Int32.toNatClampNeg x3))) fun r4 =>
      if r4 = 0 then
        Option.bind (P4_cross v_roadCount v_wn v_wv x3 x4) fun r6 =>
        if r6 = (-2000000103) then
          P_crosses_10 v_zw v_roadCount v_wn v_wv x2 x3 n (x4 + 1)
        else
          some (Sum.inl 0)
      else
        if vx x4 6 then
        Option.bind (P_isClosed (v_zw (Int32.toNatClampNeg x4))) fun r9 =>
        if r9 = 0 then
          Option.bind (P4_cross v_roadCount v_wn v_wv x3 x4) fun r11 =>
          if r11 = (-2000000103) then
            P_crosses_10 v_zw v_roadCount v_wn v_wv x2 x3 n (x4 + 1)
          else
            some (Sum.inl 0)
        else
          if vx x3 6 then
          if vx x4 6 then
          Option.bind (P_crossings (v_zw (Int32.toNatClampNeg x3)) (v_zw (Int32.toNatClampNeg x4))) fun r15 =>
          Option.bind (P4_cross v_roadCount v_wn v_wv x3 x4) fun r16 =>
          if r16 = r15 then
            if vx x4 6 then
            if vx x3 6 then
            Option.bind (P_crossings (v_zw (Int32.toNatClampNeg x4)) (v_zw (Int32.toNatClampNeg x3))) fun r20 =>
            if r20 = r15 then
              if vx x3 6 then
              Option.bind (P_turned (v_zw (Int32.toNatClampNeg x3)) 1) fun r23 =>
              if vx x4 6 then
              Option.bind (P_crossings r23 (v_zw (Int32.toNatClampNeg x4))) fun r25 =>
              if r25 = r15 then
                if vx x3 6 then
                Option.bind (P_mirror (v_zw (Int32.toNatClampNeg x3))) fun r28 =>
                if vx x4 6 then
                Option.bind (P_mirror (v_zw (Int32.toNatClampNeg x4))) fun r30 =>
                Option.bind (P_crossings r28 r30) fun r31 =>
                if r31 = r15 then
                  if vx x3 6 then
                  Option.bind (P_back (v_zw (Int32.toNatClampNeg x3))) fun r34 =>
                  if vx x4 6 then
                  Option.bind (P_back (v_zw (Int32.toNatClampNeg x4))) fun r36 =>
                  Option.bind (P_crossings r34 r36) fun r37 =>
                  if r37 = r15 then
                    if vx x3 6 then
                    Option.bind (P_size (v_zw (Int32.toNatClampNeg x3))) fun r40 =>
                    if 11 ≤ r40 then
                      if vx x3 6 then
                      if vx x4 6 then
                      Option.bind (P_alike (v_zw (Int32.toNatClampNeg x3)) (v_zw (Int32.toNatClampNeg x4))) fun r44 =>
                      if r44 = 0 then
                        P_crosses_10 v_zw v_roadCount v_wn v_wv x2 x3 n (x4 + 1)
                      else
                        if (jrem r15 2) = 0 then
                          P_crosses_10 v_zw v_roadCount v_wn v_wv x2 x3 n (x4 + 1)
                        else
                          some (Sum.inl 0)
                      else none
                      else none
                    else
                      if vx x3 6 then
                      if vx x3 6 then
                      Option.bind (P_join (v_zw (Int32.toNatClampNeg x3)) (v_zw (Int32.toNatClampNeg x3))) fun r49 =>
                      if vx x4 6 then
                      Option.bind (P_crossings r49 (v_zw (Int32.toNatClampNeg x4))) fun r51 =>
                      if r51 = (2 * r15) then
                        if vx x3 6 then
                        if vx x4 6 then
                        Option.bind (P_alike (v_zw (Int32.toNatClampNeg x3)) (v_zw (Int32.toNatClampNeg x4))) fun r55 =>
                        if r55 = 0 then
                          P_crosses_10 v_zw v_roadCount v_wn v_wv x2 x3 n (x4 + 1)
                        else
                          if (jrem r15 2) = 0 then
                            P_crosses_10 v_zw v_roadCount v_wn v_wv x2 x3 n (x4 + 1)
                          else
                            some (Sum.inl 0)
                        else none
                        else none
                      else
                        some (Sum.inl 0)
                      else none
                      else none
                      else none
                    else none
                  else
                    some (Sum.inl 0)
                  else none
                  else none
                else
                  some (Sum.inl 0)
                else none
                else none
              else
                some (Sum.inl 0)
              else none
              else none
            else
              some (Sum.inl 0)
            else none
            else none
          else
            some (Sum.inl 0)
          else none
          else none
        else none
      else none
def P_crosses_2 (v_zw : Nat → Int32) (v_roadCount : Int32) (v_wn : Nat) (v_wv : Nat → Nat → Int32) (x2 : Int32) : Nat → Int32 → Option ((Int32) ⊕ (Unit))
  | 0, _ => none
  | n + 1, x3 =>
    if x2 ≤ x3 then
      some (Sum.inr ())
    else
      sb1 (P_crosses_10 v_zw v_roadCount v_wn v_wv x2 x3 FU 0) fun o58 =>
      P_crosses_2 v_zw v_roadCount v_wn v_wv x2 n (x3 + 1)
def P_crosses (v_zw : Nat → Int32) (v_roadCount : Int32) (v_wn : Nat) (v_wv : Nat → Nat → Int32) (x2 : Int32) : Option (Int32) :=
  sb0 (P_crosses_2 v_zw v_roadCount v_wn v_wv x2 FU 0) fun o59 =>
  some 1
def P_comes (v_zw : Nat → Int32) (x1 : Int32) (x2 : Int32) (x3 : Int32) : Option (Int32 × (Nat → Int32)) :=
  if x3 ≤ 20 then
    if x1 = 6 then
      some ((-2000000104), v_zw)
    else
      if vx x1 6 then
      some (x1, upd v_zw (Int32.toNatClampNeg x1) x2)
      else none
  else
    some ((-2000000103), v_zw)
def P_cutTo_7  : Nat → Int32 → Int32 → Int32 → Option (Int32)
  | 0, _, _, _ => none
  | n + 1, x2, x3, x4 =>
    if x2 = x3 then
      some x4
    else
      Option.bind (P_size x4) fun r2 =>
      if 25 ≤ r2 then
        some x4
      else
        Option.bind (P_size x4) fun r4 =>
        if r4 ≤ 20 then
          if x2 ≤ x3 then
            Option.bind (P_with x4 0) fun r7 =>
            if x2 ≤ x3 then
              P_cutTo_7 n x2 (x3 - x2) r7
            else
              P_cutTo_7 n (x2 - x3) x3 r7
          else
            Option.bind (P_with x4 1) fun r9 =>
            if x2 ≤ x3 then
              P_cutTo_7 n x2 (x3 - x2) r9
            else
              P_cutTo_7 n (x2 - x3) x3 r9
        else
          if x2 ≤ x3 then
            P_cutTo_7 n x2 (x3 - x2) (x4 + 1)
          else
            P_cutTo_7 n (x2 - x3) x3 (x4 + 1)
def P_cutTo (x0 : Int32) (x1 : Int32) : Option (Int32) :=
  Option.bind (P_cutTo_7 FU x0 x1 0) fun o12 =>
  some o12
def P_does_J63 (v_zw : Nat → Int32) (v_zd : Nat → Int32) (v_zt : Nat → Int32) (v_roadCount : Int32) (v_readings : Int32) (v_psize : Int32) (v_good : Int32) (v_pbits : Int32) (v_letters : Int32) (v_afterLetter : Int32) (v_codes : Nat → Int32) (v_rsize : Int32) (v_cycleCount : Int32) (v_wn : Nat) (v_wv : Nat → Nat → Int32) (x3 : Int32) (x4 : Int32) (x6 : Int32) : Option (Int32 × (Nat → Int32) × (Nat → Int32) × (Nat → Int32) × Int32 × Int32 × Int32 × Int32 × Int32 × Int32 × Int32 × (Nat → Int32) × Nat × (Nat → Nat → Int32)) :=
  Option.bind (P_wordBy x4 20) fun r8 =>
  Option.bind (P_write v_zt r8 (jshr x3 9)) fun r9 =>
  Option.bind (P_spell r9.2 v_psize v_good v_pbits v_letters v_afterLetter v_codes r9.1) fun r10 =>
  if r10.1 = 0 then
    some (0, v_zw, v_zd, r9.2, v_roadCount, v_readings, r10.2.1, r10.2.2.1, r10.2.2.2.1, r10.2.2.2.2.1, r10.2.2.2.2.2.1, r10.2.2.2.2.2.2, v_wn, v_wv)
  else
    Option.bind (P4_fault r10.2.2.1) fun r12 =>
    if r12 = r9.1 then
      if x6 = 6 then
        Option.bind (P4_word v_roadCount v_readings r10.2.1 r10.2.2.1 r10.2.2.2.1 r10.2.2.2.2.1 r10.2.2.2.2.2.1 v_wn v_wv) fun r27 =>
        if r27.1 = (-2000000104) then
          Option.bind (P4_count r27.2.1 r27.2.2.1 r27.2.2.2.1 v_rsize v_cycleCount r27.2.2.2.2.2.2.2.2.1 r27.2.2.2.2.2.2.2.2.2 3) fun r29 =>
          if r29 = r9.1 then
            Option.bind (P4_blank r27.2.2.2.1) fun r31 =>
            if r31.1 = r9.1 then
              some (1, v_zw, v_zd, r9.2, r27.2.1, r27.2.2.1, r31.2.1, r31.2.2.1, r31.2.2.2.1, r31.2.2.2.2.1, r31.2.2.2.2.2, r10.2.2.2.2.2.2, r27.2.2.2.2.2.2.2.2.1, r27.2.2.2.2.2.2.2.2.2)
            else
              some (0, v_zw, v_zd, r9.2, r27.2.1, r27.2.2.1, r31.2.1, r31.2.2.1, r31.2.2.2.1, r31.2.2.2.2.1, r31.2.2.2.2.2, r10.2.2.2.2.2.2, r27.2.2.2.2.2.2.2.2.1, r27.2.2.2.2.2.2.2.2.2)
          else
            some (0, v_zw, v_zd, r9.2, r27.2.1, r27.2.2.1, r27.2.2.2.1, r27.2.2.2.2.1, r27.2.2.2.2.2.1, r27.2.2.2.2.2.2.1, r27.2.2.2.2.2.2.2.1, r10.2.2.2.2.2.2, r27.2.2.2.2.2.2.2.2.1, r27.2.2.2.2.2.2.2.2.2)
        else
          some (0, v_zw, v_zd, r9.2, r27.2.1, r27.2.2.1, r27.2.2.2.1, r27.2.2.2.2.1, r27.2.2.2.2.2.1, r27.2.2.2.2.2.2.1, r27.2.2.2.2.2.2.2.1, r10.2.2.2.2.2.2, r27.2.2.2.2.2.2.2.2.1, r27.2.2.2.2.2.2.2.2.2)
      else
        if vx x6 6 then
        if vx 0 2 then
        if vx 0 2 then
        if vx 1 2 then
        if vx 1 2 then
        Option.bind (P4_word v_roadCount v_readings r10.2.1 r10.2.2.1 r10.2.2.2.1 r10.2.2.2.2.1 r10.2.2.2.2.2.1 v_wn v_wv) fun r20 =>
        if r20.1 = x6 then
          Option.bind (P4_count r20.2.1 r20.2.2.1 r20.2.2.2.1 v_rsize v_cycleCount r20.2.2.2.2.2.2.2.2.1 r20.2.2.2.2.2.2.2.2.2 3) fun r22 =>
          if r22 = 0 then
            Option.bind (P4_count r20.2.1 r20.2.2.1 r20.2.2.2.1 v_rsize v_cycleCount r20.2.2.2.2.2.2.2.2.1 r20.2.2.2.2.2.2.2.2.2 4) fun r24 =>
            if vx 1 2 then
            if r24 = ((upd (upd v_zd (Int32.toNatClampNeg 0) ((v_zd (Int32.toNatClampNeg 0)) + 1)) (Int32.toNatClampNeg 1) (((upd v_zd (Int32.toNatClampNeg 0) ((v_zd (Int32.toNatClampNeg 0)) + 1)) (Int32.toNatClampNeg 1)) + 1)) (Int32.toNatClampNeg 1)) then
              some (1, upd v_zw (Int32.toNatClampNeg x6) r8, upd (upd v_zd (Int32.toNatClampNeg 0) ((v_zd (Int32.toNatClampNeg 0)) + 1)) (Int32.toNatClampNeg 1) (((upd v_zd (Int32.toNatClampNeg 0) ((v_zd (Int32.toNatClampNeg 0)) + 1)) (Int32.toNatClampNeg 1)) + 1), r9.2, r20.2.1, r20.2.2.1, r20.2.2.2.1, r20.2.2.2.2.1, r20.2.2.2.2.2.1, r20.2.2.2.2.2.2.1, r20.2.2.2.2.2.2.2.1, r10.2.2.2.2.2.2, r20.2.2.2.2.2.2.2.2.1, r20.2.2.2.2.2.2.2.2.2)
            else
              some (0, upd v_zw (Int32.toNatClampNeg x6) r8, upd (upd v_zd (Int32.toNatClampNeg 0) ((v_zd (Int32.toNatClampNeg 0)) + 1)) (Int32.toNatClampNeg 1) (((upd v_zd (Int32.toNatClampNeg 0) ((v_zd (Int32.toNatClampNeg 0)) + 1)) (Int32.toNatClampNeg 1)) + 1), r9.2, r20.2.1, r20.2.2.1, r20.2.2.2.1, r20.2.2.2.2.1, r20.2.2.2.2.2.1, r20.2.2.2.2.2.2.1, r20.2.2.2.2.2.2.2.1, r10.2.2.2.2.2.2, r20.2.2.2.2.2.2.2.2.1, r20.2.2.2.2.2.2.2.2.2)
            else none
          else
            some (0, upd v_zw (Int32.toNatClampNeg x6) r8, upd (upd v_zd (Int32.toNatClampNeg 0) ((v_zd (Int32.toNatClampNeg 0)) + 1)) (Int32.toNatClampNeg 1) (((upd v_zd (Int32.toNatClampNeg 0) ((v_zd (Int32.toNatClampNeg 0)) + 1)) (Int32.toNatClampNeg 1)) + 1), r9.2, r20.2.1, r20.2.2.1, r20.2.2.2.1, r20.2.2.2.2.1, r20.2.2.2.2.2.1, r20.2.2.2.2.2.2.1, r20.2.2.2.2.2.2.2.1, r10.2.2.2.2.2.2, r20.2.2.2.2.2.2.2.2.1, r20.2.2.2.2.2.2.2.2.2)
        else
          some (0, upd v_zw (Int32.toNatClampNeg x6) r8, upd (upd v_zd (Int32.toNatClampNeg 0) ((v_zd (Int32.toNatClampNeg 0)) + 1)) (Int32.toNatClampNeg 1) (((upd v_zd (Int32.toNatClampNeg 0) ((v_zd (Int32.toNatClampNeg 0)) + 1)) (Int32.toNatClampNeg 1)) + 1), r9.2, r20.2.1, r20.2.2.1, r20.2.2.2.1, r20.2.2.2.2.1, r20.2.2.2.2.2.1, r20.2.2.2.2.2.2.1, r20.2.2.2.2.2.2.2.1, r10.2.2.2.2.2.2, r20.2.2.2.2.2.2.2.2.1, r20.2.2.2.2.2.2.2.2.2)
        else none
        else none
        else none
        else none
        else none
    else
      some (0, v_zw, v_zd, r9.2, v_roadCount, v_readings, r10.2.1, r10.2.2.1, r10.2.2.2.1, r10.2.2.2.2.1, r10.2.2.2.2.2.1, r10.2.2.2.2.2.2, v_wn, v_wv)
def P_does_J741 (v_zw : Nat → Int32) (v_zd : Nat → Int32) (v_zt : Nat → Int32) (v_roadCount : Int32) (v_readings : Int32) (v_psize : Int32) (v_good : Int32) (v_pbits : Int32) (v_letters : Int32) (v_afterLetter : Int32) (v_codes : Nat → Int32) (v_wn : Nat) (v_wv : Nat → Nat → Int32) (x6 : Int32) (x10 : Int32) (s0 : Int32) (s1 : Int32) (s2 : Int32) : Option (Int32 × (Nat → Int32) × (Nat → Int32) × (Nat → Int32) × Int32 × Int32 × Int32 × Int32 × Int32 × Int32 × Int32 × (Nat → Int32) × Nat × (Nat → Nat → Int32)) :=
  Option.bind (P_at s1 s0) fun r70 =>
  Option.bind (P4_cut v_roadCount v_wn v_wv 0 1) fun r71 =>
  if r71.1 = (-2000000102) then
    Option.bind (P4_cut r71.2.1 r71.2.2.1 r71.2.2.2 1 1) fun r73 =>
    if r73.1 = (-2000000102) then
      Option.bind (P4_cut r73.2.1 r73.2.2.1 r73.2.2.2 100 1) fun r75 =>
      if r75.1 = (-2000000102) then
        Option.bind (P4_cut r75.2.1 r75.2.2.1 r75.2.2.2 4 2) fun r77 =>
        if r77.1 = (-2000000102) then
          Option.bind (P_gcd x10 (s2 + r70)) fun r79 =>
          if 1 < r79 then
            Option.bind (P4_cut r77.2.1 r77.2.2.1 r77.2.2.2 x10 (s2 + r70)) fun r81 =>
            if r81.1 = (-2000000102) then
              some (1, v_zw, v_zd, v_zt, r81.2.1, v_readings, v_psize, v_good, v_pbits, v_letters, v_afterLetter, v_codes, r81.2.2.1, r81.2.2.2)
            else
              some (0, v_zw, v_zd, v_zt, r81.2.1, v_readings, v_psize, v_good, v_pbits, v_letters, v_afterLetter, v_codes, r81.2.2.1, r81.2.2.2)
          else
            if x10 = (s2 + r70) then
              Option.bind (P4_cut r77.2.1 r77.2.2.1 r77.2.2.2 x10 (s2 + r70)) fun r105 =>
              if r105.1 = (-2000000102) then
                some (1, v_zw, v_zd, v_zt, r105.2.1, v_readings, v_psize, v_good, v_pbits, v_letters, v_afterLetter, v_codes, r105.2.2.1, r105.2.2.2)
              else
                some (0, v_zw, v_zd, v_zt, r105.2.1, v_readings, v_psize, v_good, v_pbits, v_letters, v_afterLetter, v_codes, r105.2.2.1, r105.2.2.2)
            else
              Option.bind (P_cutTo x10 (s2 + r70)) fun r84 =>
              Option.bind (P_size r84) fun r85 =>
              Option.bind (P_comes v_zw x6 r84 r85) fun r86 =>
              if vx 0 2 then
              if r86.1 = x6 then
                if vx 0 2 then
                Option.bind (P4_cut r77.2.1 r77.2.2.1 r77.2.2.2 x10 (s2 + r70)) fun r98 =>
                if r98.1 = r86.1 then
                  if r86.1 < 0 then
                    some (1, r86.2, upd v_zd (Int32.toNatClampNeg 0) ((v_zd (Int32.toNatClampNeg 0)) + 1), v_zt, r98.2.1, v_readings, v_psize, v_good, v_pbits, v_letters, v_afterLetter, v_codes, r98.2.2.1, r98.2.2.2)
                  else
                    Option.bind (P4_end r98.2.1 r98.2.2.1 r98.2.2.2 r86.1 0) fun r101 =>
                    if r101 = x10 then
                      Option.bind (P4_end r98.2.1 r98.2.2.1 r98.2.2.2 r86.1 1) fun r103 =>
                      if r103 = (s2 + r70) then
                        some (1, r86.2, upd v_zd (Int32.toNatClampNeg 0) ((v_zd (Int32.toNatClampNeg 0)) + 1), v_zt, r98.2.1, v_readings, v_psize, v_good, v_pbits, v_letters, v_afterLetter, v_codes, r98.2.2.1, r98.2.2.2)
                      else
                        some (0, r86.2, upd v_zd (Int32.toNatClampNeg 0) ((v_zd (Int32.toNatClampNeg 0)) + 1), v_zt, r98.2.1, v_readings, v_psize, v_good, v_pbits, v_letters, v_afterLetter, v_codes, r98.2.2.1, r98.2.2.2)
                    else
                      some (0, r86.2, upd v_zd (Int32.toNatClampNeg 0) ((v_zd (Int32.toNatClampNeg 0)) + 1), v_zt, r98.2.1, v_readings, v_psize, v_good, v_pbits, v_letters, v_afterLetter, v_codes, r98.2.2.1, r98.2.2.2)
                else
                  some (0, r86.2, upd v_zd (Int32.toNatClampNeg 0) ((v_zd (Int32.toNatClampNeg 0)) + 1), v_zt, r98.2.1, v_readings, v_psize, v_good, v_pbits, v_letters, v_afterLetter, v_codes, r98.2.2.1, r98.2.2.2)
                else none
              else
                if vx 0 2 then
                Option.bind (P4_cut r77.2.1 r77.2.2.1 r77.2.2.2 x10 (s2 + r70)) fun r90 =>
                if r90.1 = r86.1 then
                  if r86.1 < 0 then
                    some (1, r86.2, upd v_zd (Int32.toNatClampNeg 0) ((v_zd (Int32.toNatClampNeg 0)) + 0), v_zt, r90.2.1, v_readings, v_psize, v_good, v_pbits, v_letters, v_afterLetter, v_codes, r90.2.2.1, r90.2.2.2)
                  else
                    Option.bind (P4_end r90.2.1 r90.2.2.1 r90.2.2.2 r86.1 0) fun r93 =>
                    if r93 = x10 then
                      Option.bind (P4_end r90.2.1 r90.2.2.1 r90.2.2.2 r86.1 1) fun r95 =>
                      if r95 = (s2 + r70) then
                        some (1, r86.2, upd v_zd (Int32.toNatClampNeg 0) ((v_zd (Int32.toNatClampNeg 0)) + 0), v_zt, r90.2.1, v_readings, v_psize, v_good, v_pbits, v_letters, v_afterLetter, v_codes, r90.2.2.1, r90.2.2.2)
                      else
                        some (0, r86.2, upd v_zd (Int32.toNatClampNeg 0) ((v_zd (Int32.toNatClampNeg 0)) + 0), v_zt, r90.2.1, v_readings, v_psize, v_good, v_pbits, v_letters, v_afterLetter, v_codes, r90.2.2.1, r90.2.2.2)
                    else
                      some (0, r86.2, upd v_zd (Int32.toNatClampNeg 0) ((v_zd (Int32.toNatClampNeg 0)) + 0), v_zt, r90.2.1, v_readings, v_psize, v_good, v_pbits, v_letters, v_afterLetter, v_codes, r90.2.2.1, r90.2.2.2)
                else
                  some (0, r86.2, upd v_zd (Int32.toNatClampNeg 0) ((v_zd (Int32.toNatClampNeg 0)) + 0), v_zt, r90.2.1, v_readings, v_psize, v_good, v_pbits, v_letters, v_afterLetter, v_codes, r90.2.2.1, r90.2.2.2)
                else none
              else none
        else
          some (0, v_zw, v_zd, v_zt, r77.2.1, v_readings, v_psize, v_good, v_pbits, v_letters, v_afterLetter, v_codes, r77.2.2.1, r77.2.2.2)
      else
        some (0, v_zw, v_zd, v_zt, r75.2.1, v_readings, v_psize, v_good, v_pbits, v_letters, v_afterLetter, v_codes, r75.2.2.1, r75.2.2.2)
    else
      some (0, v_zw, v_zd, v_zt, r73.2.1, v_readings, v_psize, v_good, v_pbits, v_letters, v_afterLetter, v_codes, r73.2.2.1, r73.2.2.2)
  else
    some (0, v_zw, v_zd, v_zt, r71.2.1, v_readings, v_psize, v_good, v_pbits, v_letters, v_afterLetter, v_codes, r71.2.2.1, r71.2.2.2)
def P_does_J710 (v_zw : Nat → Int32) (v_zd : Nat → Int32) (v_zt : Nat → Int32) (v_roadCount : Int32) (v_readings : Int32) (v_psize : Int32) (v_good : Int32) (v_pbits : Int32) (v_letters : Int32) (v_afterLetter : Int32) (v_codes : Nat → Int32) (v_wn : Nat) (v_wv : Nat → Nat → Int32) (x4 : Int32) (x6 : Int32) (s0 : Int32) (s1 : Int32) (s2 : Int32) : Option (Int32 × (Nat → Int32) × (Nat → Int32) × (Nat → Int32) × Int32 × Int32 × Int32 × Int32 × Int32 × Int32 × Int32 × (Nat → Int32) × Nat × (Nat → Nat → Int32)) :=
  Option.bind (P_at s1 s0) fun r67 =>
  Option.bind (P_at (jshr x4 14) 3) fun r68 =>
  if r68 = 0 then
    P_does_J741 v_zw v_zd v_zt v_roadCount v_readings v_psize v_good v_pbits v_letters v_afterLetter v_codes v_wn v_wv x6 (s2 + r67) 99 (jshr x4 7) 1
  else
    P_does_J741 v_zw v_zd v_zt v_roadCount v_readings v_psize v_good v_pbits v_letters v_afterLetter v_codes v_wn v_wv x6 (s2 + r67) 20 (jshr x4 7) 1
def P_does_548 (v_zw : Nat → Int32) (x8 : Int32) (x10 : Int32) : Nat → Int32 → Int32 → Option (Int32)
  | 0, _, _ => none
  | n + 1, x11, x12 =>
    if x10 ≤ x12 then
      some x11
    else
      if vx x8 6 then
      Option.bind (P_size (v_zw (Int32.toNatClampNeg x8))) fun r111 =>
      if 21 ≤ (x10 * r111) then
        some x11
      else
        if vx x8 6 then
        Option.bind (P_join x11 (v_zw (Int32.toNatClampNeg x8))) fun r114 =>
        P_does_548 v_zw x8 x10 n r114 (x12 + 1)
        else none
      else none
def P_does_J50 (v_zw : Nat → Int32) (v_zd : Nat → Int32) (v_zt : Nat → Int32) (v_roadCount : Int32) (v_readings : Int32) (v_psize : Int32) (v_good : Int32) (v_pbits : Int32) (v_letters : Int32) (v_afterLetter : Int32) (v_codes : Nat → Int32) (v_rsize : Int32) (v_cycleCount : Int32) (v_wn : Nat) (v_wv : Nat → Nat → Int32) (x3 : Int32) (x4 : Int32) (x6 : Int32) (x7 : Int32) (x8 : Int32) (s0 : Int32) : Option (Int32 × (Nat → Int32) × (Nat → Int32) × (Nat → Int32) × Int32 × Int32 × Int32 × Int32 × Int32 × Int32 × Int32 × (Nat → Int32) × Nat × (Nat → Nat → Int32)) :=
  if x7 < 2 then
    P_does_J63 v_zw v_zd v_zt v_roadCount v_readings v_psize v_good v_pbits v_letters v_afterLetter v_codes v_rsize v_cycleCount v_wn v_wv x3 x4 x6
  else
    if x6 = 0 then
      P_does_J63 v_zw v_zd v_zt v_roadCount v_readings v_psize v_good v_pbits v_letters v_afterLetter v_codes v_rsize v_cycleCount v_wn v_wv x3 x4 x6
    else
      if x7 = 2 then
        if vx x8 6 then
        Option.bind (P_size (v_zw (Int32.toNatClampNeg x8))) fun r216 =>
        Option.bind (P_at x4 r216) fun r217 =>
        if vx x8 6 then
        Option.bind (P_size (v_zw (Int32.toNatClampNeg x8))) fun r219 =>
        Option.bind (P4_turn v_roadCount v_wn v_wv x8 r219) fun r220 =>
        if r220.1 = (-2000000102) then
          Option.bind (P4_turn v_roadCount v_wn r220.2 x8 (-1)) fun r222 =>
          if r222.1 = (-2000000102) then
            Option.bind (P4_turn v_roadCount v_wn r222.2 x6 0) fun r224 =>
            if r224.1 = (-2000000101) then
              if vx x8 6 then
              Option.bind (P_turned (v_zw (Int32.toNatClampNeg x8)) r217) fun r227 =>
              if vx x8 6 then
              Option.bind (P4_turn v_roadCount v_wn r224.2 x8 r217) fun r229 =>
              if vx x8 6 then
              Option.bind (P_period ((upd v_zw (Int32.toNatClampNeg x8) r227) (Int32.toNatClampNeg x8))) fun r231 =>
              if r229.1 = r231 then
                some (1, upd v_zw (Int32.toNatClampNeg x8) r227, v_zd, v_zt, v_roadCount, v_readings, v_psize, v_good, v_pbits, v_letters, v_afterLetter, v_codes, v_wn, r229.2)
              else
                some (0, upd v_zw (Int32.toNatClampNeg x8) r227, v_zd, v_zt, v_roadCount, v_readings, v_psize, v_good, v_pbits, v_letters, v_afterLetter, v_codes, v_wn, r229.2)
              else none
              else none
              else none
            else
              some (0, v_zw, v_zd, v_zt, v_roadCount, v_readings, v_psize, v_good, v_pbits, v_letters, v_afterLetter, v_codes, v_wn, r224.2)
          else
            some (0, v_zw, v_zd, v_zt, v_roadCount, v_readings, v_psize, v_good, v_pbits, v_letters, v_afterLetter, v_codes, v_wn, r222.2)
        else
          some (0, v_zw, v_zd, v_zt, v_roadCount, v_readings, v_psize, v_good, v_pbits, v_letters, v_afterLetter, v_codes, v_wn, r220.2)
        else none
        else none
      else
        if x7 = 3 then
          Option.bind (P_at x4 3) fun r173 =>
          if r173 = 0 then
            if vx x8 6 then
            Option.bind (P_back (v_zw (Int32.toNatClampNeg x8))) fun r203 =>
            if vx x8 6 then
            if vx x8 6 then
            Option.bind (P_table v_zt ((upd v_zw (Int32.toNatClampNeg x8) r203) (Int32.toNatClampNeg x8))) fun r206 =>
            Option.bind (P4_change v_roadCount v_wn v_wv x8 3) fun r207 =>
            if r207.1 = (-2000000102) then
              Option.bind (P4_change v_roadCount v_wn r207.2 x6 0) fun r209 =>
              if r209.1 = (-2000000101) then
                Option.bind (P4_change v_roadCount v_wn r209.2 x8 r173) fun r211 =>
                if vx 0 40 then
                if vx 3 40 then
                if r211.1 = ((r206 (Int32.toNatClampNeg 0)) + (r206 (Int32.toNatClampNeg 3))) then
                  some (1, upd v_zw (Int32.toNatClampNeg x8) r203, v_zd, r206, v_roadCount, v_readings, v_psize, v_good, v_pbits, v_letters, v_afterLetter, v_codes, v_wn, r211.2)
                else
                  some (0, upd v_zw (Int32.toNatClampNeg x8) r203, v_zd, r206, v_roadCount, v_readings, v_psize, v_good, v_pbits, v_letters, v_afterLetter, v_codes, v_wn, r211.2)
                else none
                else none
              else
                some (0, upd v_zw (Int32.toNatClampNeg x8) r203, v_zd, r206, v_roadCount, v_readings, v_psize, v_good, v_pbits, v_letters, v_afterLetter, v_codes, v_wn, r209.2)
            else
              some (0, upd v_zw (Int32.toNatClampNeg x8) r203, v_zd, r206, v_roadCount, v_readings, v_psize, v_good, v_pbits, v_letters, v_afterLetter, v_codes, v_wn, r207.2)
            else none
            else none
            else none
          else
            if r173 = 1 then
              if vx x8 6 then
              Option.bind (P_mirror (v_zw (Int32.toNatClampNeg x8))) fun r190 =>
              if vx x8 6 then
              if vx x8 6 then
              Option.bind (P_table v_zt ((upd v_zw (Int32.toNatClampNeg x8) r190) (Int32.toNatClampNeg x8))) fun r193 =>
              Option.bind (P4_change v_roadCount v_wn v_wv x8 3) fun r194 =>
              if r194.1 = (-2000000102) then
                Option.bind (P4_change v_roadCount v_wn r194.2 x6 0) fun r196 =>
                if r196.1 = (-2000000101) then
                  Option.bind (P4_change v_roadCount v_wn r196.2 x8 r173) fun r198 =>
                  if vx 0 40 then
                  if vx 3 40 then
                  if r198.1 = ((r193 (Int32.toNatClampNeg 0)) + (r193 (Int32.toNatClampNeg 3))) then
                    some (1, upd v_zw (Int32.toNatClampNeg x8) r190, v_zd, r193, v_roadCount, v_readings, v_psize, v_good, v_pbits, v_letters, v_afterLetter, v_codes, v_wn, r198.2)
                  else
                    some (0, upd v_zw (Int32.toNatClampNeg x8) r190, v_zd, r193, v_roadCount, v_readings, v_psize, v_good, v_pbits, v_letters, v_afterLetter, v_codes, v_wn, r198.2)
                  else none
                  else none
                else
                  some (0, upd v_zw (Int32.toNatClampNeg x8) r190, v_zd, r193, v_roadCount, v_readings, v_psize, v_good, v_pbits, v_letters, v_afterLetter, v_codes, v_wn, r196.2)
              else
                some (0, upd v_zw (Int32.toNatClampNeg x8) r190, v_zd, r193, v_roadCount, v_readings, v_psize, v_good, v_pbits, v_letters, v_afterLetter, v_codes, v_wn, r194.2)
              else none
              else none
              else none
            else
              if vx x8 6 then
              Option.bind (P_least (v_zw (Int32.toNatClampNeg x8))) fun r177 =>
              if vx x8 6 then
              if vx x8 6 then
              Option.bind (P_table v_zt ((upd v_zw (Int32.toNatClampNeg x8) r177) (Int32.toNatClampNeg x8))) fun r180 =>
              Option.bind (P4_change v_roadCount v_wn v_wv x8 3) fun r181 =>
              if r181.1 = (-2000000102) then
                Option.bind (P4_change v_roadCount v_wn r181.2 x6 0) fun r183 =>
                if r183.1 = (-2000000101) then
                  Option.bind (P4_change v_roadCount v_wn r183.2 x8 r173) fun r185 =>
                  if vx 0 40 then
                  if vx 3 40 then
                  if r185.1 = ((r180 (Int32.toNatClampNeg 0)) + (r180 (Int32.toNatClampNeg 3))) then
                    some (1, upd v_zw (Int32.toNatClampNeg x8) r177, v_zd, r180, v_roadCount, v_readings, v_psize, v_good, v_pbits, v_letters, v_afterLetter, v_codes, v_wn, r185.2)
                  else
                    some (0, upd v_zw (Int32.toNatClampNeg x8) r177, v_zd, r180, v_roadCount, v_readings, v_psize, v_good, v_pbits, v_letters, v_afterLetter, v_codes, v_wn, r185.2)
                  else none
                  else none
                else
                  some (0, upd v_zw (Int32.toNatClampNeg x8) r177, v_zd, r180, v_roadCount, v_readings, v_psize, v_good, v_pbits, v_letters, v_afterLetter, v_codes, v_wn, r183.2)
              else
                some (0, upd v_zw (Int32.toNatClampNeg x8) r177, v_zd, r180, v_roadCount, v_readings, v_psize, v_good, v_pbits, v_letters, v_afterLetter, v_codes, v_wn, r181.2)
              else none
              else none
              else none
        else
          if x7 = 4 then
            if vx x8 6 then
            Option.bind (P_size (v_zw (Int32.toNatClampNeg x8))) fun r140 =>
            if vx s0 6 then
            Option.bind (P_size (v_zw (Int32.toNatClampNeg s0))) fun r142 =>
            if (r140 + r142) ≤ 20 then
              if vx x8 6 then
              if vx s0 6 then
              Option.bind (P_join (v_zw (Int32.toNatClampNeg x8)) (v_zw (Int32.toNatClampNeg s0))) fun r146 =>
              Option.bind (P_comes v_zw x6 r146 (r140 + r142)) fun r147 =>
              if vx 0 2 then
              if r147.1 = x6 then
                if vx 0 2 then
                Option.bind (P4_join v_roadCount v_wn v_wv x8 x6) fun r156 =>
                if r156.1 = (-2000000101) then
                  Option.bind (P4_join r156.2.1 r156.2.2.1 r156.2.2.2 x8 s0) fun r158 =>
                  if r158.1 = r147.1 then
                    some (1, r147.2, upd v_zd (Int32.toNatClampNeg 0) ((v_zd (Int32.toNatClampNeg 0)) + 1), v_zt, r158.2.1, v_readings, v_psize, v_good, v_pbits, v_letters, v_afterLetter, v_codes, r158.2.2.1, r158.2.2.2)
                  else
                    some (0, r147.2, upd v_zd (Int32.toNatClampNeg 0) ((v_zd (Int32.toNatClampNeg 0)) + 1), v_zt, r158.2.1, v_readings, v_psize, v_good, v_pbits, v_letters, v_afterLetter, v_codes, r158.2.2.1, r158.2.2.2)
                else
                  some (0, r147.2, upd v_zd (Int32.toNatClampNeg 0) ((v_zd (Int32.toNatClampNeg 0)) + 1), v_zt, r156.2.1, v_readings, v_psize, v_good, v_pbits, v_letters, v_afterLetter, v_codes, r156.2.2.1, r156.2.2.2)
                else none
              else
                if vx 0 2 then
                Option.bind (P4_join v_roadCount v_wn v_wv x8 x6) fun r151 =>
                if r151.1 = (-2000000101) then
                  Option.bind (P4_join r151.2.1 r151.2.2.1 r151.2.2.2 x8 s0) fun r153 =>
                  if r153.1 = r147.1 then
                    some (1, r147.2, upd v_zd (Int32.toNatClampNeg 0) ((v_zd (Int32.toNatClampNeg 0)) + 0), v_zt, r153.2.1, v_readings, v_psize, v_good, v_pbits, v_letters, v_afterLetter, v_codes, r153.2.2.1, r153.2.2.2)
                  else
                    some (0, r147.2, upd v_zd (Int32.toNatClampNeg 0) ((v_zd (Int32.toNatClampNeg 0)) + 0), v_zt, r153.2.1, v_readings, v_psize, v_good, v_pbits, v_letters, v_afterLetter, v_codes, r153.2.2.1, r153.2.2.2)
                else
                  some (0, r147.2, upd v_zd (Int32.toNatClampNeg 0) ((v_zd (Int32.toNatClampNeg 0)) + 0), v_zt, r151.2.1, v_readings, v_psize, v_good, v_pbits, v_letters, v_afterLetter, v_codes, r151.2.2.1, r151.2.2.2)
                else none
              else none
              else none
              else none
            else
              Option.bind (P_comes v_zw x6 0 (r140 + r142)) fun r160 =>
              if vx 0 2 then
              if r160.1 = x6 then
                if vx 0 2 then
                Option.bind (P4_join v_roadCount v_wn v_wv x8 x6) fun r169 =>
                if r169.1 = (-2000000101) then
                  Option.bind (P4_join r169.2.1 r169.2.2.1 r169.2.2.2 x8 s0) fun r171 =>
                  if r171.1 = r160.1 then
                    some (1, r160.2, upd v_zd (Int32.toNatClampNeg 0) ((v_zd (Int32.toNatClampNeg 0)) + 1), v_zt, r171.2.1, v_readings, v_psize, v_good, v_pbits, v_letters, v_afterLetter, v_codes, r171.2.2.1, r171.2.2.2)
                  else
                    some (0, r160.2, upd v_zd (Int32.toNatClampNeg 0) ((v_zd (Int32.toNatClampNeg 0)) + 1), v_zt, r171.2.1, v_readings, v_psize, v_good, v_pbits, v_letters, v_afterLetter, v_codes, r171.2.2.1, r171.2.2.2)
                else
                  some (0, r160.2, upd v_zd (Int32.toNatClampNeg 0) ((v_zd (Int32.toNatClampNeg 0)) + 1), v_zt, r169.2.1, v_readings, v_psize, v_good, v_pbits, v_letters, v_afterLetter, v_codes, r169.2.2.1, r169.2.2.2)
                else none
              else
                if vx 0 2 then
                Option.bind (P4_join v_roadCount v_wn v_wv x8 x6) fun r164 =>
                if r164.1 = (-2000000101) then
                  Option.bind (P4_join r164.2.1 r164.2.2.1 r164.2.2.2 x8 s0) fun r166 =>
                  if r166.1 = r160.1 then
                    some (1, r160.2, upd v_zd (Int32.toNatClampNeg 0) ((v_zd (Int32.toNatClampNeg 0)) + 0), v_zt, r166.2.1, v_readings, v_psize, v_good, v_pbits, v_letters, v_afterLetter, v_codes, r166.2.2.1, r166.2.2.2)
                  else
                    some (0, r160.2, upd v_zd (Int32.toNatClampNeg 0) ((v_zd (Int32.toNatClampNeg 0)) + 0), v_zt, r166.2.1, v_readings, v_psize, v_good, v_pbits, v_letters, v_afterLetter, v_codes, r166.2.2.1, r166.2.2.2)
                else
                  some (0, r160.2, upd v_zd (Int32.toNatClampNeg 0) ((v_zd (Int32.toNatClampNeg 0)) + 0), v_zt, r164.2.1, v_readings, v_psize, v_good, v_pbits, v_letters, v_afterLetter, v_codes, r164.2.2.1, r164.2.2.2)
                else none
              else none
            else none
            else none
          else
            if x7 = 5 then
              Option.bind (P_at x4 4) fun r107 =>
              if vx x8 6 then
              Option.bind (P_does_548 v_zw x8 (2 + r107) FU (v_zw (Int32.toNatClampNeg x8)) 1) fun o115 =>
              if vx x8 6 then
              Option.bind (P_size (v_zw (Int32.toNatClampNeg x8))) fun r117 =>
              Option.bind (P_comes v_zw x6 o115 ((2 + r107) * r117)) fun r118 =>
              if vx 0 2 then
              if r118.1 = x6 then
                if vx 0 2 then
                Option.bind (P4_times v_roadCount v_wn v_wv x8 1) fun r131 =>
                if r131.1 = (-2000000102) then
                  Option.bind (P4_times r131.2.1 r131.2.2.1 r131.2.2.2 x8 6) fun r133 =>
                  if r133.1 = (-2000000102) then
                    Option.bind (P4_times r133.2.1 r133.2.2.1 r133.2.2.2 x6 2) fun r135 =>
                    if r135.1 = (-2000000101) then
                      Option.bind (P4_times r135.2.1 r135.2.2.1 r135.2.2.2 x8 (2 + r107)) fun r137 =>
                      if r137.1 = r118.1 then
                        some (1, r118.2, upd v_zd (Int32.toNatClampNeg 0) ((v_zd (Int32.toNatClampNeg 0)) + 1), v_zt, r137.2.1, v_readings, v_psize, v_good, v_pbits, v_letters, v_afterLetter, v_codes, r137.2.2.1, r137.2.2.2)
                      else
                        some (0, r118.2, upd v_zd (Int32.toNatClampNeg 0) ((v_zd (Int32.toNatClampNeg 0)) + 1), v_zt, r137.2.1, v_readings, v_psize, v_good, v_pbits, v_letters, v_afterLetter, v_codes, r137.2.2.1, r137.2.2.2)
                    else
                      some (0, r118.2, upd v_zd (Int32.toNatClampNeg 0) ((v_zd (Int32.toNatClampNeg 0)) + 1), v_zt, r135.2.1, v_readings, v_psize, v_good, v_pbits, v_letters, v_afterLetter, v_codes, r135.2.2.1, r135.2.2.2)
                  else
                    some (0, r118.2, upd v_zd (Int32.toNatClampNeg 0) ((v_zd (Int32.toNatClampNeg 0)) + 1), v_zt, r133.2.1, v_readings, v_psize, v_good, v_pbits, v_letters, v_afterLetter, v_codes, r133.2.2.1, r133.2.2.2)
                else
                  some (0, r118.2, upd v_zd (Int32.toNatClampNeg 0) ((v_zd (Int32.toNatClampNeg 0)) + 1), v_zt, r131.2.1, v_readings, v_psize, v_good, v_pbits, v_letters, v_afterLetter, v_codes, r131.2.2.1, r131.2.2.2)
                else none
              else
                if vx 0 2 then
                Option.bind (P4_times v_roadCount v_wn v_wv x8 1) fun r122 =>
                if r122.1 = (-2000000102) then
                  Option.bind (P4_times r122.2.1 r122.2.2.1 r122.2.2.2 x8 6) fun r124 =>
                  if r124.1 = (-2000000102) then
                    Option.bind (P4_times r124.2.1 r124.2.2.1 r124.2.2.2 x6 2) fun r126 =>
                    if r126.1 = (-2000000101) then
                      Option.bind (P4_times r126.2.1 r126.2.2.1 r126.2.2.2 x8 (2 + r107)) fun r128 =>
                      if r128.1 = r118.1 then
                        some (1, r118.2, upd v_zd (Int32.toNatClampNeg 0) ((v_zd (Int32.toNatClampNeg 0)) + 0), v_zt, r128.2.1, v_readings, v_psize, v_good, v_pbits, v_letters, v_afterLetter, v_codes, r128.2.2.1, r128.2.2.2)
                      else
                        some (0, r118.2, upd v_zd (Int32.toNatClampNeg 0) ((v_zd (Int32.toNatClampNeg 0)) + 0), v_zt, r128.2.1, v_readings, v_psize, v_good, v_pbits, v_letters, v_afterLetter, v_codes, r128.2.2.1, r128.2.2.2)
                    else
                      some (0, r118.2, upd v_zd (Int32.toNatClampNeg 0) ((v_zd (Int32.toNatClampNeg 0)) + 0), v_zt, r126.2.1, v_readings, v_psize, v_good, v_pbits, v_letters, v_afterLetter, v_codes, r126.2.2.1, r126.2.2.2)
                  else
                    some (0, r118.2, upd v_zd (Int32.toNatClampNeg 0) ((v_zd (Int32.toNatClampNeg 0)) + 0), v_zt, r124.2.1, v_readings, v_psize, v_good, v_pbits, v_letters, v_afterLetter, v_codes, r124.2.2.1, r124.2.2.2)
                else
                  some (0, r118.2, upd v_zd (Int32.toNatClampNeg 0) ((v_zd (Int32.toNatClampNeg 0)) + 0), v_zt, r122.2.1, v_readings, v_psize, v_good, v_pbits, v_letters, v_afterLetter, v_codes, r122.2.2.1, r122.2.2.2)
                else none
              else none
              else none
              else none
            else
              if 8 ≤ x7 then
                if x7 = 8 then
                  if vx 0 2 then
                  if vx 0 2 then
                  Option.bind (P4_drop v_roadCount) fun r62 =>
                  if vx 0 2 then
                  if r62.1 = ((upd v_zd (Int32.toNatClampNeg 0) ((v_zd (Int32.toNatClampNeg 0)) - 1)) (Int32.toNatClampNeg 0)) then
                    some (1, v_zw, upd v_zd (Int32.toNatClampNeg 0) ((v_zd (Int32.toNatClampNeg 0)) - 1), v_zt, r62.2, v_readings, v_psize, v_good, v_pbits, v_letters, v_afterLetter, v_codes, v_wn, v_wv)
                  else
                    some (0, v_zw, upd v_zd (Int32.toNatClampNeg 0) ((v_zd (Int32.toNatClampNeg 0)) - 1), v_zt, r62.2, v_readings, v_psize, v_good, v_pbits, v_letters, v_afterLetter, v_codes, v_wn, v_wv)
                  else none
                  else none
                  else none
                else
                  Option.bind (P4_alike v_roadCount v_wn v_wv x8 s0) fun r40 =>
                  if r40 < 0 then
                    if vx x8 6 then
                    Option.bind (P_size (v_zw (Int32.toNatClampNeg x8))) fun r43 =>
                    if vx s0 6 then
                    Option.bind (P_size (v_zw (Int32.toNatClampNeg s0))) fun r45 =>
                    if r43 = r45 then
                      if vx x8 6 then
                      if vx s0 6 then
                      Option.bind (P_alike (v_zw (Int32.toNatClampNeg x8)) (v_zw (Int32.toNatClampNeg s0))) fun r49 =>
                      if r49 = 0 then
                        some (1, v_zw, v_zd, v_zt, v_roadCount, v_readings, v_psize, v_good, v_pbits, v_letters, v_afterLetter, v_codes, v_wn, v_wv)
                      else
                        some (0, v_zw, v_zd, v_zt, v_roadCount, v_readings, v_psize, v_good, v_pbits, v_letters, v_afterLetter, v_codes, v_wn, v_wv)
                      else none
                      else none
                    else
                      some (1, v_zw, v_zd, v_zt, v_roadCount, v_readings, v_psize, v_good, v_pbits, v_letters, v_afterLetter, v_codes, v_wn, v_wv)
                    else none
                    else none
                  else
                    if vx x8 6 then
                    Option.bind (P_size (v_zw (Int32.toNatClampNeg x8))) fun r52 =>
                    if vx s0 6 then
                    Option.bind (P_size (v_zw (Int32.toNatClampNeg s0))) fun r54 =>
                    if r52 = r54 then
                      if vx x8 6 then
                      if vx s0 6 then
                      Option.bind (P_alike (v_zw (Int32.toNatClampNeg x8)) (v_zw (Int32.toNatClampNeg s0))) fun r58 =>
                      if r58 = 0 then
                        some (0, v_zw, v_zd, v_zt, v_roadCount, v_readings, v_psize, v_good, v_pbits, v_letters, v_afterLetter, v_codes, v_wn, v_wv)
                      else
                        some (1, v_zw, v_zd, v_zt, v_roadCount, v_readings, v_psize, v_good, v_pbits, v_letters, v_afterLetter, v_codes, v_wn, v_wv)
                      else none
                      else none
                    else
                      some (0, v_zw, v_zd, v_zt, v_roadCount, v_readings, v_psize, v_good, v_pbits, v_letters, v_afterLetter, v_codes, v_wn, v_wv)
                    else none
                    else none
              else
                Option.bind (P_at (jshr x4 14) 3) fun r65 =>
                if r65 = 0 then
                  P_does_J710 v_zw v_zd v_zt v_roadCount v_readings v_psize v_good v_pbits v_letters v_afterLetter v_codes v_wn v_wv x4 x6 99 x4 1
                else
                  P_does_J710 v_zw v_zd v_zt v_roadCount v_readings v_psize v_good v_pbits v_letters v_afterLetter v_codes v_wn v_wv x4 x6 20 x4 1
def P_does_J30 (v_zw : Nat → Int32) (v_zd : Nat → Int32) (v_zt : Nat → Int32) (v_roadCount : Int32) (v_readings : Int32) (v_psize : Int32) (v_good : Int32) (v_pbits : Int32) (v_letters : Int32) (v_afterLetter : Int32) (v_codes : Nat → Int32) (v_rsize : Int32) (v_cycleCount : Int32) (v_wn : Nat) (v_wv : Nat → Nat → Int32) (x3 : Int32) (x4 : Int32) (x6 : Int32) (x7 : Int32) (s0 : Int32) : Option (Int32 × (Nat → Int32) × (Nat → Int32) × (Nat → Int32) × Int32 × Int32 × Int32 × Int32 × Int32 × Int32 × Int32 × (Nat → Int32) × Nat × (Nat → Nat → Int32)) :=
  if x6 = 0 then
    P_does_J50 v_zw v_zd v_zt v_roadCount v_readings v_psize v_good v_pbits v_letters v_afterLetter v_codes v_rsize v_cycleCount v_wn v_wv x3 x4 x6 x7 s0 0
  else
    Option.bind (P_at (jshr x3 7) x6) fun r6 =>
    P_does_J50 v_zw v_zd v_zt v_roadCount v_readings v_psize v_good v_pbits v_letters v_afterLetter v_codes v_rsize v_cycleCount v_wn v_wv x3 x4 x6 x7 s0 r6
def P_does (v_zw : Nat → Int32) (v_zd : Nat → Int32) (v_zt : Nat → Int32) (v_roadCount : Int32) (v_readings : Int32) (v_psize : Int32) (v_good : Int32) (v_pbits : Int32) (v_letters : Int32) (v_afterLetter : Int32) (v_codes : Nat → Int32) (v_rsize : Int32) (v_cycleCount : Int32) (v_wn : Nat) (v_wv : Nat → Nat → Int32) (x3 : Int32) (x4 : Int32) : Option (Int32 × (Nat → Int32) × (Nat → Int32) × (Nat → Int32) × Int32 × Int32 × Int32 × Int32 × Int32 × Int32 × Int32 × (Nat → Int32) × Nat × (Nat → Nat → Int32)) :=
  if vx 0 2 then
  Option.bind (P_at x3 10) fun r2 =>
  if (v_zd (Int32.toNatClampNeg 0)) = 0 then
    P_does_J30 v_zw v_zd v_zt v_roadCount v_readings v_psize v_good v_pbits v_letters v_afterLetter v_codes v_rsize v_cycleCount v_wn v_wv x3 x4 (v_zd (Int32.toNatClampNeg 0)) r2 0
  else
    Option.bind (P_at (jshr x3 4) (v_zd (Int32.toNatClampNeg 0))) fun r4 =>
    P_does_J30 v_zw v_zd v_zt v_roadCount v_readings v_psize v_good v_pbits v_letters v_afterLetter v_codes v_rsize v_cycleCount v_wn v_wv x3 x4 (v_zd (Int32.toNatClampNeg 0)) r2 r4
  else none
def P_drawn_31  : Nat → Int64 → Int32 → Int32 → Option (Int64 × Int32)
  | 0, _, _, _ => none
  | n + 1, l4, x11, x12 =>
    if 8 ≤ x12 then
      some (l4, x11)
    else
      Option.bind (P_with x11 (Int64.toInt32 (jlrem ((jlrem ((l4 * 1103515245) + 12345) 2147483648) / 65536) 2))) fun r3 =>
      P_drawn_31 n (jlrem ((l4 * 1103515245) + 12345) 2147483648) r3 (x12 + 1)
def P_drawn_19 (x1 : Int32) : Nat → (Nat → Int32) → Int64 → Int32 → Int32 → Int32 → Int32 → Int32 → Option ((Nat → Int32) × Int64 × Int32 × Int32 × Int32)
  | 0, _, _, _, _, _, _, _ => none
  | n + 1, v_zt, l4, x6, x7, x8, x9, x10 =>
    if x1 ≤ x10 then
      some (v_zt, l4, x6, x7, x8)
    else
      Option.bind (P_drawn_31 FU l4 0 0) fun o4 =>
      Option.bind (P_isClosed o4.2) fun r5 =>
      if r5 = 0 then
        P_drawn_19 x1 n v_zt o4.1 x6 x7 x8 o4.2 (x10 + 1)
      else
        Option.bind (P_table v_zt o4.2) fun r7 =>
        if vx 0 40 then
        if vx 3 40 then
        if x9 = 0 then
          P_drawn_19 x1 n r7 o4.1 (x6 + 1) (x7 + ((r7 (Int32.toNatClampNeg 0)) + (r7 (Int32.toNatClampNeg 3)))) x8 o4.2 (x10 + 1)
        else
          Option.bind (P_isClosed x9) fun r11 =>
          if r11 = 0 then
            P_drawn_19 x1 n r7 o4.1 (x6 + 1) (x7 + ((r7 (Int32.toNatClampNeg 0)) + (r7 (Int32.toNatClampNeg 3)))) x8 o4.2 (x10 + 1)
          else
            Option.bind (P_crossings x9 o4.2) fun r13 =>
            P_drawn_19 x1 n r7 o4.1 (x6 + 1) (x7 + ((r7 (Int32.toNatClampNeg 0)) + (r7 (Int32.toNatClampNeg 3)))) (x8 + r13) o4.2 (x10 + 1)
        else none
        else none
def P_drawn (v_zt : Nat → Int32) (v_s : Int64) (v_closed : Int32) (v_traces : Int32) (v_crossings : Int32) (v_db_bits : Int32) (v_db_size : Int32) (v_db_allBits : Int32) (v_db_a : Int32) (v_db_b : Int32) (v_db_c : Int32) (v_db_d : Int32) (v_dn_bits : Int32) (v_dn_size : Int32) (v_dn_allBits : Int32) (v_dn_a : Int32) (v_dn_b : Int32) (v_dn_c : Int32) (v_dn_d : Int32) (x1 : Int32) (x2 : Int32) : Option (Int32 × (Nat → Int32) × Int64 × Int32 × Int32 × Int32 × Int32 × Int32 × Int32 × Int32 × Int32 × Int32 × Int32 × Int32 × Int32 × Int32 × Int32 × Int32 × Int32 × Int32) :=
  Option.bind (P_drawn_19 x1 FU v_zt (Int32.toInt64 x2) 0 0 0 0 0) fun o14 =>
  Option.bind (P4_drawn v_s v_closed v_traces v_crossings v_db_bits v_db_size v_db_allBits v_db_a v_db_b v_db_c v_db_d v_dn_bits v_dn_size v_dn_allBits v_dn_a v_dn_b v_dn_c v_dn_d x1 x2 0) fun r15 =>
  if r15.1 = o14.2.2.1 then
    Option.bind (P4_drawn r15.2.1 r15.2.2.1 r15.2.2.2.1 r15.2.2.2.2.1 r15.2.2.2.2.2.1 r15.2.2.2.2.2.2.1 r15.2.2.2.2.2.2.2.1 r15.2.2.2.2.2.2.2.2.1 r15.2.2.2.2.2.2.2.2.2.1 r15.2.2.2.2.2.2.2.2.2.2.1 r15.2.2.2.2.2.2.2.2.2.2.2.1 r15.2.2.2.2.2.2.2.2.2.2.2.2.1 r15.2.2.2.2.2.2.2.2.2.2.2.2.2.1 r15.2.2.2.2.2.2.2.2.2.2.2.2.2.2.1 r15.2.2.2.2.2.2.2.2.2.2.2.2.2.2.2.1 r15.2.2.2.2.2.2.2.2.2.2.2.2.2.2.2.2.1 r15.2.2.2.2.2.2.2.2.2.2.2.2.2.2.2.2.2.1 r15.2.2.2.2.2.2.2.2.2.2.2.2.2.2.2.2.2.2 x1 x2 1) fun r17 =>
    if r17.1 = o14.2.2.2.1 then
      Option.bind (P4_drawn r17.2.1 r17.2.2.1 r17.2.2.2.1 r17.2.2.2.2.1 r17.2.2.2.2.2.1 r17.2.2.2.2.2.2.1 r17.2.2.2.2.2.2.2.1 r17.2.2.2.2.2.2.2.2.1 r17.2.2.2.2.2.2.2.2.2.1 r17.2.2.2.2.2.2.2.2.2.2.1 r17.2.2.2.2.2.2.2.2.2.2.2.1 r17.2.2.2.2.2.2.2.2.2.2.2.2.1 r17.2.2.2.2.2.2.2.2.2.2.2.2.2.1 r17.2.2.2.2.2.2.2.2.2.2.2.2.2.2.1 r17.2.2.2.2.2.2.2.2.2.2.2.2.2.2.2.1 r17.2.2.2.2.2.2.2.2.2.2.2.2.2.2.2.2.1 r17.2.2.2.2.2.2.2.2.2.2.2.2.2.2.2.2.2.1 r17.2.2.2.2.2.2.2.2.2.2.2.2.2.2.2.2.2.2 x1 x2 2) fun r19 =>
      if r19.1 = o14.2.2.2.2 then
        Option.bind (P4_drawn r19.2.1 r19.2.2.1 r19.2.2.2.1 r19.2.2.2.2.1 r19.2.2.2.2.2.1 r19.2.2.2.2.2.2.1 r19.2.2.2.2.2.2.2.1 r19.2.2.2.2.2.2.2.2.1 r19.2.2.2.2.2.2.2.2.2.1 r19.2.2.2.2.2.2.2.2.2.2.1 r19.2.2.2.2.2.2.2.2.2.2.2.1 r19.2.2.2.2.2.2.2.2.2.2.2.2.1 r19.2.2.2.2.2.2.2.2.2.2.2.2.2.1 r19.2.2.2.2.2.2.2.2.2.2.2.2.2.2.1 r19.2.2.2.2.2.2.2.2.2.2.2.2.2.2.2.1 r19.2.2.2.2.2.2.2.2.2.2.2.2.2.2.2.2.1 r19.2.2.2.2.2.2.2.2.2.2.2.2.2.2.2.2.2.1 r19.2.2.2.2.2.2.2.2.2.2.2.2.2.2.2.2.2.2 x1 x2 3) fun r21 =>
        if r21.1 = (Int64.toInt32 o14.2.1) then
          Option.bind (P4_drawn r21.2.1 r21.2.2.1 r21.2.2.2.1 r21.2.2.2.2.1 r21.2.2.2.2.2.1 r21.2.2.2.2.2.2.1 r21.2.2.2.2.2.2.2.1 r21.2.2.2.2.2.2.2.2.1 r21.2.2.2.2.2.2.2.2.2.1 r21.2.2.2.2.2.2.2.2.2.2.1 r21.2.2.2.2.2.2.2.2.2.2.2.1 r21.2.2.2.2.2.2.2.2.2.2.2.2.1 r21.2.2.2.2.2.2.2.2.2.2.2.2.2.1 r21.2.2.2.2.2.2.2.2.2.2.2.2.2.2.1 r21.2.2.2.2.2.2.2.2.2.2.2.2.2.2.2.1 r21.2.2.2.2.2.2.2.2.2.2.2.2.2.2.2.2.1 r21.2.2.2.2.2.2.2.2.2.2.2.2.2.2.2.2.2.1 r21.2.2.2.2.2.2.2.2.2.2.2.2.2.2.2.2.2.2 0 0 0) fun r23 =>
          if r23.1 = (-2000000102) then
            Option.bind (P4_drawn r23.2.1 r23.2.2.1 r23.2.2.2.1 r23.2.2.2.2.1 r23.2.2.2.2.2.1 r23.2.2.2.2.2.2.1 r23.2.2.2.2.2.2.2.1 r23.2.2.2.2.2.2.2.2.1 r23.2.2.2.2.2.2.2.2.2.1 r23.2.2.2.2.2.2.2.2.2.2.1 r23.2.2.2.2.2.2.2.2.2.2.2.1 r23.2.2.2.2.2.2.2.2.2.2.2.2.1 r23.2.2.2.2.2.2.2.2.2.2.2.2.2.1 r23.2.2.2.2.2.2.2.2.2.2.2.2.2.2.1 r23.2.2.2.2.2.2.2.2.2.2.2.2.2.2.2.1 r23.2.2.2.2.2.2.2.2.2.2.2.2.2.2.2.2.1 r23.2.2.2.2.2.2.2.2.2.2.2.2.2.2.2.2.2.1 r23.2.2.2.2.2.2.2.2.2.2.2.2.2.2.2.2.2.2 41 0 0) fun r25 =>
            if r25.1 = (-2000000102) then
              Option.bind (P4_drawn r25.2.1 r25.2.2.1 r25.2.2.2.1 r25.2.2.2.2.1 r25.2.2.2.2.2.1 r25.2.2.2.2.2.2.1 r25.2.2.2.2.2.2.2.1 r25.2.2.2.2.2.2.2.2.1 r25.2.2.2.2.2.2.2.2.2.1 r25.2.2.2.2.2.2.2.2.2.2.1 r25.2.2.2.2.2.2.2.2.2.2.2.1 r25.2.2.2.2.2.2.2.2.2.2.2.2.1 r25.2.2.2.2.2.2.2.2.2.2.2.2.2.1 r25.2.2.2.2.2.2.2.2.2.2.2.2.2.2.1 r25.2.2.2.2.2.2.2.2.2.2.2.2.2.2.2.1 r25.2.2.2.2.2.2.2.2.2.2.2.2.2.2.2.2.1 r25.2.2.2.2.2.2.2.2.2.2.2.2.2.2.2.2.2.1 r25.2.2.2.2.2.2.2.2.2.2.2.2.2.2.2.2.2.2 1 (-1) 0) fun r27 =>
              if r27.1 = (-2000000102) then
                Option.bind (P4_drawn r27.2.1 r27.2.2.1 r27.2.2.2.1 r27.2.2.2.2.1 r27.2.2.2.2.2.1 r27.2.2.2.2.2.2.1 r27.2.2.2.2.2.2.2.1 r27.2.2.2.2.2.2.2.2.1 r27.2.2.2.2.2.2.2.2.2.1 r27.2.2.2.2.2.2.2.2.2.2.1 r27.2.2.2.2.2.2.2.2.2.2.2.1 r27.2.2.2.2.2.2.2.2.2.2.2.2.1 r27.2.2.2.2.2.2.2.2.2.2.2.2.2.1 r27.2.2.2.2.2.2.2.2.2.2.2.2.2.2.1 r27.2.2.2.2.2.2.2.2.2.2.2.2.2.2.2.1 r27.2.2.2.2.2.2.2.2.2.2.2.2.2.2.2.2.1 r27.2.2.2.2.2.2.2.2.2.2.2.2.2.2.2.2.2.1 r27.2.2.2.2.2.2.2.2.2.2.2.2.2.2.2.2.2.2 1 1 4) fun r29 =>
                if r29.1 = (-2000000102) then
                  some (1, o14.1, r29.2.1, r29.2.2.1, r29.2.2.2.1, r29.2.2.2.2.1, r29.2.2.2.2.2.1, r29.2.2.2.2.2.2.1, r29.2.2.2.2.2.2.2.1, r29.2.2.2.2.2.2.2.2.1, r29.2.2.2.2.2.2.2.2.2.1, r29.2.2.2.2.2.2.2.2.2.2.1, r29.2.2.2.2.2.2.2.2.2.2.2.1, r29.2.2.2.2.2.2.2.2.2.2.2.2.1, r29.2.2.2.2.2.2.2.2.2.2.2.2.2.1, r29.2.2.2.2.2.2.2.2.2.2.2.2.2.2.1, r29.2.2.2.2.2.2.2.2.2.2.2.2.2.2.2.1, r29.2.2.2.2.2.2.2.2.2.2.2.2.2.2.2.2.1, r29.2.2.2.2.2.2.2.2.2.2.2.2.2.2.2.2.2.1, r29.2.2.2.2.2.2.2.2.2.2.2.2.2.2.2.2.2.2)
                else
                  some (0, o14.1, r29.2.1, r29.2.2.1, r29.2.2.2.1, r29.2.2.2.2.1, r29.2.2.2.2.2.1, r29.2.2.2.2.2.2.1, r29.2.2.2.2.2.2.2.1, r29.2.2.2.2.2.2.2.2.1, r29.2.2.2.2.2.2.2.2.2.1, r29.2.2.2.2.2.2.2.2.2.2.1, r29.2.2.2.2.2.2.2.2.2.2.2.1, r29.2.2.2.2.2.2.2.2.2.2.2.2.1, r29.2.2.2.2.2.2.2.2.2.2.2.2.2.1, r29.2.2.2.2.2.2.2.2.2.2.2.2.2.2.1, r29.2.2.2.2.2.2.2.2.2.2.2.2.2.2.2.1, r29.2.2.2.2.2.2.2.2.2.2.2.2.2.2.2.2.1, r29.2.2.2.2.2.2.2.2.2.2.2.2.2.2.2.2.2.1, r29.2.2.2.2.2.2.2.2.2.2.2.2.2.2.2.2.2.2)
              else
                some (0, o14.1, r27.2.1, r27.2.2.1, r27.2.2.2.1, r27.2.2.2.2.1, r27.2.2.2.2.2.1, r27.2.2.2.2.2.2.1, r27.2.2.2.2.2.2.2.1, r27.2.2.2.2.2.2.2.2.1, r27.2.2.2.2.2.2.2.2.2.1, r27.2.2.2.2.2.2.2.2.2.2.1, r27.2.2.2.2.2.2.2.2.2.2.2.1, r27.2.2.2.2.2.2.2.2.2.2.2.2.1, r27.2.2.2.2.2.2.2.2.2.2.2.2.2.1, r27.2.2.2.2.2.2.2.2.2.2.2.2.2.2.1, r27.2.2.2.2.2.2.2.2.2.2.2.2.2.2.2.1, r27.2.2.2.2.2.2.2.2.2.2.2.2.2.2.2.2.1, r27.2.2.2.2.2.2.2.2.2.2.2.2.2.2.2.2.2.1, r27.2.2.2.2.2.2.2.2.2.2.2.2.2.2.2.2.2.2)
            else
              some (0, o14.1, r25.2.1, r25.2.2.1, r25.2.2.2.1, r25.2.2.2.2.1, r25.2.2.2.2.2.1, r25.2.2.2.2.2.2.1, r25.2.2.2.2.2.2.2.1, r25.2.2.2.2.2.2.2.2.1, r25.2.2.2.2.2.2.2.2.2.1, r25.2.2.2.2.2.2.2.2.2.2.1, r25.2.2.2.2.2.2.2.2.2.2.2.1, r25.2.2.2.2.2.2.2.2.2.2.2.2.1, r25.2.2.2.2.2.2.2.2.2.2.2.2.2.1, r25.2.2.2.2.2.2.2.2.2.2.2.2.2.2.1, r25.2.2.2.2.2.2.2.2.2.2.2.2.2.2.2.1, r25.2.2.2.2.2.2.2.2.2.2.2.2.2.2.2.2.1, r25.2.2.2.2.2.2.2.2.2.2.2.2.2.2.2.2.2.1, r25.2.2.2.2.2.2.2.2.2.2.2.2.2.2.2.2.2.2)
          else
            some (0, o14.1, r23.2.1, r23.2.2.1, r23.2.2.2.1, r23.2.2.2.2.1, r23.2.2.2.2.2.1, r23.2.2.2.2.2.2.1, r23.2.2.2.2.2.2.2.1, r23.2.2.2.2.2.2.2.2.1, r23.2.2.2.2.2.2.2.2.2.1, r23.2.2.2.2.2.2.2.2.2.2.1, r23.2.2.2.2.2.2.2.2.2.2.2.1, r23.2.2.2.2.2.2.2.2.2.2.2.2.1, r23.2.2.2.2.2.2.2.2.2.2.2.2.2.1, r23.2.2.2.2.2.2.2.2.2.2.2.2.2.2.1, r23.2.2.2.2.2.2.2.2.2.2.2.2.2.2.2.1, r23.2.2.2.2.2.2.2.2.2.2.2.2.2.2.2.2.1, r23.2.2.2.2.2.2.2.2.2.2.2.2.2.2.2.2.2.1, r23.2.2.2.2.2.2.2.2.2.2.2.2.2.2.2.2.2.2)
        else
          some (0, o14.1, r21.2.1, r21.2.2.1, r21.2.2.2.1, r21.2.2.2.2.1, r21.2.2.2.2.2.1, r21.2.2.2.2.2.2.1, r21.2.2.2.2.2.2.2.1, r21.2.2.2.2.2.2.2.2.1, r21.2.2.2.2.2.2.2.2.2.1, r21.2.2.2.2.2.2.2.2.2.2.1, r21.2.2.2.2.2.2.2.2.2.2.2.1, r21.2.2.2.2.2.2.2.2.2.2.2.2.1, r21.2.2.2.2.2.2.2.2.2.2.2.2.2.1, r21.2.2.2.2.2.2.2.2.2.2.2.2.2.2.1, r21.2.2.2.2.2.2.2.2.2.2.2.2.2.2.2.1, r21.2.2.2.2.2.2.2.2.2.2.2.2.2.2.2.2.1, r21.2.2.2.2.2.2.2.2.2.2.2.2.2.2.2.2.2.1, r21.2.2.2.2.2.2.2.2.2.2.2.2.2.2.2.2.2.2)
      else
        some (0, o14.1, r19.2.1, r19.2.2.1, r19.2.2.2.1, r19.2.2.2.2.1, r19.2.2.2.2.2.1, r19.2.2.2.2.2.2.1, r19.2.2.2.2.2.2.2.1, r19.2.2.2.2.2.2.2.2.1, r19.2.2.2.2.2.2.2.2.2.1, r19.2.2.2.2.2.2.2.2.2.2.1, r19.2.2.2.2.2.2.2.2.2.2.2.1, r19.2.2.2.2.2.2.2.2.2.2.2.2.1, r19.2.2.2.2.2.2.2.2.2.2.2.2.2.1, r19.2.2.2.2.2.2.2.2.2.2.2.2.2.2.1, r19.2.2.2.2.2.2.2.2.2.2.2.2.2.2.2.1, r19.2.2.2.2.2.2.2.2.2.2.2.2.2.2.2.2.1, r19.2.2.2.2.2.2.2.2.2.2.2.2.2.2.2.2.2.1, r19.2.2.2.2.2.2.2.2.2.2.2.2.2.2.2.2.2.2)
    else
      some (0, o14.1, r17.2.1, r17.2.2.1, r17.2.2.2.1, r17.2.2.2.2.1, r17.2.2.2.2.2.1, r17.2.2.2.2.2.2.1, r17.2.2.2.2.2.2.2.1, r17.2.2.2.2.2.2.2.2.1, r17.2.2.2.2.2.2.2.2.2.1, r17.2.2.2.2.2.2.2.2.2.2.1, r17.2.2.2.2.2.2.2.2.2.2.2.1, r17.2.2.2.2.2.2.2.2.2.2.2.2.1, r17.2.2.2.2.2.2.2.2.2.2.2.2.2.1, r17.2.2.2.2.2.2.2.2.2.2.2.2.2.2.1, r17.2.2.2.2.2.2.2.2.2.2.2.2.2.2.2.1, r17.2.2.2.2.2.2.2.2.2.2.2.2.2.2.2.2.1, r17.2.2.2.2.2.2.2.2.2.2.2.2.2.2.2.2.2.1, r17.2.2.2.2.2.2.2.2.2.2.2.2.2.2.2.2.2.2)
  else
    some (0, o14.1, r15.2.1, r15.2.2.1, r15.2.2.2.1, r15.2.2.2.2.1, r15.2.2.2.2.2.1, r15.2.2.2.2.2.2.1, r15.2.2.2.2.2.2.2.1, r15.2.2.2.2.2.2.2.2.1, r15.2.2.2.2.2.2.2.2.2.1, r15.2.2.2.2.2.2.2.2.2.2.1, r15.2.2.2.2.2.2.2.2.2.2.2.1, r15.2.2.2.2.2.2.2.2.2.2.2.2.1, r15.2.2.2.2.2.2.2.2.2.2.2.2.2.1, r15.2.2.2.2.2.2.2.2.2.2.2.2.2.2.1, r15.2.2.2.2.2.2.2.2.2.2.2.2.2.2.2.1, r15.2.2.2.2.2.2.2.2.2.2.2.2.2.2.2.2.1, r15.2.2.2.2.2.2.2.2.2.2.2.2.2.2.2.2.2.1, r15.2.2.2.2.2.2.2.2.2.2.2.2.2.2.2.2.2.2)
