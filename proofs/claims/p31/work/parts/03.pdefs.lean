-- THE DECOMPILED FUNCTIONS
def P3_bitAt (v_bits : Int32) (v_size : Int32) (x1 : Int32) : Option (Int32) :=
  some ((jshr v_bits ((v_size - 1) - x1)) &&& 1)
def P3_become_41 (v_bits : Int32) (v_size : Int32) : Nat → Int32 → Int32 → Int32 → Int32 → Int32 → Option (Int32 × Int32 × Int32 × Int32)
  | 0, _, _, _, _, _ => none
  | n + 1, v_a, v_b, v_c, v_d, x3 =>
    if v_size ≤ x3 then
      some (v_a, v_b, v_c, v_d)
    else
      Option.bind (P3_bitAt v_bits v_size x3) fun r2 =>
      if r2 = 1 then
        P3_become_41 v_bits v_size n v_a (v_b + v_a) v_c (v_d + v_c) (x3 + 1)
      else
        P3_become_41 v_bits v_size n (v_a + v_b) v_b (v_c + v_d) v_d (x3 + 1)
def P3_become (x1 : Int32) (x2 : Int32) : Option (Int32 × Int32 × Int32 × Int32 × Int32 × Int32 × Int32) :=
  Option.bind (P3_become_41 x1 x2 FU 1 0 0 1 0) fun o4 =>
  some (x1, x2, (jshl 1 x2) - 1, o4.1, o4.2.1, o4.2.2.1, o4.2.2.2)
def P0_nextBits_4  : Nat → Int64 → Int32 → Int32 → Option (Int64 × Int32)
  | 0, _, _, _ => none
  | n + 1, v_s, x1, x2 =>
    if 8 ≤ x2 then
      some (v_s, x1)
    else
      P0_nextBits_4 n (jlrem ((1103515245 * v_s) + 12345) 2147483648) ((jshl x1 1) ||| (Int64.toInt32 (jlrem ((jlrem ((1103515245 * v_s) + 12345) 2147483648) / 65536) 2))) (x2 + 1)
def P0_nextBits (v_s : Int64) : Option (Int32 × Int64) :=
  Option.bind (P0_nextBits_4 FU v_s 0 0) fun o2 =>
  some (o2.2, o2.1)
def P3_isClosed (v_bits : Int32) (v_allBits : Int32) : Option (Int32) :=
  if v_bits = 0 then
    some 0
  else
    if v_bits = v_allBits then
      some 0
    else
      some 1
def P3_traceSum (v_a : Int32) (v_d : Int32) : Option (Int32) :=
  some (v_a + v_d)
def P3_crosses_17 (v_bits : Int32) (v_size : Int32) (v_o_bits : Int32) (v_o_size : Int32) (x1 : Int32) : Nat → Int32 → Int32 → Int32 → Option (Int32)
  | 0, _, _, _ => none
  | n + 1, x4, x5, x6 =>
    if x6 ≤ 0 then
      some 0
    else
      if x4 ≤ 0 then
        if x5 ≤ 0 then
          Option.bind (P3_bitAt v_bits v_size (v_size - 1)) fun r4 =>
          Option.bind (P3_bitAt v_o_bits v_o_size (v_o_size - 1)) fun r5 =>
          if r4 = r5 then
            P3_crosses_17 v_bits v_size v_o_bits v_o_size x1 n (v_size - 1) (v_o_size - 1) (x6 + (-1))
          else
            Option.bind (P3_bitAt v_bits v_size (v_size - 1)) fun r7 =>
            Option.bind (P3_bitAt v_bits v_size x1) fun r8 =>
            if r7 = r8 then
              some 0
            else
              some 1
        else
          Option.bind (P3_bitAt v_bits v_size (v_size - 1)) fun r10 =>
          Option.bind (P3_bitAt v_o_bits v_o_size (x5 - 1)) fun r11 =>
          if r10 = r11 then
            P3_crosses_17 v_bits v_size v_o_bits v_o_size x1 n (v_size - 1) (x5 - 1) (x6 + (-1))
          else
            Option.bind (P3_bitAt v_bits v_size (v_size - 1)) fun r13 =>
            Option.bind (P3_bitAt v_bits v_size x1) fun r14 =>
            if r13 = r14 then
              some 0
            else
              some 1
      else
        if x5 ≤ 0 then
          Option.bind (P3_bitAt v_bits v_size (x4 - 1)) fun r17 =>
          Option.bind (P3_bitAt v_o_bits v_o_size (v_o_size - 1)) fun r18 =>
          if r17 = r18 then
            P3_crosses_17 v_bits v_size v_o_bits v_o_size x1 n (x4 - 1) (v_o_size - 1) (x6 + (-1))
          else
            Option.bind (P3_bitAt v_bits v_size (x4 - 1)) fun r20 =>
            Option.bind (P3_bitAt v_bits v_size x1) fun r21 =>
            if r20 = r21 then
              some 0
            else
              some 1
        else
          Option.bind (P3_bitAt v_bits v_size (x4 - 1)) fun r23 =>
          Option.bind (P3_bitAt v_o_bits v_o_size (x5 - 1)) fun r24 =>
          if r23 = r24 then
            P3_crosses_17 v_bits v_size v_o_bits v_o_size x1 n (x4 - 1) (x5 - 1) (x6 + (-1))
          else
            Option.bind (P3_bitAt v_bits v_size (x4 - 1)) fun r26 =>
            Option.bind (P3_bitAt v_bits v_size x1) fun r27 =>
            if r26 = r27 then
              some 0
            else
              some 1
def P3_crosses (v_bits : Int32) (v_size : Int32) (v_o_bits : Int32) (v_o_size : Int32) (x1 : Int32) (x3 : Int32) : Option (Int32) :=
  P3_crosses_17 v_bits v_size v_o_bits v_o_size x1 FU x1 x3 (v_size * v_o_size)
def P3_crossings_15 (v_bits : Int32) (v_size : Int32) (v_o_bits : Int32) (v_o_size : Int32) (x3 : Int32) : Nat → Int32 → Int32 → Option (Int32)
  | 0, _, _ => none
  | n + 1, x2, x4 =>
    if v_o_size ≤ x4 then
      some x2
    else
      Option.bind (P3_bitAt v_bits v_size x3) fun r3 =>
      Option.bind (P3_bitAt v_o_bits v_o_size x4) fun r4 =>
      if r3 = r4 then
        P3_crossings_15 v_bits v_size v_o_bits v_o_size x3 n x2 (x4 + 1)
      else
        Option.bind (P3_crosses v_bits v_size v_o_bits v_o_size x3 x4) fun r6 =>
        if r6 = 0 then
          P3_crossings_15 v_bits v_size v_o_bits v_o_size x3 n x2 (x4 + 1)
        else
          P3_crossings_15 v_bits v_size v_o_bits v_o_size x3 n (x2 + 1) (x4 + 1)
def P3_crossings_4 (v_bits : Int32) (v_size : Int32) (v_o_bits : Int32) (v_o_size : Int32) : Nat → Int32 → Int32 → Option (Int32)
  | 0, _, _ => none
  | n + 1, x2, x3 =>
    if v_size ≤ x3 then
      some x2
    else
      Option.bind (P3_crossings_15 v_bits v_size v_o_bits v_o_size x3 FU x2 0) fun o8 =>
      P3_crossings_4 v_bits v_size v_o_bits v_o_size n o8 (x3 + 1)
def P3_crossings (v_bits : Int32) (v_size : Int32) (v_o_bits : Int32) (v_o_size : Int32) : Option (Int32) :=
  Option.bind (P3_crossings_4 v_bits v_size v_o_bits v_o_size FU 0 0) fun o9 =>
  some o9
def P0_tell (v_closed : Int32) (v_traces : Int32) (v_crossings : Int32) (v_db_bits : Int32) (v_db_size : Int32) (v_db_allBits : Int32) (v_dn_bits : Int32) (v_dn_size : Int32) (v_dn_allBits : Int32) (v_dn_a : Int32) (v_dn_d : Int32) : Option (Int32 × Int32 × Int32) :=
  Option.bind (P3_isClosed v_dn_bits v_dn_allBits) fun r1 =>
  if r1 = 0 then
    some (v_closed, v_traces, v_crossings)
  else
    Option.bind (P3_traceSum v_dn_a v_dn_d) fun r3 =>
    Option.bind (P3_isClosed v_db_bits v_db_allBits) fun r4 =>
    if r4 = 0 then
      some (v_closed + 1, v_traces + r3, v_crossings)
    else
      Option.bind (P3_crossings v_dn_bits v_dn_size v_db_bits v_db_size) fun r6 =>
      some (v_closed + 1, v_traces + r3, v_crossings + r6)
def P0_run_33 (x1 : Int32) : Nat → Int64 → Int32 → Int32 → Int32 → Int32 → Int32 → Int32 → Int32 → Int32 → Int32 → Int32 → Int32 → Int32 → Int32 → Int32 → Int32 → Int32 → Int32 → Int32 → Option (Int64 × Int32 × Int32 × Int32 × Int32 × Int32 × Int32 × Int32 × Int32 × Int32 × Int32 × Int32 × Int32 × Int32 × Int32 × Int32 × Int32 × Int32)
  | 0, _, _, _, _, _, _, _, _, _, _, _, _, _, _, _, _, _, _, _ => none
  | n + 1, v_s, v_closed, v_traces, v_crossings, v_db_bits, v_db_size, v_db_allBits, v_db_a, v_db_b, v_db_c, v_db_d, v_dn_bits, v_dn_size, v_dn_allBits, v_dn_a, v_dn_b, v_dn_c, v_dn_d, x3 =>
    if x1 ≤ x3 then
      some (v_s, v_closed, v_traces, v_crossings, v_db_bits, v_db_size, v_db_allBits, v_db_a, v_db_b, v_db_c, v_db_d, v_dn_bits, v_dn_size, v_dn_allBits, v_dn_a, v_dn_b, v_dn_c, v_dn_d)
    else
      Option.bind (P3_become v_dn_bits 8) fun r3 =>
      Option.bind (P0_nextBits v_s) fun r4 =>
      Option.bind (P3_become r4.1 8) fun r5 =>
      Option.bind (P0_tell v_closed v_traces v_crossings r3.1 r3.2.1 r3.2.2.1 r5.1 r5.2.1 r5.2.2.1 r5.2.2.2.1 r5.2.2.2.2.2.2) fun r6 =>
      P0_run_33 x1 n r4.2 r6.1 r6.2.1 r6.2.2 r3.1 r3.2.1 r3.2.2.1 r3.2.2.2.1 r3.2.2.2.2.1 r3.2.2.2.2.2.1 r3.2.2.2.2.2.2 r5.1 r5.2.1 r5.2.2.1 r5.2.2.2.1 r5.2.2.2.2.1 r5.2.2.2.2.2.1 r5.2.2.2.2.2.2 (x3 + 1)
def P0_run (v_db_bits : Int32) (v_db_size : Int32) (v_db_allBits : Int32) (v_db_a : Int32) (v_db_b : Int32) (v_db_c : Int32) (v_db_d : Int32) (x1 : Int32) (x2 : Int32) : Option (Int64 × Int32 × Int32 × Int32 × Int32 × Int32 × Int32 × Int32 × Int32 × Int32 × Int32 × Int32 × Int32 × Int32 × Int32 × Int32 × Int32 × Int32) :=
  Option.bind (P3_become 0 8) fun r1 =>
  Option.bind (P0_run_33 x1 FU (Int32.toInt64 x2) 0 0 0 v_db_bits v_db_size v_db_allBits v_db_a v_db_b v_db_c v_db_d r1.1 r1.2.1 r1.2.2.1 r1.2.2.2.1 r1.2.2.2.2.1 r1.2.2.2.2.2.1 r1.2.2.2.2.2.2 0) fun o7 =>
  some (o7.1, o7.2.1, o7.2.2.1, o7.2.2.2.1, o7.2.2.2.2.1, o7.2.2.2.2.2.1, o7.2.2.2.2.2.2.1, o7.2.2.2.2.2.2.2.1, o7.2.2.2.2.2.2.2.2.1, o7.2.2.2.2.2.2.2.2.2.1, o7.2.2.2.2.2.2.2.2.2.2.1, o7.2.2.2.2.2.2.2.2.2.2.2.1, o7.2.2.2.2.2.2.2.2.2.2.2.2.1, o7.2.2.2.2.2.2.2.2.2.2.2.2.2.1, o7.2.2.2.2.2.2.2.2.2.2.2.2.2.2.1, o7.2.2.2.2.2.2.2.2.2.2.2.2.2.2.2.1, o7.2.2.2.2.2.2.2.2.2.2.2.2.2.2.2.2.1, o7.2.2.2.2.2.2.2.2.2.2.2.2.2.2.2.2.2)
def P1_clear : Option (Int32 × Int32 × Int32 × Int32 × Int32) :=
  some (0, 0, 0, 0, 0)
def P1_continues_110 (x4 : Int32) (x5 : Int32) : Nat → Int32 → Int32 → Option (Int32)
  | 0, _, _ => none
  | n + 1, v_pbits, x6 =>
    if x4 ≤ x6 then
      some v_pbits
    else
      P1_continues_110 x4 x5 n ((jshl v_pbits 1) ||| x5) (x6 + 1)
def P1_continues (v_pbits : Int32) (v_letters : Int32) (v_afterLetter : Int32) (x1 : Int32) : Option (Int32 × Int32 × Int32 × Int32) :=
  if x1 = 76 then
    if v_afterLetter = 0 then
      if (v_letters + 1) ≤ 20 then
        if x1 = 82 then
          Option.bind (P1_continues_110 1 1 FU v_pbits 0) fun o7 =>
          some (1, o7, v_letters + 1, 1)
        else
          Option.bind (P1_continues_110 1 0 FU v_pbits 0) fun o6 =>
          some (1, o6, v_letters + 1, 1)
      else
        some (0, v_pbits, v_letters, v_afterLetter)
    else
      if x1 < 50 then
        if (v_letters + 1) ≤ 20 then
          if x1 = 82 then
            Option.bind (P1_continues_110 1 1 FU v_pbits 0) fun o12 =>
            some (1, o12, v_letters + 1, 1)
          else
            Option.bind (P1_continues_110 1 0 FU v_pbits 0) fun o11 =>
            some (1, o11, v_letters + 1, 1)
        else
          some (0, v_pbits, v_letters, v_afterLetter)
      else
        if 57 < x1 then
          if (v_letters + 1) ≤ 20 then
            if x1 = 82 then
              Option.bind (P1_continues_110 1 1 FU v_pbits 0) fun o17 =>
              some (1, o17, v_letters + 1, 1)
            else
              Option.bind (P1_continues_110 1 0 FU v_pbits 0) fun o16 =>
              some (1, o16, v_letters + 1, 1)
          else
            some (0, v_pbits, v_letters, v_afterLetter)
        else
          if (v_letters + 1) ≤ 20 then
            if x1 = 82 then
              Option.bind (P1_continues_110 1 1 FU v_pbits 0) fun o21 =>
              some (1, o21, v_letters + 1, 1)
            else
              Option.bind (P1_continues_110 1 0 FU v_pbits 0) fun o20 =>
              some (1, o20, v_letters + 1, 1)
          else
            some (0, v_pbits, v_letters, v_afterLetter)
  else
    if x1 = 82 then
      if v_afterLetter = 0 then
        if (v_letters + 1) ≤ 20 then
          if x1 = 82 then
            Option.bind (P1_continues_110 1 1 FU v_pbits 0) fun o32 =>
            some (1, o32, v_letters + 1, 1)
          else
            Option.bind (P1_continues_110 1 0 FU v_pbits 0) fun o31 =>
            some (1, o31, v_letters + 1, 1)
        else
          some (0, v_pbits, v_letters, v_afterLetter)
      else
        if x1 < 50 then
          if (v_letters + 1) ≤ 20 then
            if x1 = 82 then
              Option.bind (P1_continues_110 1 1 FU v_pbits 0) fun o37 =>
              some (1, o37, v_letters + 1, 1)
            else
              Option.bind (P1_continues_110 1 0 FU v_pbits 0) fun o36 =>
              some (1, o36, v_letters + 1, 1)
          else
            some (0, v_pbits, v_letters, v_afterLetter)
        else
          if 57 < x1 then
            if (v_letters + 1) ≤ 20 then
              if x1 = 82 then
                Option.bind (P1_continues_110 1 1 FU v_pbits 0) fun o42 =>
                some (1, o42, v_letters + 1, 1)
              else
                Option.bind (P1_continues_110 1 0 FU v_pbits 0) fun o41 =>
                some (1, o41, v_letters + 1, 1)
            else
              some (0, v_pbits, v_letters, v_afterLetter)
          else
            if (v_letters + 1) ≤ 20 then
              if x1 = 82 then
                Option.bind (P1_continues_110 1 1 FU v_pbits 0) fun o46 =>
                some (1, o46, v_letters + 1, 1)
              else
                Option.bind (P1_continues_110 1 0 FU v_pbits 0) fun o45 =>
                some (1, o45, v_letters + 1, 1)
            else
              some (0, v_pbits, v_letters, v_afterLetter)
    else
      if v_afterLetter = 0 then
        some (0, v_pbits, v_letters, v_afterLetter)
      else
        if x1 < 50 then
          some (0, v_pbits, v_letters, v_afterLetter)
        else
          if 57 < x1 then
            some (0, v_pbits, v_letters, v_afterLetter)
          else
            if (v_letters + (x1 - 49)) ≤ 20 then
              Option.bind (P1_continues_110 (x1 - 49) (v_pbits &&& 1) FU v_pbits 0) fun o27 =>
              some (1, o27, v_letters + (x1 - 49), 0)
            else
              some (0, v_pbits, v_letters, v_afterLetter)
def P1_append (v_psize : Int32) (v_good : Int32) (v_pbits : Int32) (v_letters : Int32) (v_afterLetter : Int32) (v_codes : Nat → Int32) (x1 : Int32) : Option (Int32 × Int32 × Int32 × Int32 × Int32 × (Nat → Int32)) :=
  if v_psize < 0 then
    some (v_psize, v_good, v_pbits, v_letters, v_afterLetter, v_codes)
  else
    if v_psize < 20 then
      if v_good = v_psize then
        Option.bind (P1_continues v_pbits v_letters v_afterLetter x1) fun r5 =>
        if r5.1 = 0 then
          if vx v_psize 20 then
          some (v_psize + 1, v_good, r5.2.1, r5.2.2.1, r5.2.2.2, upd v_codes (Int32.toNatClampNeg v_psize) x1)
          else none
        else
          if vx v_psize 20 then
          some (v_psize + 1, v_good + 1, r5.2.1, r5.2.2.1, r5.2.2.2, upd v_codes (Int32.toNatClampNeg v_psize) x1)
          else none
      else
        if vx v_psize 20 then
        some (v_psize + 1, v_good, v_pbits, v_letters, v_afterLetter, upd v_codes (Int32.toNatClampNeg v_psize) x1)
        else none
    else
      some (v_psize, v_good, v_pbits, v_letters, v_afterLetter, v_codes)
def P1_isWord (v_psize : Int32) (v_good : Int32) : Option (Int32) :=
  if v_psize ≤ 0 then
    some 0
  else
    if v_good = v_psize then
      some 1
    else
      some 0
def P3_rotation (v_bits : Int32) (v_size : Int32) (v_allBits : Int32) (x1 : Int32) : Option (Int32) :=
  some (((jshl v_bits x1) ||| (jshr v_bits (v_size - x1))) &&& v_allBits)
def P3_reversal_9 (v_bits : Int32) (v_size : Int32) : Nat → Int32 → Int32 → Option (Int32)
  | 0, _, _ => none
  | n + 1, x1, x2 =>
    if x2 < 0 then
      some x1
    else
      Option.bind (P3_bitAt v_bits v_size x2) fun r2 =>
      P3_reversal_9 v_bits v_size n ((jshl x1 1) ||| r2) (x2 + (-1))
def P3_reversal (v_bits : Int32) (v_size : Int32) : Option (Int32) :=
  Option.bind (P3_reversal_9 v_bits v_size FU 0 (v_size - 1)) fun o3 =>
  some o3
def P3_complement (v_allBits : Int32) (x1 : Int32) : Option (Int32) :=
  some (x1 ^^^ v_allBits)
def P3_leastTurn_4 (v_bits : Int32) (v_size : Int32) (v_allBits : Int32) : Nat → Int32 → Int32 → Option (Int32)
  | 0, _, _ => none
  | n + 1, x1, x2 =>
    if v_size ≤ x2 then
      some x1
    else
      Option.bind (P3_rotation v_bits v_size v_allBits x2) fun r2 =>
      Option.bind (P3_rotation v_bits v_size v_allBits x1) fun r3 =>
      if r3 ≤ r2 then
        P3_leastTurn_4 v_bits v_size v_allBits n x1 (x2 + 1)
      else
        P3_leastTurn_4 v_bits v_size v_allBits n x2 (x2 + 1)
def P3_leastTurn (v_bits : Int32) (v_size : Int32) (v_allBits : Int32) : Option (Int32) :=
  Option.bind (P3_leastTurn_4 v_bits v_size v_allBits FU 0 1) fun o5 =>
  some o5
def P3_changed (v_bits : Int32) (v_size : Int32) (v_allBits : Int32) (x1 : Int32) : Option (Int32) :=
  if x1 = 0 then
    Option.bind (P3_reversal v_bits v_size) fun r2 =>
    some r2
  else
    if x1 = 1 then
      Option.bind (P3_complement v_allBits v_bits) fun r4 =>
      some r4
    else
      Option.bind (P3_leastTurn v_bits v_size v_allBits) fun r5 =>
      Option.bind (P3_rotation v_bits v_size v_allBits r5) fun r6 =>
      some r6
def P3_turnTo_2 (v_bits : Int32) (v_size : Int32) (v_allBits : Int32) (x1 : Int32) : Nat → Int32 → Option (Int32)
  | 0, _ => none
  | n + 1, x3 =>
    if v_size ≤ x3 then
      some (-2000000001)
    else
      Option.bind (P3_rotation v_bits v_size v_allBits x3) fun r2 =>
      if r2 = x1 then
        some x3
      else
        P3_turnTo_2 v_bits v_size v_allBits x1 n (x3 + 1)
def P3_turnTo (v_bits : Int32) (v_size : Int32) (v_allBits : Int32) (x1 : Int32) (x2 : Int32) : Option (Int32) :=
  P3_turnTo_2 v_bits v_size v_allBits x1 FU x2
def P3_isConjugate (v_bits : Int32) (v_size : Int32) (v_allBits : Int32) (x1 : Int32) : Option (Int32) :=
  Option.bind (P3_turnTo v_bits v_size v_allBits x1 0) fun r1 =>
  if r1 = (-2000000001) then
    some 0
  else
    some 1
def P3_period (v_bits : Int32) (v_size : Int32) (v_allBits : Int32) : Option (Int32) :=
  Option.bind (P3_turnTo v_bits v_size v_allBits v_bits 1) fun r1 =>
  if r1 = (-2000000001) then
    some v_size
  else
    some r1
def P4_commonDivisor_13  : Nat → Int32 → Int32 → Int32 → Option (Int32)
  | 0, _, _, _ => none
  | n + 1, x2, x3, x4 =>
    if 100 ≤ x4 then
      some x2
    else
      if x3 ≤ 0 then
        some x2
      else
        if ¬ x3 = 0 then
        P4_commonDivisor_13 n x3 (jrem x2 x3) (x4 + 1)
        else none
def P4_commonDivisor (x0 : Int32) (x1 : Int32) : Option (Int32) :=
  Option.bind (P4_commonDivisor_13 FU (jabs x0) (jabs x1) 0) fun o4 =>
  some (jmax 1 o4)
def P4_discriminantOf (x0 : Int32) (x1 : Int32) (x2 : Int32) : Option (Int32) :=
  some ((x1 * x1) - ((4 * x0) * x2))
def P3_formNumber (v_a : Int32) (v_b : Int32) (v_c : Int32) (v_d : Int32) (x1 : Int32) : Option (Int32) :=
  Option.bind (P4_commonDivisor v_c (v_d - v_a)) fun r1 =>
  Option.bind (P4_commonDivisor r1 v_b) fun r2 =>
  if ¬ r2 = 0 then
  if ¬ r2 = 0 then
  if ¬ r2 = 0 then
  if x1 = 0 then
    some (v_c / r2)
  else
    if x1 = 1 then
      some ((v_d - v_a) / r2)
    else
      if x1 = 2 then
        some ((-v_b) / r2)
      else
        if x1 = 3 then
          some r2
        else
          Option.bind (P4_discriminantOf (v_c / r2) ((v_d - v_a) / r2) ((-v_b) / r2)) fun r10 =>
          some r10
  else none
  else none
  else none
def P4_letter (v_psize : Int32) (v_good : Int32) (v_pbits : Int32) (v_letters : Int32) (v_afterLetter : Int32) (v_codes : Nat → Int32) (x1 : Int32) : Option (Int32 × Int32 × Int32 × Int32 × Int32 × Int32 × (Nat → Int32)) :=
  if x1 < 32 then
    some ((-2000000102), v_psize, v_good, v_pbits, v_letters, v_afterLetter, v_codes)
  else
    if x1 ≤ 126 then
      if v_psize < 20 then
        Option.bind (P1_append v_psize v_good v_pbits v_letters v_afterLetter v_codes x1) fun r4 =>
        some (r4.1, r4.1, r4.2.1, r4.2.2.1, r4.2.2.2.1, r4.2.2.2.2.1, r4.2.2.2.2.2)
      else
        some ((-2000000104), v_psize, v_good, v_pbits, v_letters, v_afterLetter, v_codes)
    else
      some ((-2000000102), v_psize, v_good, v_pbits, v_letters, v_afterLetter, v_codes)
def P4_blank (v_psize : Int32) : Option (Int32 × Int32 × Int32 × Int32 × Int32 × Int32) :=
  Option.bind (P1_clear) fun r1 =>
  some (v_psize, r1.1, r1.2.1, r1.2.2.1, r1.2.2.2.1, r1.2.2.2.2)
def P4_fault (v_good : Int32) : Option (Int32) :=
  some v_good
/-- what addRoad answers, and the roads then (by hand: the new word's cell is the machine's affair) -/
def P4_addRoad (v_roadCount : Int32) (v_wn : Nat) (v_wv : Nat → Nat → Int32) (x1 : Int32) (x2 : Int32) : Option (Int32 × Int32 × Nat × (Nat → Nat → Int32)) :=
  if x2 ≤ 20 then
    if v_roadCount < 0 then some (-2000000104, v_roadCount, v_wn, v_wv)
    else if v_roadCount < 6 then
      Option.bind (P3_become x1 x2) fun r =>
      if Int32.toNatClampNeg v_roadCount ≤ v_wn then
        some (v_roadCount, v_roadCount + 1, (if Int32.toNatClampNeg v_roadCount < v_wn then v_wn else v_wn + 1), wvset v_wv (Int32.toNatClampNeg v_roadCount) r.1 r.2.1 r.2.2.1 r.2.2.2.1 r.2.2.2.2.1 r.2.2.2.2.2.1 r.2.2.2.2.2.2)
      else none
    else some (-2000000104, v_roadCount, v_wn, v_wv)
  else some (-2000000103, v_roadCount, v_wn, v_wv)
def P4_word (v_roadCount : Int32) (v_readings : Int32) (v_psize : Int32) (v_good : Int32) (v_pbits : Int32) (v_letters : Int32) (v_afterLetter : Int32) (v_wn : Nat) (v_wv : Nat → Nat → Int32) : Option (Int32 × Int32 × Int32 × Int32 × Int32 × Int32 × Int32 × Int32 × Nat × (Nat → Nat → Int32)) :=
  Option.bind (P1_isWord v_psize v_good) fun r1 =>
  if r1 = 0 then
    some ((-2000000103), v_roadCount, v_readings, v_psize, v_good, v_pbits, v_letters, v_afterLetter, v_wn, v_wv)
  else
    Option.bind (P4_addRoad v_roadCount v_wn v_wv v_pbits v_letters) fun r3 =>
    if r3.1 < 0 then
      some (r3.1, r3.2.1, v_readings, v_psize, v_good, v_pbits, v_letters, v_afterLetter, r3.2.2.1, r3.2.2.2)
    else
      Option.bind (P1_clear) fun r5 =>
      some (r3.1, r3.2.1, v_readings + 1, r5.1, r5.2.1, r5.2.2.1, r5.2.2.2.1, r5.2.2.2.2, r3.2.2.1, r3.2.2.2)
def P4_roadAt (v_roadCount : Int32) (v_wn : Nat) (x1 : Int32) : Option (Option Nat) :=
  if x1 < 0 then
    some none
  else
    if v_roadCount ≤ x1 then
      some none
    else
      if 6 ≤ x1 then
        some none
      else
        if vx x1 6 then
        some (if Int32.toNatClampNeg x1 < v_wn then some (Int32.toNatClampNeg x1) else none)
        else none
theorem P4_roadAt_lt {rc x : Int32} {wn j : Nat} (h : P4_roadAt rc wn x = some (some j)) : j < wn := by
  unfold P4_roadAt at h
  by_cases h1 : x < 0
  · have h := p_pos h h1
    cases h
  · have h := p_neg h h1
    by_cases h2 : rc ≤ x
    · have h := p_pos h h2
      cases h
    · have h := p_neg h h2
      by_cases h3 : 6 ≤ x
      · have h := p_pos h h3
        cases h
      · have h := p_neg h h3
        obtain ⟨_, h⟩ := p_chk h
        have h := Option.some.inj h
        by_cases h4 : Int32.toNatClampNeg x < wn
        · rw [if_pos h4] at h
          rw [← Option.some.inj h]
          exact h4
        · rw [if_neg h4] at h
          cases h
def P4_road (v_roadCount : Int32) (v_wn : Nat) (v_wv : Nat → Nat → Int32) (x1 : Int32) (x2 : Int32) : Option (Int32) :=
  Option.bind (P4_roadAt v_roadCount v_wn x1) fun r1 =>
  match r1 with
  | none =>
    some (-2000000101)
  | some j2 =>
    if x2 = 0 then
      some (v_wv j2 1)
    else
      if x2 = 1 then
        some ((v_wv j2 1) - (jbitCount (v_wv j2 0)))
      else
        if x2 = 2 then
          some (jbitCount (v_wv j2 0))
        else
          if x2 = 3 then
            Option.bind (P3_period (v_wv j2 0) (v_wv j2 1) (v_wv j2 2)) fun r7 =>
            some r7
          else
            if x2 = 4 then
              Option.bind (P3_leastTurn (v_wv j2 0) (v_wv j2 1) (v_wv j2 2)) fun r9 =>
              some r9
            else
              if x2 = 5 then
                Option.bind (P3_traceSum (v_wv j2 3) (v_wv j2 6)) fun r11 =>
                some r11
              else
                if x2 = 6 then
                  Option.bind (P3_isClosed (v_wv j2 0) (v_wv j2 2)) fun r13 =>
                  if r13 = 0 then
                    some 0
                  else
                    some 1
                else
                  if x2 = 7 then
                    Option.bind (P3_reversal (v_wv j2 0) (v_wv j2 1)) fun r16 =>
                    Option.bind (P3_isConjugate (v_wv j2 0) (v_wv j2 1) (v_wv j2 2) r16) fun r17 =>
                    if r17 = 0 then
                      some 0
                    else
                      some 1
                  else
                    if x2 = 8 then
                      Option.bind (P3_complement (v_wv j2 2) (v_wv j2 0)) fun r20 =>
                      Option.bind (P3_isConjugate (v_wv j2 0) (v_wv j2 1) (v_wv j2 2) r20) fun r21 =>
                      if r21 = 0 then
                        some 0
                      else
                        some 1
                    else
                      if x2 = 9 then
                        Option.bind (P3_reversal (v_wv j2 0) (v_wv j2 1)) fun r24 =>
                        Option.bind (P3_complement (v_wv j2 2) r24) fun r25 =>
                        Option.bind (P3_isConjugate (v_wv j2 0) (v_wv j2 1) (v_wv j2 2) r25) fun r26 =>
                        if r26 = 0 then
                          some 0
                        else
                          some 1
                      else
                        some (-2000000102)
def P4_code (x0 : Int32) : Option (Int32) :=
  if x0 = 1 then
    some 82
  else
    some 76
def P4_sign (v_roadCount : Int32) (v_wn : Nat) (v_wv : Nat → Nat → Int32) (x1 : Int32) (x2 : Int32) : Option (Int32) :=
  Option.bind (P4_roadAt v_roadCount v_wn x1) fun r1 =>
  match r1 with
  | none =>
    some (-2000000101)
  | some j2 =>
    if x2 < 0 then
      some (-2000000101)
    else
      if x2 < (v_wv j2 1) then
        Option.bind (P3_bitAt (v_wv j2 0) (v_wv j2 1) x2) fun r5 =>
        Option.bind (P4_code r5) fun r6 =>
        some r6
      else
        some (-2000000101)
def P4_table (v_roadCount : Int32) (v_wn : Nat) (v_wv : Nat → Nat → Int32) (x1 : Int32) (x2 : Int32) : Option (Int32) :=
  Option.bind (P4_roadAt v_roadCount v_wn x1) fun r1 =>
  match r1 with
  | none =>
    some (-2000000101)
  | some j2 =>
    if x2 = 0 then
      some (v_wv j2 3)
    else
      if x2 = 1 then
        some (v_wv j2 4)
      else
        if x2 = 2 then
          some (v_wv j2 5)
        else
          if x2 = 3 then
            some (v_wv j2 6)
          else
            some (-2000000102)
def P4_form (v_roadCount : Int32) (v_wn : Nat) (v_wv : Nat → Nat → Int32) (x1 : Int32) (x2 : Int32) : Option (Int32) :=
  Option.bind (P4_roadAt v_roadCount v_wn x1) fun r1 =>
  match r1 with
  | none =>
    some (-2000000101)
  | some j2 =>
    if x2 < 0 then
      some (-2000000102)
    else
      if x2 < 5 then
        Option.bind (P3_isClosed (v_wv j2 0) (v_wv j2 2)) fun r5 =>
        if r5 = 0 then
          some (-2000000103)
        else
          Option.bind (P3_formNumber (v_wv j2 3) (v_wv j2 4) (v_wv j2 5) (v_wv j2 6) x2) fun r7 =>
          some r7
      else
        some (-2000000102)
def P4_end (v_roadCount : Int32) (v_wn : Nat) (v_wv : Nat → Nat → Int32) (x1 : Int32) (x2 : Int32) : Option (Int32) :=
  Option.bind (P4_roadAt v_roadCount v_wn x1) fun r1 =>
  match r1 with
  | none =>
    some (-2000000101)
  | some j2 =>
    if x2 = 0 then
      some ((v_wv j2 3) + (v_wv j2 4))
    else
      if x2 = 1 then
        some ((v_wv j2 5) + (v_wv j2 6))
      else
        some (-2000000102)
def P4_alike (v_roadCount : Int32) (v_wn : Nat) (v_wv : Nat → Nat → Int32) (x1 : Int32) (x2 : Int32) : Option (Int32) :=
  Option.bind (P4_roadAt v_roadCount v_wn x1) fun r1 =>
  match r1 with
  | none =>
    Option.bind (P4_roadAt v_roadCount v_wn x2) fun r3 =>
    match r3 with
    | none =>
      some (-2000000101)
    | some j4 =>
      some (-2000000101)
  | some j2 =>
    Option.bind (P4_roadAt v_roadCount v_wn x2) fun r5 =>
    match r5 with
    | none =>
      some (-2000000101)
    | some j6 =>
      if (v_wv j2 1) = (v_wv j6 1) then
        Option.bind (P3_turnTo (v_wv j2 0) (v_wv j2 1) (v_wv j2 2) (v_wv j6 0) 0) fun r8 =>
        some r8
      else
        some (-2000000001)
def P4_cross (v_roadCount : Int32) (v_wn : Nat) (v_wv : Nat → Nat → Int32) (x1 : Int32) (x2 : Int32) : Option (Int32) :=
  Option.bind (P4_roadAt v_roadCount v_wn x1) fun r1 =>
  match r1 with
  | none =>
    Option.bind (P4_roadAt v_roadCount v_wn x2) fun r3 =>
    match r3 with
    | none =>
      some (-2000000101)
    | some j4 =>
      some (-2000000101)
  | some j2 =>
    Option.bind (P4_roadAt v_roadCount v_wn x2) fun r5 =>
    match r5 with
    | none =>
      some (-2000000101)
    | some j6 =>
      Option.bind (P3_isClosed (v_wv j2 0) (v_wv j2 2)) fun r7 =>
      if r7 = 0 then
        some (-2000000103)
      else
        Option.bind (P3_isClosed (v_wv j6 0) (v_wv j6 2)) fun r9 =>
        if r9 = 0 then
          some (-2000000103)
        else
          Option.bind (P3_crossings (v_wv j2 0) (v_wv j2 1) (v_wv j6 0) (v_wv j6 1)) fun r11 =>
          some r11
def P4_turn (v_roadCount : Int32) (v_wn : Nat) (v_wv : Nat → Nat → Int32) (x1 : Int32) (x2 : Int32) : Option (Int32 × (Nat → Nat → Int32)) :=
  Option.bind (P4_roadAt v_roadCount v_wn x1) fun r1 =>
  match r1 with
  | none =>
    some ((-2000000101), v_wv)
  | some j2 =>
    if x2 < 0 then
      some ((-2000000102), v_wv)
    else
      if x2 < (v_wv j2 1) then
        Option.bind (P3_rotation (v_wv j2 0) (v_wv j2 1) (v_wv j2 2) x2) fun r5 =>
        Option.bind (P3_become r5 (v_wv j2 1)) fun r6 =>
        Option.bind (P3_period ((wvset v_wv j2 r6.1 r6.2.1 r6.2.2.1 r6.2.2.2.1 r6.2.2.2.2.1 r6.2.2.2.2.2.1 r6.2.2.2.2.2.2) j2 0) ((wvset v_wv j2 r6.1 r6.2.1 r6.2.2.1 r6.2.2.2.1 r6.2.2.2.2.1 r6.2.2.2.2.2.1 r6.2.2.2.2.2.2) j2 1) ((wvset v_wv j2 r6.1 r6.2.1 r6.2.2.1 r6.2.2.2.1 r6.2.2.2.2.1 r6.2.2.2.2.2.1 r6.2.2.2.2.2.2) j2 2)) fun r7 =>
        some (r7, wvset v_wv j2 r6.1 r6.2.1 r6.2.2.1 r6.2.2.2.1 r6.2.2.2.2.1 r6.2.2.2.2.2.1 r6.2.2.2.2.2.2)
      else
        some ((-2000000102), v_wv)
def P4_change (v_roadCount : Int32) (v_wn : Nat) (v_wv : Nat → Nat → Int32) (x1 : Int32) (x2 : Int32) : Option (Int32 × (Nat → Nat → Int32)) :=
  Option.bind (P4_roadAt v_roadCount v_wn x1) fun r1 =>
  match r1 with
  | none =>
    some ((-2000000101), v_wv)
  | some j2 =>
    if x2 < 0 then
      some ((-2000000102), v_wv)
    else
      if x2 < 3 then
        Option.bind (P3_changed (v_wv j2 0) (v_wv j2 1) (v_wv j2 2) x2) fun r5 =>
        Option.bind (P3_become r5 (v_wv j2 1)) fun r6 =>
        Option.bind (P3_traceSum ((wvset v_wv j2 r6.1 r6.2.1 r6.2.2.1 r6.2.2.2.1 r6.2.2.2.2.1 r6.2.2.2.2.2.1 r6.2.2.2.2.2.2) j2 3) ((wvset v_wv j2 r6.1 r6.2.1 r6.2.2.1 r6.2.2.2.1 r6.2.2.2.2.1 r6.2.2.2.2.2.1 r6.2.2.2.2.2.2) j2 6)) fun r7 =>
        some (r7, wvset v_wv j2 r6.1 r6.2.1 r6.2.2.1 r6.2.2.2.1 r6.2.2.2.2.1 r6.2.2.2.2.2.1 r6.2.2.2.2.2.2)
      else
        some ((-2000000102), v_wv)
def P4_join (v_roadCount : Int32) (v_wn : Nat) (v_wv : Nat → Nat → Int32) (x1 : Int32) (x2 : Int32) : Option (Int32 × Int32 × Nat × (Nat → Nat → Int32)) :=
  Option.bind (P4_roadAt v_roadCount v_wn x1) fun r1 =>
  match r1 with
  | none =>
    Option.bind (P4_roadAt v_roadCount v_wn x2) fun r3 =>
    match r3 with
    | none =>
      some ((-2000000101), v_roadCount, v_wn, v_wv)
    | some j4 =>
      some ((-2000000101), v_roadCount, v_wn, v_wv)
  | some j2 =>
    Option.bind (P4_roadAt v_roadCount v_wn x2) fun r5 =>
    match r5 with
    | none =>
      some ((-2000000101), v_roadCount, v_wn, v_wv)
    | some j6 =>
      Option.bind (P4_addRoad v_roadCount v_wn v_wv ((jshl (v_wv j2 0) (v_wv j6 1)) ||| (v_wv j6 0)) ((v_wv j2 1) + (v_wv j6 1))) fun r7 =>
      some (r7.1, r7.2.1, r7.2.2.1, r7.2.2.2)
def P4_times_32 (j3 : Nat) (v_wv : Nat → Nat → Int32) (x2 : Int32) : Nat → Int32 → Int32 → Option (Int32)
  | 0, _, _ => none
  | n + 1, x4, x5 =>
    if x2 ≤ x5 then
      some x4
    else
      P4_times_32 j3 v_wv x2 n ((jshl x4 (v_wv j3 1)) ||| (v_wv j3 0)) (x5 + 1)
def P4_times (v_roadCount : Int32) (v_wn : Nat) (v_wv : Nat → Nat → Int32) (x1 : Int32) (x2 : Int32) : Option (Int32 × Int32 × Nat × (Nat → Nat → Int32)) :=
  Option.bind (P4_roadAt v_roadCount v_wn x1) fun r1 =>
  match r1 with
  | none =>
    some ((-2000000101), v_roadCount, v_wn, v_wv)
  | some j2 =>
    if x2 < 2 then
      some ((-2000000102), v_roadCount, v_wn, v_wv)
    else
      if x2 ≤ 5 then
        Option.bind (P4_times_32 j2 v_wv x2 FU 0 0) fun o6 =>
        Option.bind (P4_addRoad v_roadCount v_wn v_wv o6 (x2 * (v_wv j2 1))) fun r7 =>
        some (r7.1, r7.2.1, r7.2.2.1, r7.2.2.2)
      else
        some ((-2000000102), v_roadCount, v_wn, v_wv)
def P4_cut_50  : Nat → Int32 → Int32 → Int32 → Int32 → Option (Int32 × Int32)
  | 0, _, _, _, _ => none
  | n + 1, x3, x4, x5, x6 =>
    if x5 = x6 then
      some (x3, x4)
    else
      if 99 ≤ x4 then
        some (x3, x4)
      else
        if x5 ≤ x6 then
          P4_cut_50 n (jshl x3 1) (x4 + 1) x5 (x6 - x5)
        else
          P4_cut_50 n ((jshl x3 1) ||| 1) (x4 + 1) (x5 - x6) x6
def P4_cut (v_roadCount : Int32) (v_wn : Nat) (v_wv : Nat → Nat → Int32) (x1 : Int32) (x2 : Int32) : Option (Int32 × Int32 × Nat × (Nat → Nat → Int32)) :=
  if x1 < 1 then
    some ((-2000000102), v_roadCount, v_wn, v_wv)
  else
    if 99 < x1 then
      some ((-2000000102), v_roadCount, v_wn, v_wv)
    else
      if x2 < 1 then
        some ((-2000000102), v_roadCount, v_wn, v_wv)
      else
        if 99 < x2 then
          some ((-2000000102), v_roadCount, v_wn, v_wv)
        else
          if x1 = x2 then
            some ((-2000000102), v_roadCount, v_wn, v_wv)
          else
            Option.bind (P4_commonDivisor x1 x2) fun r6 =>
            if r6 ≤ 1 then
              Option.bind (P4_cut_50 FU 0 0 x1 x2) fun o11 =>
              Option.bind (P4_addRoad v_roadCount v_wn v_wv o11.1 o11.2) fun r12 =>
              some (r12.1, r12.2.1, r12.2.2.1, r12.2.2.2)
            else
              some ((-2000000102), v_roadCount, v_wn, v_wv)
def P4_drop (v_roadCount : Int32) : Option (Int32 × Int32) :=
  if 0 < v_roadCount then
    some (v_roadCount - 1, v_roadCount - 1)
  else
    some ((-2000000103), v_roadCount)
def P4_drawn (v_s : Int64) (v_closed : Int32) (v_traces : Int32) (v_crossings : Int32) (v_db_bits : Int32) (v_db_size : Int32) (v_db_allBits : Int32) (v_db_a : Int32) (v_db_b : Int32) (v_db_c : Int32) (v_db_d : Int32) (v_dn_bits : Int32) (v_dn_size : Int32) (v_dn_allBits : Int32) (v_dn_a : Int32) (v_dn_b : Int32) (v_dn_c : Int32) (v_dn_d : Int32) (x1 : Int32) (x2 : Int32) (x3 : Int32) : Option (Int32 × Int64 × Int32 × Int32 × Int32 × Int32 × Int32 × Int32 × Int32 × Int32 × Int32 × Int32 × Int32 × Int32 × Int32 × Int32 × Int32 × Int32 × Int32) :=
  if x1 < 1 then
    some ((-2000000102), v_s, v_closed, v_traces, v_crossings, v_db_bits, v_db_size, v_db_allBits, v_db_a, v_db_b, v_db_c, v_db_d, v_dn_bits, v_dn_size, v_dn_allBits, v_dn_a, v_dn_b, v_dn_c, v_dn_d)
  else
    if 40 < x1 then
      some ((-2000000102), v_s, v_closed, v_traces, v_crossings, v_db_bits, v_db_size, v_db_allBits, v_db_a, v_db_b, v_db_c, v_db_d, v_dn_bits, v_dn_size, v_dn_allBits, v_dn_a, v_dn_b, v_dn_c, v_dn_d)
    else
      if x2 < 0 then
        some ((-2000000102), v_s, v_closed, v_traces, v_crossings, v_db_bits, v_db_size, v_db_allBits, v_db_a, v_db_b, v_db_c, v_db_d, v_dn_bits, v_dn_size, v_dn_allBits, v_dn_a, v_dn_b, v_dn_c, v_dn_d)
      else
        if x3 < 0 then
          some ((-2000000102), v_s, v_closed, v_traces, v_crossings, v_db_bits, v_db_size, v_db_allBits, v_db_a, v_db_b, v_db_c, v_db_d, v_dn_bits, v_dn_size, v_dn_allBits, v_dn_a, v_dn_b, v_dn_c, v_dn_d)
        else
          if x3 < 4 then
            Option.bind (P0_run v_db_bits v_db_size v_db_allBits v_db_a v_db_b v_db_c v_db_d x1 x2) fun r6 =>
            if x3 = 0 then
              some (r6.2.1, r6.1, r6.2.1, r6.2.2.1, r6.2.2.2.1, r6.2.2.2.2.1, r6.2.2.2.2.2.1, r6.2.2.2.2.2.2.1, r6.2.2.2.2.2.2.2.1, r6.2.2.2.2.2.2.2.2.1, r6.2.2.2.2.2.2.2.2.2.1, r6.2.2.2.2.2.2.2.2.2.2.1, r6.2.2.2.2.2.2.2.2.2.2.2.1, r6.2.2.2.2.2.2.2.2.2.2.2.2.1, r6.2.2.2.2.2.2.2.2.2.2.2.2.2.1, r6.2.2.2.2.2.2.2.2.2.2.2.2.2.2.1, r6.2.2.2.2.2.2.2.2.2.2.2.2.2.2.2.1, r6.2.2.2.2.2.2.2.2.2.2.2.2.2.2.2.2.1, r6.2.2.2.2.2.2.2.2.2.2.2.2.2.2.2.2.2)
            else
              if x3 = 1 then
                some (r6.2.2.1, r6.1, r6.2.1, r6.2.2.1, r6.2.2.2.1, r6.2.2.2.2.1, r6.2.2.2.2.2.1, r6.2.2.2.2.2.2.1, r6.2.2.2.2.2.2.2.1, r6.2.2.2.2.2.2.2.2.1, r6.2.2.2.2.2.2.2.2.2.1, r6.2.2.2.2.2.2.2.2.2.2.1, r6.2.2.2.2.2.2.2.2.2.2.2.1, r6.2.2.2.2.2.2.2.2.2.2.2.2.1, r6.2.2.2.2.2.2.2.2.2.2.2.2.2.1, r6.2.2.2.2.2.2.2.2.2.2.2.2.2.2.1, r6.2.2.2.2.2.2.2.2.2.2.2.2.2.2.2.1, r6.2.2.2.2.2.2.2.2.2.2.2.2.2.2.2.2.1, r6.2.2.2.2.2.2.2.2.2.2.2.2.2.2.2.2.2)
              else
                if x3 = 2 then
                  some (r6.2.2.2.1, r6.1, r6.2.1, r6.2.2.1, r6.2.2.2.1, r6.2.2.2.2.1, r6.2.2.2.2.2.1, r6.2.2.2.2.2.2.1, r6.2.2.2.2.2.2.2.1, r6.2.2.2.2.2.2.2.2.1, r6.2.2.2.2.2.2.2.2.2.1, r6.2.2.2.2.2.2.2.2.2.2.1, r6.2.2.2.2.2.2.2.2.2.2.2.1, r6.2.2.2.2.2.2.2.2.2.2.2.2.1, r6.2.2.2.2.2.2.2.2.2.2.2.2.2.1, r6.2.2.2.2.2.2.2.2.2.2.2.2.2.2.1, r6.2.2.2.2.2.2.2.2.2.2.2.2.2.2.2.1, r6.2.2.2.2.2.2.2.2.2.2.2.2.2.2.2.2.1, r6.2.2.2.2.2.2.2.2.2.2.2.2.2.2.2.2.2)
                else
                  some (Int64.toInt32 r6.1, r6.1, r6.2.1, r6.2.2.1, r6.2.2.2.1, r6.2.2.2.2.1, r6.2.2.2.2.2.1, r6.2.2.2.2.2.2.1, r6.2.2.2.2.2.2.2.1, r6.2.2.2.2.2.2.2.2.1, r6.2.2.2.2.2.2.2.2.2.1, r6.2.2.2.2.2.2.2.2.2.2.1, r6.2.2.2.2.2.2.2.2.2.2.2.1, r6.2.2.2.2.2.2.2.2.2.2.2.2.1, r6.2.2.2.2.2.2.2.2.2.2.2.2.2.1, r6.2.2.2.2.2.2.2.2.2.2.2.2.2.2.1, r6.2.2.2.2.2.2.2.2.2.2.2.2.2.2.2.1, r6.2.2.2.2.2.2.2.2.2.2.2.2.2.2.2.2.1, r6.2.2.2.2.2.2.2.2.2.2.2.2.2.2.2.2.2)
          else
            some ((-2000000102), v_s, v_closed, v_traces, v_crossings, v_db_bits, v_db_size, v_db_allBits, v_db_a, v_db_b, v_db_c, v_db_d, v_dn_bits, v_dn_size, v_dn_allBits, v_dn_a, v_dn_b, v_dn_c, v_dn_d)
def P4_isClosedRoad (v_roadCount : Int32) (v_wn : Nat) (v_wv : Nat → Nat → Int32) (x1 : Int32) : Option (Int32) :=
  Option.bind (P4_roadAt v_roadCount v_wn x1) fun r1 =>
  match r1 with
  | none =>
    some 0
  | some j2 =>
    Option.bind (P3_isClosed (v_wv j2 0) (v_wv j2 2)) fun r3 =>
    if r3 = 0 then
      some 0
    else
      some 1
def P4_closedRoads_4 (v_roadCount : Int32) (v_wn : Nat) (v_wv : Nat → Nat → Int32) : Nat → Int32 → Int32 → Option (Int32)
  | 0, _, _ => none
  | n + 1, x1, x2 =>
    if v_roadCount ≤ x2 then
      some x1
    else
      Option.bind (P4_isClosedRoad v_roadCount v_wn v_wv x2) fun r2 =>
      if r2 = 0 then
        P4_closedRoads_4 v_roadCount v_wn v_wv n x1 (x2 + 1)
      else
        P4_closedRoads_4 v_roadCount v_wn v_wv n (x1 + 1) (x2 + 1)
def P4_closedRoads (v_roadCount : Int32) (v_wn : Nat) (v_wv : Nat → Nat → Int32) : Option (Int32) :=
  Option.bind (P4_closedRoads_4 v_roadCount v_wn v_wv FU 0 0) fun o4 =>
  some o4
def P4_isFirstOfClass_2 (v_roadCount : Int32) (v_wn : Nat) (v_wv : Nat → Nat → Int32) (x1 : Int32) : Nat → Int32 → Option (Int32)
  | 0, _ => none
  | n + 1, x2 =>
    if x1 ≤ x2 then
      some 1
    else
      Option.bind (P4_alike v_roadCount v_wn v_wv x2 x1) fun r2 =>
      if r2 < 0 then
        P4_isFirstOfClass_2 v_roadCount v_wn v_wv x1 n (x2 + 1)
      else
        some 0
def P4_isFirstOfClass (v_roadCount : Int32) (v_wn : Nat) (v_wv : Nat → Nat → Int32) (x1 : Int32) : Option (Int32) :=
  P4_isFirstOfClass_2 v_roadCount v_wn v_wv x1 FU 0
def P4_roadClasses_4 (v_roadCount : Int32) (v_wn : Nat) (v_wv : Nat → Nat → Int32) : Nat → Int32 → Int32 → Option (Int32)
  | 0, _, _ => none
  | n + 1, x1, x2 =>
    if v_roadCount ≤ x2 then
      some x1
    else
      Option.bind (P4_isFirstOfClass v_roadCount v_wn v_wv x2) fun r2 =>
      if r2 = 0 then
        P4_roadClasses_4 v_roadCount v_wn v_wv n x1 (x2 + 1)
      else
        P4_roadClasses_4 v_roadCount v_wn v_wv n (x1 + 1) (x2 + 1)
def P4_roadClasses (v_roadCount : Int32) (v_wn : Nat) (v_wv : Nat → Nat → Int32) : Option (Int32) :=
  Option.bind (P4_roadClasses_4 v_roadCount v_wn v_wv FU 0 0) fun o4 =>
  some o4
def P4_count (v_roadCount : Int32) (v_readings : Int32) (v_psize : Int32) (v_rsize : Int32) (v_cycleCount : Int32) (v_wn : Nat) (v_wv : Nat → Nat → Int32) (x1 : Int32) : Option (Int32) :=
  if x1 = 0 then
    some v_roadCount
  else
    if x1 = 1 then
      Option.bind (P4_closedRoads v_roadCount v_wn v_wv) fun r3 =>
      some r3
    else
      if x1 = 2 then
        Option.bind (P4_roadClasses v_roadCount v_wn v_wv) fun r5 =>
        some r5
      else
        if x1 = 3 then
          some v_psize
        else
          if x1 = 4 then
            some v_readings
          else
            if x1 = 5 then
              some v_rsize
            else
              if x1 = 6 then
                some v_cycleCount
              else
                some (-2000000102)
