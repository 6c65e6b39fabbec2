-- THE DECOMPILED FUNCTIONS
def P3_bitAt (v_bits : Int32) (v_size : Int32) (x1 : Int32) : Option (Int32) :=
  some ((jshr v_bits ((v_size - 1) - x1)) &&& 1)
def P3_become_41 (v_bits : Int32) (v_size : Int32) : Nat → Int32 → Int32 → Int32 → Int32 → Int32 → Option (Int32 × Int32 × Int32 × Int32)
  | 0, _, _, _, _, _ => none
  | n + 1, v_a, v_b, v_c, v_d, x3 =>
    if v_size ≤ x3 then
      some (v_a, v_b, v_c, v_d)
    else
      Option.bind (P3_bitAt v_bits v_size x3) fun r2 =>
      if r2 = 1 then
        P3_become_41 v_bits v_size n v_a (v_b + v_a) v_c (v_d + v_c) (x3 + 1)
      else
        P3_become_41 v_bits v_size n (v_a + v_b) v_b (v_c + v_d) v_d (x3 + 1)
def P3_become (x1 : Int32) (x2 : Int32) : Option (Int32 × Int32 × Int32 × Int32 × Int32 × Int32 × Int32) :=
  Option.bind (P3_become_41 x1 x2 FU 1 0 0 1 0) fun o4 =>
  some (x1, x2, (jshl 1 x2) - 1, o4.1, o4.2.1, o4.2.2.1, o4.2.2.2)
def P0_nextBits_4  : Nat → Int64 → Int32 → Int32 → Option (Int64 × Int32)
  | 0, _, _, _ => none
  | n + 1, v_s, x1, x2 =>
    if 8 ≤ x2 then
      some (v_s, x1)
    else
      P0_nextBits_4 n (jlrem ((1103515245 * v_s) + 12345) 2147483648) ((jshl x1 1) ||| (Int64.toInt32 (jlrem ((jlrem ((1103515245 * v_s) + 12345) 2147483648) / 65536) 2))) (x2 + 1)
def P0_nextBits (v_s : Int64) : Option (Int32 × Int64) :=
  Option.bind (P0_nextBits_4 FU v_s 0 0) fun o2 =>
  some (o2.2, o2.1)
def P3_isClosed (v_bits : Int32) (v_allBits : Int32) : Option (Int32) :=
  if v_bits = 0 then
    some 0
  else
    if v_bits = v_allBits then
      some 0
    else
      some 1
def P3_traceSum (v_a : Int32) (v_d : Int32) : Option (Int32) :=
  some (v_a + v_d)
def P3_crosses_17 (v_bits : Int32) (v_size : Int32) (v_o_bits : Int32) (v_o_size : Int32) (x1 : Int32) : Nat → Int32 → Int32 → Int32 → Option (Int32)
  | 0, _, _, _ => none
  | n + 1, x4, x5, x6 =>
    if x6 ≤ 0 then
      some 0
    else
      if x4 ≤ 0 then
        if x5 ≤ 0 then
          Option.bind (P3_bitAt v_bits v_size (v_size - 1)) fun r4 =>
          Option.bind (P3_bitAt v_o_bits v_o_size (v_o_size - 1)) fun r5 =>
          if r4 = r5 then
            P3_crosses_17 v_bits v_size v_o_bits v_o_size x1 n (v_size - 1) (v_o_size - 1) (x6 + (-1))
          else
            Option.bind (P3_bitAt v_bits v_size (v_size - 1)) fun r7 =>
            Option.bind (P3_bitAt v_bits v_size x1) fun r8 =>
            if r7 = r8 then
              some 0
            else
              some 1
        else
          Option.bind (P3_bitAt v_bits v_size (v_size - 1)) fun r10 =>
          Option.bind (P3_bitAt v_o_bits v_o_size (x5 - 1)) fun r11 =>
          if r10 = r11 then
            P3_crosses_17 v_bits v_size v_o_bits v_o_size x1 n (v_size - 1) (x5 - 1) (x6 + (-1))
          else
            Option.bind (P3_bitAt v_bits v_size (v_size - 1)) fun r13 =>
            Option.bind (P3_bitAt v_bits v_size x1) fun r14 =>
            if r13 = r14 then
              some 0
            else
              some 1
      else
        if x5 ≤ 0 then
          Option.bind (P3_bitAt v_bits v_size (x4 - 1)) fun r17 =>
          Option.bind (P3_bitAt v_o_bits v_o_size (v_o_size - 1)) fun r18 =>
          if r17 = r18 then
            P3_crosses_17 v_bits v_size v_o_bits v_o_size x1 n (x4 - 1) (v_o_size - 1) (x6 + (-1))
          else
            Option.bind (P3_bitAt v_bits v_size (x4 - 1)) fun r20 =>
            Option.bind (P3_bitAt v_bits v_size x1) fun r21 =>
            if r20 = r21 then
              some 0
            else
              some 1
        else
          Option.bind (P3_bitAt v_bits v_size (x4 - 1)) fun r23 =>
          Option.bind (P3_bitAt v_o_bits v_o_size (x5 - 1)) fun r24 =>
          if r23 = r24 then
            P3_crosses_17 v_bits v_size v_o_bits v_o_size x1 n (x4 - 1) (x5 - 1) (x6 + (-1))
          else
            Option.bind (P3_bitAt v_bits v_size (x4 - 1)) fun r26 =>
            Option.bind (P3_bitAt v_bits v_size x1) fun r27 =>
            if r26 = r27 then
              some 0
            else
              some 1
def P3_crosses (v_bits : Int32) (v_size : Int32) (v_o_bits : Int32) (v_o_size : Int32) (x1 : Int32) (x3 : Int32) : Option (Int32) :=
  P3_crosses_17 v_bits v_size v_o_bits v_o_size x1 FU x1 x3 (v_size * v_o_size)
def P3_crossings_15 (v_bits : Int32) (v_size : Int32) (v_o_bits : Int32) (v_o_size : Int32) (x3 : Int32) : Nat → Int32 → Int32 → Option (Int32)
  | 0, _, _ => none
  | n + 1, x2, x4 =>
    if v_o_size ≤ x4 then
      some x2
    else
      Option.bind (P3_bitAt v_bits v_size x3) fun r3 =>
      Option.bind (P3_bitAt v_o_bits v_o_size x4) fun r4 =>
      if r3 = r4 then
        P3_crossings_15 v_bits v_size v_o_bits v_o_size x3 n x2 (x4 + 1)
      else
        Option.bind (P3_crosses v_bits v_size v_o_bits v_o_size x3 x4) fun r6 =>
        if r6 = 0 then
          P3_crossings_15 v_bits v_size v_o_bits v_o_size x3 n x2 (x4 + 1)
        else
          P3_crossings_15 v_bits v_size v_o_bits v_o_size x3 n (x2 + 1) (x4 + 1)
def P3_crossings_4 (v_bits : Int32) (v_size : Int32) (v_o_bits : Int32) (v_o_size : Int32) : Nat → Int32 → Int32 → Option (Int32)
  | 0, _, _ => none
  | n + 1, x2, x3 =>
    if v_size ≤ x3 then
      some x2
    else
      Option.bind (P3_crossings_15 v_bits v_size v_o_bits v_o_size x3 FU x2 0) fun o8 =>
      P3_crossings_4 v_bits v_size v_o_bits v_o_size n o8 (x3 + 1)
def P3_crossings (v_bits : Int32) (v_size : Int32) (v_o_bits : Int32) (v_o_size : Int32) : Option (Int32) :=
  Option.bind (P3_crossings_4 v_bits v_size v_o_bits v_o_size FU 0 0) fun o9 =>
  some o9
def P0_tell (v_closed : Int32) (v_traces : Int32) (v_crossings : Int32) (v_db_bits : Int32) (v_db_size : Int32) (v_db_allBits : Int32) (v_dn_bits : Int32) (v_dn_size : Int32) (v_dn_allBits : Int32) (v_dn_a : Int32) (v_dn_d : Int32) : Option (Int32 × Int32 × Int32) :=
  Option.bind (P3_isClosed v_dn_bits v_dn_allBits) fun r1 =>
  if r1 = 0 then
    some (v_closed, v_traces, v_crossings)
  else
    Option.bind (P3_traceSum v_dn_a v_dn_d) fun r3 =>
    Option.bind (P3_isClosed v_db_bits v_db_allBits) fun r4 =>
    if r4 = 0 then
      some (v_closed + 1, v_traces + r3, v_crossings)
    else
      Option.bind (P3_crossings v_dn_bits v_dn_size v_db_bits v_db_size) fun r6 =>
      some (v_closed + 1, v_traces + r3, v_crossings + r6)
def P0_run_33 (x1 : Int32) : Nat → Int64 → Int32 → Int32 → Int32 → Int32 → Int32 → Int32 → Int32 → Int32 → Int32 → Int32 → Int32 → Int32 → Int32 → Int32 → Int32 → Int32 → Int32 → Int32 → Option (Int64 × Int32 × Int32 × Int32 × Int32 × Int32 × Int32 × Int32 × Int32 × Int32 × Int32 × Int32 × Int32 × Int32 × Int32 × Int32 × Int32 × Int32)
  | 0, _, _, _, _, _, _, _, _, _, _, _, _, _, _, _, _, _, _, _ => none
  | n + 1, v_s, v_closed, v_traces, v_crossings, v_db_bits, v_db_size, v_db_allBits, v_db_a, v_db_b, v_db_c, v_db_d, v_dn_bits, v_dn_size, v_dn_allBits, v_dn_a, v_dn_b, v_dn_c, v_dn_d, x3 =>
    if x1 ≤ x3 then
      some (v_s, v_closed, v_traces, v_crossings, v_db_bits, v_db_size, v_db_allBits, v_db_a, v_db_b, v_db_c, v_db_d, v_dn_bits, v_dn_size, v_dn_allBits, v_dn_a, v_dn_b, v_dn_c, v_dn_d)
    else
      Option.bind (P3_become v_dn_bits 8) fun r3 =>
      Option.bind (P0_nextBits v_s) fun r4 =>
      Option.bind (P3_become r4.1 8) fun r5 =>
      Option.bind (P0_tell v_closed v_traces v_crossings r3.1 r3.2.1 r3.2.2.1 r5.1 r5.2.1 r5.2.2.1 r5.2.2.2.1 r5.2.2.2.2.2.2) fun r6 =>
      P0_run_33 x1 n r4.2 r6.1 r6.2.1 r6.2.2 r3.1 r3.2.1 r3.2.2.1 r3.2.2.2.1 r3.2.2.2.2.1 r3.2.2.2.2.2.1 r3.2.2.2.2.2.2 r5.1 r5.2.1 r5.2.2.1 r5.2.2.2.1 r5.2.2.2.2.1 r5.2.2.2.2.2.1 r5.2.2.2.2.2.2 (x3 + 1)
def P0_run (v_db_bits : Int32) (v_db_size : Int32) (v_db_allBits : Int32) (v_db_a : Int32) (v_db_b : Int32) (v_db_c : Int32) (v_db_d : Int32) (x1 : Int32) (x2 : Int32) : Option (Int64 × Int32 × Int32 × Int32 × Int32 × Int32 × Int32 × Int32 × Int32 × Int32 × Int32 × Int32 × Int32 × Int32 × Int32 × Int32 × Int32 × Int32) :=
  Option.bind (P3_become 0 8) fun r1 =>
  Option.bind (P0_run_33 x1 FU (Int32.toInt64 x2) 0 0 0 v_db_bits v_db_size v_db_allBits v_db_a v_db_b v_db_c v_db_d r1.1 r1.2.1 r1.2.2.1 r1.2.2.2.1 r1.2.2.2.2.1 r1.2.2.2.2.2.1 r1.2.2.2.2.2.2 0) fun o7 =>
  some (o7.1, o7.2.1, o7.2.2.1, o7.2.2.2.1, o7.2.2.2.2.1, o7.2.2.2.2.2.1, o7.2.2.2.2.2.2.1, o7.2.2.2.2.2.2.2.1, o7.2.2.2.2.2.2.2.2.1, o7.2.2.2.2.2.2.2.2.2.1, o7.2.2.2.2.2.2.2.2.2.2.1, o7.2.2.2.2.2.2.2.2.2.2.2.1, o7.2.2.2.2.2.2.2.2.2.2.2.2.1, o7.2.2.2.2.2.2.2.2.2.2.2.2.2.1, o7.2.2.2.2.2.2.2.2.2.2.2.2.2.2.1, o7.2.2.2.2.2.2.2.2.2.2.2.2.2.2.2.1, o7.2.2.2.2.2.2.2.2.2.2.2.2.2.2.2.2.1, o7.2.2.2.2.2.2.2.2.2.2.2.2.2.2.2.2.2)
def P1_clear : Option (Int32 × Int32 × Int32 × Int32 × Int32) :=
  some (0, 0, 0, 0, 0)
def P1_continues_110 (x4 : Int32) (x5 : Int32) : Nat → Int32 → Int32 → Option (Int32)
  | 0, _, _ => none
  | n + 1, v_pbits, x6 =>
    if x4 ≤ x6 then
      some v_pbits
    else
      P1_continues_110 x4 x5 n ((jshl v_pbits 1) ||| x5) (x6 + 1)
def P1_continues (v_pbits : Int32) (v_letters : Int32) (v_afterLetter : Int32) (x1 : Int32) : Option (Int32 × Int32 × Int32 × Int32) :=
  if x1 = 76 then
    if v_afterLetter = 0 then
      if (v_letters + 1) ≤ 20 then
        if x1 = 82 then
          Option.bind (P1_continues_110 1 1 FU v_pbits 0) fun o7 =>
          some (1, o7, v_letters + 1, 1)
        else
          Option.bind (P1_continues_110 1 0 FU v_pbits 0) fun o6 =>
          some (1, o6, v_letters + 1, 1)
      else
        some (0, v_pbits, v_letters, v_afterLetter)
    else
      if x1 < 50 then
        if (v_letters + 1) ≤ 20 then
          if x1 = 82 then
            Option.bind (P1_continues_110 1 1 FU v_pbits 0) fun o12 =>
            some (1, o12, v_letters + 1, 1)
          else
            Option.bind (P1_continues_110 1 0 FU v_pbits 0) fun o11 =>
            some (1, o11, v_letters + 1, 1)
        else
          some (0, v_pbits, v_letters, v_afterLetter)
      else
        if 57 < x1 then
          if (v_letters + 1) ≤ 20 then
            if x1 = 82 then
              Option.bind (P1_continues_110 1 1 FU v_pbits 0) fun o17 =>
              some (1, o17, v_letters + 1, 1)
            else
              Option.bind (P1_continues_110 1 0 FU v_pbits 0) fun o16 =>
              some (1, o16, v_letters + 1, 1)
          else
            some (0, v_pbits, v_letters, v_afterLetter)
        else
          if (v_letters + 1) ≤ 20 then
            if x1 = 82 then
              Option.bind (P1_continues_110 1 1 FU v_pbits 0) fun o21 =>
              some (1, o21, v_letters + 1, 1)
            else
              Option.bind (P1_continues_110 1 0 FU v_pbits 0) fun o20 =>
              some (1, o20, v_letters + 1, 1)
          else
            some (0, v_pbits, v_letters, v_afterLetter)
  else
    if x1 = 82 then
      if v_afterLetter = 0 then
        if (v_letters + 1) ≤ 20 then
          if x1 = 82 then
            Option.bind (P1_continues_110 1 1 FU v_pbits 0) fun o32 =>
            some (1, o32, v_letters + 1, 1)
          else
            Option.bind (P1_continues_110 1 0 FU v_pbits 0) fun o31 =>
            some (1, o31, v_letters + 1, 1)
        else
          some (0, v_pbits, v_letters, v_afterLetter)
      else
        if x1 < 50 then
          if (v_letters + 1) ≤ 20 then
            if x1 = 82 then
              Option.bind (P1_continues_110 1 1 FU v_pbits 0) fun o37 =>
              some (1, o37, v_letters + 1, 1)
            else
              Option.bind (P1_continues_110 1 0 FU v_pbits 0) fun o36 =>
              some (1, o36, v_letters + 1, 1)
          else
            some (0, v_pbits, v_letters, v_afterLetter)
        else
          if 57 < x1 then
            if (v_letters + 1) ≤ 20 then
              if x1 = 82 then
                Option.bind (P1_continues_110 1 1 FU v_pbits 0) fun o42 =>
                some (1, o42, v_letters + 1, 1)
              else
                Option.bind (P1_continues_110 1 0 FU v_pbits 0) fun o41 =>
                some (1, o41, v_letters + 1, 1)
            else
              some (0, v_pbits, v_letters, v_afterLetter)
          else
            if (v_letters + 1) ≤ 20 then
              if x1 = 82 then
                Option.bind (P1_continues_110 1 1 FU v_pbits 0) fun o46 =>
                some (1, o46, v_letters + 1, 1)
              else
                Option.bind (P1_continues_110 1 0 FU v_pbits 0) fun o45 =>
                some (1, o45, v_letters + 1, 1)
            else
              some (0, v_pbits, v_letters, v_afterLetter)
    else
      if v_afterLetter = 0 then
        some (0, v_pbits, v_letters, v_afterLetter)
      else
        if x1 < 50 then
          some (0, v_pbits, v_letters, v_afterLetter)
        else
          if 57 < x1 then
            some (0, v_pbits, v_letters, v_afterLetter)
          else
            if (v_letters + (x1 - 49)) ≤ 20 then
              Option.bind (P1_continues_110 (x1 - 49) (v_pbits &&& 1) FU v_pbits 0) fun o27 =>
              some (1, o27, v_letters + (x1 - 49), 0)
            else
              some (0, v_pbits, v_letters, v_afterLetter)
def P1_append (v_psize : Int32) (v_good : Int32) (v_pbits : Int32) (v_letters : Int32) (v_afterLetter : Int32) (v_codes : Nat → Int32) (x1 : Int32) : Option (Int32 × Int32 × Int32 × Int32 × Int32 × (Nat → Int32)) :=
  if v_psize < 0 then
    some (v_psize, v_good, v_pbits, v_letters, v_afterLetter, v_codes)
  else
    if v_psize < 20 then
      if v_good = v_psize then
        Option.bind (P1_continues v_pbits v_letters v_afterLetter x1) fun r5 =>
        if r5.1 = 0 then
          if vx v_psize 20 then
          some (v_psize + 1, v_good, r5.2.1, r5.2.2.1, r5.2.2.2, upd v_codes (Int32.toNatClampNeg v_psize) x1)
          else none
        else
          if vx v_psize 20 then
          some (v_psize + 1, v_good + 1, r5.2.1, r5.2.2.1, r5.2.2.2, upd v_codes (Int32.toNatClampNeg v_psize) x1)
          else none
      else
        if vx v_psize 20 then
        some (v_psize + 1, v_good, v_pbits, v_letters, v_afterLetter, upd v_codes (Int32.toNatClampNeg v_psize) x1)
        else none
    else
      some (v_psize, v_good, v_pbits, v_letters, v_afterLetter, v_codes)
def P1_isWord (v_psize : Int32) (v_good : Int32) : Option (Int32) :=
  if v_psize ≤ 0 then
    some 0
  else
    if v_good = v_psize then
      some 1
    else
      some 0
def P4_mix (l0 : Int64) (x2 : Int32) : Option (Int64) :=
  some ((31 * l0) + (Int32.toInt64 x2))
def P1_hashed_5 (v_psize : Int32) (v_codes : Nat → Int32) : Nat → Int64 → Int32 → Option (Int64)
  | 0, _, _ => none
  | n + 1, l3, x5 =>
    if v_psize ≤ x5 then
      some l3
    else
      if 20 ≤ x5 then
        some l3
      else
        if vx x5 20 then
        Option.bind (P4_mix l3 (v_codes (Int32.toNatClampNeg x5))) fun r4 =>
        P1_hashed_5 v_psize v_codes n r4 (x5 + 1)
        else none
def P1_hashed (v_psize : Int32) (v_codes : Nat → Int32) (l1 : Int64) : Option (Int64) :=
  Option.bind (P1_hashed_5 v_psize v_codes FU l1 0) fun o5 =>
  some o5
def P2_exists (v_rsize : Int32) : Option (Int32) :=
  if v_rsize ≤ 0 then
    some 0
  else
    some 1
def P2_hasForm (v_rsize : Int32) (x1 : Int32) : Option (Int32) :=
  if x1 < 0 then
    some 0
  else
    if v_rsize ≤ x1 then
      some 0
    else
      if 320 ≤ x1 then
        some 0
      else
        some 1
def P2_hasCycle (v_cycleCount : Int32) (x1 : Int32) : Option (Int32) :=
  if x1 < 0 then
    some 0
  else
    if v_cycleCount ≤ x1 then
      some 0
    else
      if 10 ≤ x1 then
        some 0
      else
        some 1
def P2_ofForm (v_rsize : Int32) (v_fo : Nat → Nat → Int32) (x1 : Int32) (x2 : Int32) : Option (Int32) :=
  Option.bind (P2_hasForm v_rsize x1) fun r1 =>
  if r1 = 0 then
    some (-2000000001)
  else
    if x2 < 0 then
      some (-2000000001)
    else
      if 8 ≤ x2 then
        some (-2000000001)
      else
        if vx x2 8 then
        if vx x1 320 then
        some (v_fo (Int32.toNatClampNeg x2) (Int32.toNatClampNeg x1))
        else none
        else none
def P2_ofCycle (v_cycleCount : Int32) (v_cy : Nat → Nat → Int32) (x1 : Int32) (x2 : Int32) : Option (Int32) :=
  Option.bind (P2_hasCycle v_cycleCount x1) fun r1 =>
  if r1 = 0 then
    some (-2000000001)
  else
    if x2 < 0 then
      some (-2000000001)
    else
      if 5 ≤ x2 then
        some (-2000000001)
      else
        if vx x2 5 then
        if vx x1 10 then
        some (v_cy (Int32.toNatClampNeg x2) (Int32.toNatClampNeg x1))
        else none
        else none
def P2_setForm (v_rsize : Int32) (v_fo : Nat → Nat → Int32) (x1 : Int32) (x2 : Int32) (x3 : Int32) : Option ((Nat → Nat → Int32)) :=
  Option.bind (P2_hasForm v_rsize x1) fun r1 =>
  if r1 = 0 then
    some v_fo
  else
    if x2 < 0 then
      some v_fo
    else
      if 8 ≤ x2 then
        some v_fo
      else
        if vx x2 8 then
        if vx x1 320 then
        some (upd2 v_fo (Int32.toNatClampNeg x2) (Int32.toNatClampNeg x1) x3)
        else none
        else none
def P2_setCycle (v_cycleCount : Int32) (v_cy : Nat → Nat → Int32) (x1 : Int32) (x2 : Int32) (x3 : Int32) : Option ((Nat → Nat → Int32)) :=
  Option.bind (P2_hasCycle v_cycleCount x1) fun r1 =>
  if r1 = 0 then
    some v_cy
  else
    if x2 < 0 then
      some v_cy
    else
      if 5 ≤ x2 then
        some v_cy
      else
        if vx x2 5 then
        if vx x1 10 then
        some (upd2 v_cy (Int32.toNatClampNeg x2) (Int32.toNatClampNeg x1) x3)
        else none
        else none
def P4_commonDivisor_13  : Nat → Int32 → Int32 → Int32 → Option (Int32)
  | 0, _, _, _ => none
  | n + 1, x2, x3, x4 =>
    if 100 ≤ x4 then
      some x2
    else
      if x3 ≤ 0 then
        some x2
      else
        if ¬ x3 = 0 then
        P4_commonDivisor_13 n x3 (jrem x2 x3) (x4 + 1)
        else none
def P4_commonDivisor (x0 : Int32) (x1 : Int32) : Option (Int32) :=
  Option.bind (P4_commonDivisor_13 FU (jabs x0) (jabs x1) 0) fun o4 =>
  some (jmax 1 o4)
def P2_addForm (v_rsize : Int32) (v_fo : Nat → Nat → Int32) (x1 : Int32) (x2 : Int32) (x3 : Int32) : Option (Int32 × (Nat → Nat → Int32)) :=
  if v_rsize < 320 then
    Option.bind (P2_setForm (v_rsize + 1) v_fo v_rsize 0 x1) fun r2 =>
    Option.bind (P2_setForm (v_rsize + 1) r2 v_rsize 1 x2) fun r3 =>
    Option.bind (P2_setForm (v_rsize + 1) r3 v_rsize 2 x3) fun r4 =>
    Option.bind (P2_setForm (v_rsize + 1) r4 v_rsize 3 (-2000000001)) fun r5 =>
    some (v_rsize + 1, r5)
  else
    some (v_rsize, v_fo)
def P2_addForms_2 (x1 : Int32) (x2 : Int32) : Nat → Int32 → (Nat → Nat → Int32) → Int32 → Option (Int32 × (Nat → Nat → Int32))
  | 0, _, _, _ => none
  | n + 1, v_rsize, v_fo, x3 =>
    if x2 < x3 then
      some (v_rsize, v_fo)
    else
      if ¬ x3 = 0 then
      if (jrem x2 x3) = 0 then
        Option.bind (P4_commonDivisor x3 x1) fun r4 =>
        if ¬ x3 = 0 then
        Option.bind (P4_commonDivisor r4 (x2 / x3)) fun r6 =>
        if r6 = 1 then
          if ¬ x3 = 0 then
          Option.bind (P2_addForm v_rsize v_fo x3 x1 (-(x2 / x3))) fun r9 =>
          P2_addForms_2 x1 x2 n r9.1 r9.2 (x3 + 1)
          else none
        else
          P2_addForms_2 x1 x2 n v_rsize v_fo (x3 + 1)
        else none
      else
        P2_addForms_2 x1 x2 n v_rsize v_fo (x3 + 1)
      else none
def P2_addForms (v_rsize : Int32) (v_fo : Nat → Nat → Int32) (x1 : Int32) (x2 : Int32) : Option (Int32 × (Nat → Nat → Int32)) :=
  Option.bind (P2_addForms_2 x1 x2 FU v_rsize v_fo 1) fun o10 =>
  some (o10.1, o10.2)
def P2_isAfter (v_rsize : Int32) (v_fo : Nat → Nat → Int32) (x1 : Int32) (x2 : Int32) (x3 : Int32) : Option (Int32) :=
  Option.bind (P2_ofForm v_rsize v_fo x1 1) fun r1 =>
  if x3 < r1 then
    some 1
  else
    if r1 = x3 then
      Option.bind (P2_ofForm v_rsize v_fo x1 0) fun r4 =>
      if r4 ≤ x2 then
        some 0
      else
        some 1
    else
      some 0
def P2_find_8 (v_rsize : Int32) (v_fo : Nat → Nat → Int32) (x1 : Int32) (x2 : Int32) : Nat → Int32 → Int32 → Option (Int32)
  | 0, _, _ => none
  | n + 1, x4, x5 =>
    if x5 ≤ 0 then
      some x4
    else
      if v_rsize ≤ (x4 + x5) then
        P2_find_8 v_rsize v_fo x1 x2 n x4 (x5 / 2)
      else
        Option.bind (P2_isAfter v_rsize v_fo (x4 + x5) x1 x2) fun r3 =>
        if r3 = 0 then
          P2_find_8 v_rsize v_fo x1 x2 n (x4 + x5) (x5 / 2)
        else
          P2_find_8 v_rsize v_fo x1 x2 n x4 (x5 / 2)
def P2_find (v_rsize : Int32) (v_fo : Nat → Nat → Int32) (x1 : Int32) (x2 : Int32) (x3 : Int32) : Option (Int32) :=
  Option.bind (P2_find_8 v_rsize v_fo x1 x2 FU 0 256) fun o5 =>
  Option.bind (P2_ofForm v_rsize v_fo o5 0) fun r6 =>
  if r6 = x1 then
    Option.bind (P2_ofForm v_rsize v_fo o5 1) fun r8 =>
    if r8 = x2 then
      Option.bind (P2_ofForm v_rsize v_fo o5 2) fun r10 =>
      if r10 = x3 then
        some o5
      else
        some (-2000000001)
    else
      some (-2000000001)
  else
    some (-2000000001)
def P2_linkForms_2 (v_rsize : Int32) : Nat → (Nat → Nat → Int32) → Int32 → Option ((Nat → Nat → Int32))
  | 0, _, _ => none
  | n + 1, v_fo, x1 =>
    if v_rsize ≤ x1 then
      some v_fo
    else
      Option.bind (P2_ofForm v_rsize v_fo x1 0) fun r2 =>
      Option.bind (P2_ofForm v_rsize v_fo x1 1) fun r3 =>
      Option.bind (P2_ofForm v_rsize v_fo x1 2) fun r4 =>
      if ((r2 + r3) + r4) ≤ 0 then
        Option.bind (P2_setForm v_rsize v_fo x1 5 82) fun r6 =>
        Option.bind (P2_find v_rsize r6 r2 (r3 + (2 * r2)) ((r2 + r3) + r4)) fun r7 =>
        Option.bind (P2_setForm v_rsize r6 x1 4 r7) fun r8 =>
        Option.bind (P2_find v_rsize r8 r2 (-r3) r4) fun r9 =>
        Option.bind (P2_setForm v_rsize r8 x1 6 r9) fun r10 =>
        Option.bind (P2_find v_rsize r10 (-r4) (-r3) (-r2)) fun r11 =>
        Option.bind (P2_setForm v_rsize r10 x1 7 r11) fun r12 =>
        P2_linkForms_2 v_rsize n r12 (x1 + 1)
      else
        Option.bind (P2_setForm v_rsize v_fo x1 5 76) fun r13 =>
        Option.bind (P2_find v_rsize r13 ((r2 + r3) + r4) (r3 + (2 * r4)) r4) fun r14 =>
        Option.bind (P2_setForm v_rsize r13 x1 4 r14) fun r15 =>
        Option.bind (P2_find v_rsize r15 r2 (-r3) r4) fun r16 =>
        Option.bind (P2_setForm v_rsize r15 x1 6 r16) fun r17 =>
        Option.bind (P2_find v_rsize r17 (-r4) (-r3) (-r2)) fun r18 =>
        Option.bind (P2_setForm v_rsize r17 x1 7 r18) fun r19 =>
        P2_linkForms_2 v_rsize n r19 (x1 + 1)
def P2_linkForms (v_rsize : Int32) (v_fo : Nat → Nat → Int32) : Option ((Nat → Nat → Int32)) :=
  Option.bind (P2_linkForms_2 v_rsize FU v_fo 0) fun o20 =>
  some o20
def P2_addCycle_23 (v_rsize : Int32) (x2 : Int32) : Nat → (Nat → Nat → Int32) → Int32 → Int32 → Int32 → Option ((Nat → Nat → Int32) × Int32 × Int32)
  | 0, _, _, _, _ => none
  | n + 1, v_fo, x3, x4, x5 =>
    if v_rsize ≤ x4 then
      some (v_fo, x4, x5)
    else
      Option.bind (P2_ofForm v_rsize v_fo x3 3) fun r2 =>
      if r2 = (-2000000001) then
        Option.bind (P2_setForm v_rsize v_fo x3 3 x2) fun r4 =>
        Option.bind (P2_ofForm v_rsize r4 x3 5) fun r5 =>
        if r5 = 76 then
          Option.bind (P2_ofForm v_rsize r4 x3 4) fun r8 =>
          P2_addCycle_23 v_rsize x2 n r4 r8 (x4 + 1) (x5 + 1)
        else
          Option.bind (P2_ofForm v_rsize r4 x3 4) fun r7 =>
          P2_addCycle_23 v_rsize x2 n r4 r7 (x4 + 1) x5
      else
        some (v_fo, x4, x5)
def P2_addCycle (v_rsize : Int32) (v_cycleCount : Int32) (v_fo : Nat → Nat → Int32) (v_cy : Nat → Nat → Int32) (x1 : Int32) : Option (Int32 × (Nat → Nat → Int32) × (Nat → Nat → Int32)) :=
  Option.bind (P2_addCycle_23 v_rsize v_cycleCount FU v_fo x1 0 0) fun o9 =>
  Option.bind (P2_setCycle (v_cycleCount + 1) v_cy v_cycleCount 0 x1) fun r10 =>
  Option.bind (P2_setCycle (v_cycleCount + 1) r10 v_cycleCount 1 o9.2.1) fun r11 =>
  Option.bind (P2_setCycle (v_cycleCount + 1) r11 v_cycleCount 2 o9.2.2) fun r12 =>
  some (v_cycleCount + 1, o9.1, r12)
def P2_addCycles_2 (v_rsize : Int32) : Nat → Int32 → (Nat → Nat → Int32) → (Nat → Nat → Int32) → Int32 → Option (Int32 × (Nat → Nat → Int32) × (Nat → Nat → Int32))
  | 0, _, _, _, _ => none
  | n + 1, v_cycleCount, v_fo, v_cy, x1 =>
    if v_rsize ≤ x1 then
      some (v_cycleCount, v_fo, v_cy)
    else
      Option.bind (P2_ofForm v_rsize v_fo x1 3) fun r2 =>
      if r2 = (-2000000001) then
        if 10 ≤ v_cycleCount then
          P2_addCycles_2 v_rsize n v_cycleCount v_fo v_cy (x1 + 1)
        else
          Option.bind (P2_addCycle v_rsize v_cycleCount v_fo v_cy x1) fun r5 =>
          P2_addCycles_2 v_rsize n r5.1 r5.2.1 r5.2.2 (x1 + 1)
      else
        P2_addCycles_2 v_rsize n v_cycleCount v_fo v_cy (x1 + 1)
def P2_addCycles (v_rsize : Int32) (v_cycleCount : Int32) (v_fo : Nat → Nat → Int32) (v_cy : Nat → Nat → Int32) : Option (Int32 × (Nat → Nat → Int32) × (Nat → Nat → Int32)) :=
  Option.bind (P2_addCycles_2 v_rsize FU v_cycleCount v_fo v_cy 0) fun o6 =>
  some (o6.1, o6.2.1, o6.2.2)
def P2_linkCycles_2 (v_rsize : Int32) (v_cycleCount : Int32) (v_fo : Nat → Nat → Int32) : Nat → (Nat → Nat → Int32) → Int32 → Option ((Nat → Nat → Int32))
  | 0, _, _ => none
  | n + 1, v_cy, x1 =>
    if v_cycleCount ≤ x1 then
      some v_cy
    else
      Option.bind (P2_ofCycle v_cycleCount v_cy x1 0) fun r2 =>
      Option.bind (P2_ofForm v_rsize v_fo r2 6) fun r3 =>
      Option.bind (P2_ofForm v_rsize v_fo r3 3) fun r4 =>
      Option.bind (P2_setCycle v_cycleCount v_cy x1 3 r4) fun r5 =>
      Option.bind (P2_ofForm v_rsize v_fo r2 7) fun r6 =>
      Option.bind (P2_ofForm v_rsize v_fo r6 3) fun r7 =>
      Option.bind (P2_setCycle v_cycleCount r5 x1 4 r7) fun r8 =>
      P2_linkCycles_2 v_rsize v_cycleCount v_fo n r8 (x1 + 1)
def P2_linkCycles (v_rsize : Int32) (v_cycleCount : Int32) (v_fo : Nat → Nat → Int32) (v_cy : Nat → Nat → Int32) : Option ((Nat → Nat → Int32)) :=
  Option.bind (P2_linkCycles_2 v_rsize v_cycleCount v_fo FU v_cy 0) fun o9 =>
  some o9
def P2_become_18 (v_disc : Int32) : Nat → Int32 → (Nat → Nat → Int32) → Int32 → Option (Int32 × (Nat → Nat → Int32))
  | 0, _, _, _ => none
  | n + 1, v_rsize, v_fo, x2 =>
    if 30 < x2 then
      some (v_rsize, v_fo)
    else
      if (v_disc - (x2 * x2)) ≤ 0 then
        P2_become_18 v_disc n v_rsize v_fo (x2 + 1)
      else
        if (jrem (v_disc - (x2 * x2)) 4) = 0 then
          Option.bind (P2_addForms v_rsize v_fo x2 ((v_disc - (x2 * x2)) / 4)) fun r4 =>
          P2_become_18 v_disc n r4.1 r4.2 (x2 + 1)
        else
          P2_become_18 v_disc n v_rsize v_fo (x2 + 1)
def P2_become (v_fo : Nat → Nat → Int32) (v_cy : Nat → Nat → Int32) (x1 : Int32) : Option (Int32 × Int32 × Int32 × (Nat → Nat → Int32) × (Nat → Nat → Int32)) :=
  Option.bind (P2_become_18 x1 FU 0 v_fo (-30)) fun o5 =>
  Option.bind (P2_linkForms o5.1 o5.2) fun r6 =>
  Option.bind (P2_addCycles o5.1 0 r6 v_cy) fun r7 =>
  Option.bind (P2_linkCycles o5.1 r7.1 r7.2.1 r7.2.2) fun r8 =>
  some (x1, o5.1, r7.1, r7.2.1, r8)
def P2_letterAt_10 (v_rsize : Int32) (v_fo : Nat → Nat → Int32) (x2 : Int32) : Nat → Int32 → Int32 → Option (Int32)
  | 0, _, _ => none
  | n + 1, x3, x4 =>
    if x2 ≤ x4 then
      some x3
    else
      Option.bind (P2_ofForm v_rsize v_fo x3 4) fun r3 =>
      P2_letterAt_10 v_rsize v_fo x2 n r3 (x4 + 1)
def P2_letterAt (v_rsize : Int32) (v_cycleCount : Int32) (v_fo : Nat → Nat → Int32) (v_cy : Nat → Nat → Int32) (x1 : Int32) (x2 : Int32) : Option (Int32) :=
  Option.bind (P2_ofCycle v_cycleCount v_cy x1 0) fun r1 =>
  Option.bind (P2_letterAt_10 v_rsize v_fo x2 FU r1 0) fun o4 =>
  Option.bind (P2_ofForm v_rsize v_fo o4 5) fun r5 =>
  some r5
def P2_wordBits_20 (v_rsize : Int32) (v_fo : Nat → Nat → Int32) (x2 : Int32) : Nat → Int32 → Int32 → Int32 → Option (Int32)
  | 0, _, _, _ => none
  | n + 1, x3, x4, x5 =>
    if x2 ≤ x5 then
      some x4
    else
      Option.bind (P2_ofForm v_rsize v_fo x3 5) fun r4 =>
      if r4 = 82 then
        Option.bind (P2_ofForm v_rsize v_fo x3 4) fun r7 =>
        P2_wordBits_20 v_rsize v_fo x2 n r7 ((jshl x4 1) ||| 1) (x5 + 1)
      else
        Option.bind (P2_ofForm v_rsize v_fo x3 4) fun r6 =>
        P2_wordBits_20 v_rsize v_fo x2 n r6 ((jshl x4 1) ||| 0) (x5 + 1)
def P2_wordBits (v_rsize : Int32) (v_cycleCount : Int32) (v_fo : Nat → Nat → Int32) (v_cy : Nat → Nat → Int32) (x1 : Int32) : Option (Int32) :=
  Option.bind (P2_ofCycle v_cycleCount v_cy x1 1) fun r1 =>
  Option.bind (P2_ofCycle v_cycleCount v_cy x1 0) fun r2 =>
  Option.bind (P2_wordBits_20 v_rsize v_fo r1 FU r2 0 0) fun o8 =>
  some o8
def P2_traceRemainder_37 (v_rsize : Int32) (v_fo : Nat → Nat → Int32) (x3 : Int32) (x4 : Int32) : Nat → Int32 → Int32 → Int32 → Int32 → Int32 → Int32 → Option (Int32 × Int32)
  | 0, _, _, _, _, _, _ => none
  | n + 1, x5, x6, x7, x8, x9, x10 =>
    if x4 ≤ x10 then
      some (x6, x9)
    else
      Option.bind (P2_ofForm v_rsize v_fo x5 5) fun r4 =>
      if r4 = 82 then
        if ¬ x3 = 0 then
        if ¬ x3 = 0 then
        Option.bind (P2_ofForm v_rsize v_fo x5 4) fun r11 =>
        P2_traceRemainder_37 v_rsize v_fo x3 x4 n r11 x6 (jrem (x6 + x7) x3) x8 (jrem (x8 + x9) x3) (x10 + 1)
        else none
        else none
      else
        if ¬ x3 = 0 then
        if ¬ x3 = 0 then
        Option.bind (P2_ofForm v_rsize v_fo x5 4) fun r8 =>
        P2_traceRemainder_37 v_rsize v_fo x3 x4 n r8 (jrem (x6 + x7) x3) x7 (jrem (x8 + x9) x3) x9 (x10 + 1)
        else none
        else none
def P2_traceRemainder (v_rsize : Int32) (v_cycleCount : Int32) (v_fo : Nat → Nat → Int32) (v_cy : Nat → Nat → Int32) (x1 : Int32) (x2 : Int32) : Option (Int32) :=
  Option.bind (P2_ofCycle v_cycleCount v_cy x1 1) fun r1 =>
  Option.bind (P2_ofCycle v_cycleCount v_cy x1 0) fun r2 =>
  Option.bind (P2_traceRemainder_37 v_rsize v_fo (jmax 1 x2) r1 FU r2 1 0 0 1 0) fun o12 =>
  if ¬ (jmax 1 x2) = 0 then
  some (jrem (o12.1 + o12.2) (jmax 1 x2))
  else none
def P2_follow_12  : Nat → Int32 → Int32 → Int32 → Int32 → Option (Int32 × Int32 × Int32 × Int32)
  | 0, _, _, _, _ => none
  | n + 1, x5, x6, x7, x8 =>
    if 2000 ≤ x8 then
      some (x5, x6, x7, x8)
    else
      if x5 ≤ 0 then
        if x7 ≤ 0 then
          if x5 ≤ 0 then
            if x6 ≤ 0 then
              if (jabs x5) < (jabs x7) then
                P2_follow_12 n x5 (x6 + ((2 * (-1)) * x5)) ((x5 + x7) + ((-1) * x6)) (x8 + 1)
              else
                P2_follow_12 n ((x5 + x7) + ((-1) * x6)) (x6 + ((2 * (-1)) * x7)) x7 (x8 + 1)
            else
              if (jabs x5) < (jabs x7) then
                P2_follow_12 n x5 (x6 + ((2 * 1) * x5)) ((x5 + x7) + (1 * x6)) (x8 + 1)
              else
                P2_follow_12 n ((x5 + x7) + (1 * x6)) (x6 + ((2 * 1) * x7)) x7 (x8 + 1)
          else
            if x6 ≤ 0 then
              if (jabs x5) < (jabs x7) then
                P2_follow_12 n x5 (x6 + ((2 * 1) * x5)) ((x5 + x7) + (1 * x6)) (x8 + 1)
              else
                P2_follow_12 n ((x5 + x7) + (1 * x6)) (x6 + ((2 * 1) * x7)) x7 (x8 + 1)
            else
              if (jabs x5) < (jabs x7) then
                P2_follow_12 n x5 (x6 + ((2 * (-1)) * x5)) ((x5 + x7) + ((-1) * x6)) (x8 + 1)
              else
                P2_follow_12 n ((x5 + x7) + ((-1) * x6)) (x6 + ((2 * (-1)) * x7)) x7 (x8 + 1)
        else
          some (x5, x6, x7, x8)
      else
        if x7 ≤ 0 then
          some (x5, x6, x7, x8)
        else
          if x5 ≤ 0 then
            if x6 ≤ 0 then
              if (jabs x5) < (jabs x7) then
                P2_follow_12 n x5 (x6 + ((2 * (-1)) * x5)) ((x5 + x7) + ((-1) * x6)) (x8 + 1)
              else
                P2_follow_12 n ((x5 + x7) + ((-1) * x6)) (x6 + ((2 * (-1)) * x7)) x7 (x8 + 1)
            else
              if (jabs x5) < (jabs x7) then
                P2_follow_12 n x5 (x6 + ((2 * 1) * x5)) ((x5 + x7) + (1 * x6)) (x8 + 1)
              else
                P2_follow_12 n ((x5 + x7) + (1 * x6)) (x6 + ((2 * 1) * x7)) x7 (x8 + 1)
          else
            if x6 ≤ 0 then
              if (jabs x5) < (jabs x7) then
                P2_follow_12 n x5 (x6 + ((2 * 1) * x5)) ((x5 + x7) + (1 * x6)) (x8 + 1)
              else
                P2_follow_12 n ((x5 + x7) + (1 * x6)) (x6 + ((2 * 1) * x7)) x7 (x8 + 1)
            else
              if (jabs x5) < (jabs x7) then
                P2_follow_12 n x5 (x6 + ((2 * (-1)) * x5)) ((x5 + x7) + ((-1) * x6)) (x8 + 1)
              else
                P2_follow_12 n ((x5 + x7) + ((-1) * x6)) (x6 + ((2 * (-1)) * x7)) x7 (x8 + 1)
def P2_follow (v_rsize : Int32) (v_fo : Nat → Nat → Int32) (x1 : Int32) (x2 : Int32) (x3 : Int32) (x4 : Int32) : Option (Int32) :=
  Option.bind (P2_follow_12 FU x1 x2 x3 0) fun o19 =>
  if x4 = 0 then
    if 0 ≤ o19.1 then
      Option.bind (P2_find v_rsize v_fo o19.1 o19.2.1 o19.2.2.1) fun r22 =>
      some r22
    else
      Option.bind (P2_find v_rsize v_fo o19.2.2.1 (-o19.2.1) o19.1) fun r23 =>
      some r23
  else
    some o19.2.2.2
def P3_rotation (v_bits : Int32) (v_size : Int32) (v_allBits : Int32) (x1 : Int32) : Option (Int32) :=
  some (((jshl v_bits x1) ||| (jshr v_bits (v_size - x1))) &&& v_allBits)
def P3_reversal_9 (v_bits : Int32) (v_size : Int32) : Nat → Int32 → Int32 → Option (Int32)
  | 0, _, _ => none
  | n + 1, x1, x2 =>
    if x2 < 0 then
      some x1
    else
      Option.bind (P3_bitAt v_bits v_size x2) fun r2 =>
      P3_reversal_9 v_bits v_size n ((jshl x1 1) ||| r2) (x2 + (-1))
def P3_reversal (v_bits : Int32) (v_size : Int32) : Option (Int32) :=
  Option.bind (P3_reversal_9 v_bits v_size FU 0 (v_size - 1)) fun o3 =>
  some o3
def P3_complement (v_allBits : Int32) (x1 : Int32) : Option (Int32) :=
  some (x1 ^^^ v_allBits)
def P3_leastTurn_4 (v_bits : Int32) (v_size : Int32) (v_allBits : Int32) : Nat → Int32 → Int32 → Option (Int32)
  | 0, _, _ => none
  | n + 1, x1, x2 =>
    if v_size ≤ x2 then
      some x1
    else
      Option.bind (P3_rotation v_bits v_size v_allBits x2) fun r2 =>
      Option.bind (P3_rotation v_bits v_size v_allBits x1) fun r3 =>
      if r3 ≤ r2 then
        P3_leastTurn_4 v_bits v_size v_allBits n x1 (x2 + 1)
      else
        P3_leastTurn_4 v_bits v_size v_allBits n x2 (x2 + 1)
def P3_leastTurn (v_bits : Int32) (v_size : Int32) (v_allBits : Int32) : Option (Int32) :=
  Option.bind (P3_leastTurn_4 v_bits v_size v_allBits FU 0 1) fun o5 =>
  some o5
def P3_changed (v_bits : Int32) (v_size : Int32) (v_allBits : Int32) (x1 : Int32) : Option (Int32) :=
  if x1 = 0 then
    Option.bind (P3_reversal v_bits v_size) fun r2 =>
    some r2
  else
    if x1 = 1 then
      Option.bind (P3_complement v_allBits v_bits) fun r4 =>
      some r4
    else
      Option.bind (P3_leastTurn v_bits v_size v_allBits) fun r5 =>
      Option.bind (P3_rotation v_bits v_size v_allBits r5) fun r6 =>
      some r6
def P3_turnTo_2 (v_bits : Int32) (v_size : Int32) (v_allBits : Int32) (x1 : Int32) : Nat → Int32 → Option (Int32)
  | 0, _ => none
  | n + 1, x3 =>
    if v_size ≤ x3 then
      some (-2000000001)
    else
      Option.bind (P3_rotation v_bits v_size v_allBits x3) fun r2 =>
      if r2 = x1 then
        some x3
      else
        P3_turnTo_2 v_bits v_size v_allBits x1 n (x3 + 1)
def P3_turnTo (v_bits : Int32) (v_size : Int32) (v_allBits : Int32) (x1 : Int32) (x2 : Int32) : Option (Int32) :=
  P3_turnTo_2 v_bits v_size v_allBits x1 FU x2
def P3_isConjugate (v_bits : Int32) (v_size : Int32) (v_allBits : Int32) (x1 : Int32) : Option (Int32) :=
  Option.bind (P3_turnTo v_bits v_size v_allBits x1 0) fun r1 =>
  if r1 = (-2000000001) then
    some 0
  else
    some 1
def P3_period (v_bits : Int32) (v_size : Int32) (v_allBits : Int32) : Option (Int32) :=
  Option.bind (P3_turnTo v_bits v_size v_allBits v_bits 1) fun r1 =>
  if r1 = (-2000000001) then
    some v_size
  else
    some r1
def P4_discriminantOf (x0 : Int32) (x1 : Int32) (x2 : Int32) : Option (Int32) :=
  some ((x1 * x1) - ((4 * x0) * x2))
def P3_formNumber (v_a : Int32) (v_b : Int32) (v_c : Int32) (v_d : Int32) (x1 : Int32) : Option (Int32) :=
  Option.bind (P4_commonDivisor v_c (v_d - v_a)) fun r1 =>
  Option.bind (P4_commonDivisor r1 v_b) fun r2 =>
  if ¬ r2 = 0 then
  if ¬ r2 = 0 then
  if ¬ r2 = 0 then
  if x1 = 0 then
    some (v_c / r2)
  else
    if x1 = 1 then
      some ((v_d - v_a) / r2)
    else
      if x1 = 2 then
        some ((-v_b) / r2)
      else
        if x1 = 3 then
          some r2
        else
          Option.bind (P4_discriminantOf (v_c / r2) ((v_d - v_a) / r2) ((-v_b) / r2)) fun r10 =>
          some r10
  else none
  else none
  else none
def P4_letter (v_psize : Int32) (v_good : Int32) (v_pbits : Int32) (v_letters : Int32) (v_afterLetter : Int32) (v_codes : Nat → Int32) (x1 : Int32) : Option (Int32 × Int32 × Int32 × Int32 × Int32 × Int32 × (Nat → Int32)) :=
  if x1 < 32 then
    some ((-2000000102), v_psize, v_good, v_pbits, v_letters, v_afterLetter, v_codes)
  else
    if x1 ≤ 126 then
      if v_psize < 20 then
        Option.bind (P1_append v_psize v_good v_pbits v_letters v_afterLetter v_codes x1) fun r4 =>
        some (r4.1, r4.1, r4.2.1, r4.2.2.1, r4.2.2.2.1, r4.2.2.2.2.1, r4.2.2.2.2.2)
      else
        some ((-2000000104), v_psize, v_good, v_pbits, v_letters, v_afterLetter, v_codes)
    else
      some ((-2000000102), v_psize, v_good, v_pbits, v_letters, v_afterLetter, v_codes)
def P4_blank (v_psize : Int32) : Option (Int32 × Int32 × Int32 × Int32 × Int32 × Int32) :=
  Option.bind (P1_clear) fun r1 =>
  some (v_psize, r1.1, r1.2.1, r1.2.2.1, r1.2.2.2.1, r1.2.2.2.2)
def P4_fault (v_good : Int32) : Option (Int32) :=
  some v_good
/-- what addRoad answers, and the roads then (by hand: the new word's cell is the machine's affair) -/
def P4_addRoad (v_roadCount : Int32) (v_wn : Nat) (v_wv : Nat → Nat → Int32) (x1 : Int32) (x2 : Int32) : Option (Int32 × Int32 × Nat × (Nat → Nat → Int32)) :=
  if x2 ≤ 20 then
    if v_roadCount < 0 then some (-2000000104, v_roadCount, v_wn, v_wv)
    else if v_roadCount < 6 then
      Option.bind (P3_become x1 x2) fun r =>
      if Int32.toNatClampNeg v_roadCount ≤ v_wn then
        some (v_roadCount, v_roadCount + 1, (if Int32.toNatClampNeg v_roadCount < v_wn then v_wn else v_wn + 1), wvset v_wv (Int32.toNatClampNeg v_roadCount) r.1 r.2.1 r.2.2.1 r.2.2.2.1 r.2.2.2.2.1 r.2.2.2.2.2.1 r.2.2.2.2.2.2)
      else none
    else some (-2000000104, v_roadCount, v_wn, v_wv)
  else some (-2000000103, v_roadCount, v_wn, v_wv)
def P4_word (v_roadCount : Int32) (v_readings : Int32) (v_psize : Int32) (v_good : Int32) (v_pbits : Int32) (v_letters : Int32) (v_afterLetter : Int32) (v_wn : Nat) (v_wv : Nat → Nat → Int32) : Option (Int32 × Int32 × Int32 × Int32 × Int32 × Int32 × Int32 × Int32 × Nat × (Nat → Nat → Int32)) :=
  Option.bind (P1_isWord v_psize v_good) fun r1 =>
  if r1 = 0 then
    some ((-2000000103), v_roadCount, v_readings, v_psize, v_good, v_pbits, v_letters, v_afterLetter, v_wn, v_wv)
  else
    Option.bind (P4_addRoad v_roadCount v_wn v_wv v_pbits v_letters) fun r3 =>
    if r3.1 < 0 then
      some (r3.1, r3.2.1, v_readings, v_psize, v_good, v_pbits, v_letters, v_afterLetter, r3.2.2.1, r3.2.2.2)
    else
      Option.bind (P1_clear) fun r5 =>
      some (r3.1, r3.2.1, v_readings + 1, r5.1, r5.2.1, r5.2.2.1, r5.2.2.2.1, r5.2.2.2.2, r3.2.2.1, r3.2.2.2)
def P4_roadAt (v_roadCount : Int32) (v_wn : Nat) (x1 : Int32) : Option (Option Nat) :=
  if x1 < 0 then
    some none
  else
    if v_roadCount ≤ x1 then
      some none
    else
      if 6 ≤ x1 then
        some none
      else
        if vx x1 6 then
        some (if Int32.toNatClampNeg x1 < v_wn then some (Int32.toNatClampNeg x1) else none)
        else none
theorem P4_roadAt_lt {rc x : Int32} {wn j : Nat} (h : P4_roadAt rc wn x = some (some j)) : j < wn := by
  unfold P4_roadAt at h
  by_cases h1 : x < 0
  · have h := p_pos h h1
    cases h
  · have h := p_neg h h1
    by_cases h2 : rc ≤ x
    · have h := p_pos h h2
      cases h
    · have h := p_neg h h2
      by_cases h3 : 6 ≤ x
      · have h := p_pos h h3
        cases h
      · have h := p_neg h h3
        obtain ⟨_, h⟩ := p_chk h
        have h := Option.some.inj h
        by_cases h4 : Int32.toNatClampNeg x < wn
        · rw [if_pos h4] at h
          rw [← Option.some.inj h]
          exact h4
        · rw [if_neg h4] at h
          cases h
def P4_road (v_roadCount : Int32) (v_wn : Nat) (v_wv : Nat → Nat → Int32) (x1 : Int32) (x2 : Int32) : Option (Int32) :=
  Option.bind (P4_roadAt v_roadCount v_wn x1) fun r1 =>
  match r1 with
  | none =>
    some (-2000000101)
  | some j2 =>
    if x2 = 0 then
      some (v_wv j2 1)
    else
      if x2 = 1 then
        some ((v_wv j2 1) - (jbitCount (v_wv j2 0)))
      else
        if x2 = 2 then
          some (jbitCount (v_wv j2 0))
        else
          if x2 = 3 then
            Option.bind (P3_period (v_wv j2 0) (v_wv j2 1) (v_wv j2 2)) fun r7 =>
            some r7
          else
            if x2 = 4 then
              Option.bind (P3_leastTurn (v_wv j2 0) (v_wv j2 1) (v_wv j2 2)) fun r9 =>
              some r9
            else
              if x2 = 5 then
                Option.bind (P3_traceSum (v_wv j2 3) (v_wv j2 6)) fun r11 =>
                some r11
              else
                if x2 = 6 then
                  Option.bind (P3_isClosed (v_wv j2 0) (v_wv j2 2)) fun r13 =>
                  if r13 = 0 then
                    some 0
                  else
                    some 1
                else
                  if x2 = 7 then
                    Option.bind (P3_reversal (v_wv j2 0) (v_wv j2 1)) fun r16 =>
                    Option.bind (P3_isConjugate (v_wv j2 0) (v_wv j2 1) (v_wv j2 2) r16) fun r17 =>
                    if r17 = 0 then
                      some 0
                    else
                      some 1
                  else
                    if x2 = 8 then
                      Option.bind (P3_complement (v_wv j2 2) (v_wv j2 0)) fun r20 =>
                      Option.bind (P3_isConjugate (v_wv j2 0) (v_wv j2 1) (v_wv j2 2) r20) fun r21 =>
                      if r21 = 0 then
                        some 0
                      else
                        some 1
                    else
                      if x2 = 9 then
                        Option.bind (P3_reversal (v_wv j2 0) (v_wv j2 1)) fun r24 =>
                        Option.bind (P3_complement (v_wv j2 2) r24) fun r25 =>
                        Option.bind (P3_isConjugate (v_wv j2 0) (v_wv j2 1) (v_wv j2 2) r25) fun r26 =>
                        if r26 = 0 then
                          some 0
                        else
                          some 1
                      else
                        some (-2000000102)
def P4_code (x0 : Int32) : Option (Int32) :=
  if x0 = 1 then
    some 82
  else
    some 76
def P4_sign (v_roadCount : Int32) (v_wn : Nat) (v_wv : Nat → Nat → Int32) (x1 : Int32) (x2 : Int32) : Option (Int32) :=
  Option.bind (P4_roadAt v_roadCount v_wn x1) fun r1 =>
  match r1 with
  | none =>
    some (-2000000101)
  | some j2 =>
    if x2 < 0 then
      some (-2000000101)
    else
      if x2 < (v_wv j2 1) then
        Option.bind (P3_bitAt (v_wv j2 0) (v_wv j2 1) x2) fun r5 =>
        Option.bind (P4_code r5) fun r6 =>
        some r6
      else
        some (-2000000101)
def P4_table (v_roadCount : Int32) (v_wn : Nat) (v_wv : Nat → Nat → Int32) (x1 : Int32) (x2 : Int32) : Option (Int32) :=
  Option.bind (P4_roadAt v_roadCount v_wn x1) fun r1 =>
  match r1 with
  | none =>
    some (-2000000101)
  | some j2 =>
    if x2 = 0 then
      some (v_wv j2 3)
    else
      if x2 = 1 then
        some (v_wv j2 4)
      else
        if x2 = 2 then
          some (v_wv j2 5)
        else
          if x2 = 3 then
            some (v_wv j2 6)
          else
            some (-2000000102)
def P4_form (v_roadCount : Int32) (v_wn : Nat) (v_wv : Nat → Nat → Int32) (x1 : Int32) (x2 : Int32) : Option (Int32) :=
  Option.bind (P4_roadAt v_roadCount v_wn x1) fun r1 =>
  match r1 with
  | none =>
    some (-2000000101)
  | some j2 =>
    if x2 < 0 then
      some (-2000000102)
    else
      if x2 < 5 then
        Option.bind (P3_isClosed (v_wv j2 0) (v_wv j2 2)) fun r5 =>
        if r5 = 0 then
          some (-2000000103)
        else
          Option.bind (P3_formNumber (v_wv j2 3) (v_wv j2 4) (v_wv j2 5) (v_wv j2 6) x2) fun r7 =>
          some r7
      else
        some (-2000000102)
def P4_end (v_roadCount : Int32) (v_wn : Nat) (v_wv : Nat → Nat → Int32) (x1 : Int32) (x2 : Int32) : Option (Int32) :=
  Option.bind (P4_roadAt v_roadCount v_wn x1) fun r1 =>
  match r1 with
  | none =>
    some (-2000000101)
  | some j2 =>
    if x2 = 0 then
      some ((v_wv j2 3) + (v_wv j2 4))
    else
      if x2 = 1 then
        some ((v_wv j2 5) + (v_wv j2 6))
      else
        some (-2000000102)
def P4_alike (v_roadCount : Int32) (v_wn : Nat) (v_wv : Nat → Nat → Int32) (x1 : Int32) (x2 : Int32) : Option (Int32) :=
  Option.bind (P4_roadAt v_roadCount v_wn x1) fun r1 =>
  match r1 with
  | none =>
    Option.bind (P4_roadAt v_roadCount v_wn x2) fun r3 =>
    match r3 with
    | none =>
      some (-2000000101)
    | some j4 =>
      some (-2000000101)
  | some j2 =>
    Option.bind (P4_roadAt v_roadCount v_wn x2) fun r5 =>
    match r5 with
    | none =>
      some (-2000000101)
    | some j6 =>
      if (v_wv j2 1) = (v_wv j6 1) then
        Option.bind (P3_turnTo (v_wv j2 0) (v_wv j2 1) (v_wv j2 2) (v_wv j6 0) 0) fun r8 =>
        some r8
      else
        some (-2000000001)
def P4_cross (v_roadCount : Int32) (v_wn : Nat) (v_wv : Nat → Nat → Int32) (x1 : Int32) (x2 : Int32) : Option (Int32) :=
  Option.bind (P4_roadAt v_roadCount v_wn x1) fun r1 =>
  match r1 with
  | none =>
    Option.bind (P4_roadAt v_roadCount v_wn x2) fun r3 =>
    match r3 with
    | none =>
      some (-2000000101)
    | some j4 =>
      some (-2000000101)
  | some j2 =>
    Option.bind (P4_roadAt v_roadCount v_wn x2) fun r5 =>
    match r5 with
    | none =>
      some (-2000000101)
    | some j6 =>
      Option.bind (P3_isClosed (v_wv j2 0) (v_wv j2 2)) fun r7 =>
      if r7 = 0 then
        some (-2000000103)
      else
        Option.bind (P3_isClosed (v_wv j6 0) (v_wv j6 2)) fun r9 =>
        if r9 = 0 then
          some (-2000000103)
        else
          Option.bind (P3_crossings (v_wv j2 0) (v_wv j2 1) (v_wv j6 0) (v_wv j6 1)) fun r11 =>
          some r11
def P4_turn (v_roadCount : Int32) (v_wn : Nat) (v_wv : Nat → Nat → Int32) (x1 : Int32) (x2 : Int32) : Option (Int32 × (Nat → Nat → Int32)) :=
  Option.bind (P4_roadAt v_roadCount v_wn x1) fun r1 =>
  match r1 with
  | none =>
    some ((-2000000101), v_wv)
  | some j2 =>
    if x2 < 0 then
      some ((-2000000102), v_wv)
    else
      if x2 < (v_wv j2 1) then
        Option.bind (P3_rotation (v_wv j2 0) (v_wv j2 1) (v_wv j2 2) x2) fun r5 =>
        Option.bind (P3_become r5 (v_wv j2 1)) fun r6 =>
        Option.bind (P3_period ((wvset v_wv j2 r6.1 r6.2.1 r6.2.2.1 r6.2.2.2.1 r6.2.2.2.2.1 r6.2.2.2.2.2.1 r6.2.2.2.2.2.2) j2 0) ((wvset v_wv j2 r6.1 r6.2.1 r6.2.2.1 r6.2.2.2.1 r6.2.2.2.2.1 r6.2.2.2.2.2.1 r6.2.2.2.2.2.2) j2 1) ((wvset v_wv j2 r6.1 r6.2.1 r6.2.2.1 r6.2.2.2.1 r6.2.2.2.2.1 r6.2.2.2.2.2.1 r6.2.2.2.2.2.2) j2 2)) fun r7 =>
        some (r7, wvset v_wv j2 r6.1 r6.2.1 r6.2.2.1 r6.2.2.2.1 r6.2.2.2.2.1 r6.2.2.2.2.2.1 r6.2.2.2.2.2.2)
      else
        some ((-2000000102), v_wv)
def P4_change (v_roadCount : Int32) (v_wn : Nat) (v_wv : Nat → Nat → Int32) (x1 : Int32) (x2 : Int32) : Option (Int32 × (Nat → Nat → Int32)) :=
  Option.bind (P4_roadAt v_roadCount v_wn x1) fun r1 =>
  match r1 with
  | none =>
    some ((-2000000101), v_wv)
  | some j2 =>
    if x2 < 0 then
      some ((-2000000102), v_wv)
    else
      if x2 < 3 then
        Option.bind (P3_changed (v_wv j2 0) (v_wv j2 1) (v_wv j2 2) x2) fun r5 =>
        Option.bind (P3_become r5 (v_wv j2 1)) fun r6 =>
        Option.bind (P3_traceSum ((wvset v_wv j2 r6.1 r6.2.1 r6.2.2.1 r6.2.2.2.1 r6.2.2.2.2.1 r6.2.2.2.2.2.1 r6.2.2.2.2.2.2) j2 3) ((wvset v_wv j2 r6.1 r6.2.1 r6.2.2.1 r6.2.2.2.1 r6.2.2.2.2.1 r6.2.2.2.2.2.1 r6.2.2.2.2.2.2) j2 6)) fun r7 =>
        some (r7, wvset v_wv j2 r6.1 r6.2.1 r6.2.2.1 r6.2.2.2.1 r6.2.2.2.2.1 r6.2.2.2.2.2.1 r6.2.2.2.2.2.2)
      else
        some ((-2000000102), v_wv)
def P4_join (v_roadCount : Int32) (v_wn : Nat) (v_wv : Nat → Nat → Int32) (x1 : Int32) (x2 : Int32) : Option (Int32 × Int32 × Nat × (Nat → Nat → Int32)) :=
  Option.bind (P4_roadAt v_roadCount v_wn x1) fun r1 =>
  match r1 with
  | none =>
    Option.bind (P4_roadAt v_roadCount v_wn x2) fun r3 =>
    match r3 with
    | none =>
      some ((-2000000101), v_roadCount, v_wn, v_wv)
    | some j4 =>
      some ((-2000000101), v_roadCount, v_wn, v_wv)
  | some j2 =>
    Option.bind (P4_roadAt v_roadCount v_wn x2) fun r5 =>
    match r5 with
    | none =>
      some ((-2000000101), v_roadCount, v_wn, v_wv)
    | some j6 =>
      Option.bind (P4_addRoad v_roadCount v_wn v_wv ((jshl (v_wv j2 0) (v_wv j6 1)) ||| (v_wv j6 0)) ((v_wv j2 1) + (v_wv j6 1))) fun r7 =>
      some (r7.1, r7.2.1, r7.2.2.1, r7.2.2.2)
def P4_times_32 (j3 : Nat) (v_wv : Nat → Nat → Int32) (x2 : Int32) : Nat → Int32 → Int32 → Option (Int32)
  | 0, _, _ => none
  | n + 1, x4, x5 =>
    if x2 ≤ x5 then
      some x4
    else
      P4_times_32 j3 v_wv x2 n ((jshl x4 (v_wv j3 1)) ||| (v_wv j3 0)) (x5 + 1)
def P4_times (v_roadCount : Int32) (v_wn : Nat) (v_wv : Nat → Nat → Int32) (x1 : Int32) (x2 : Int32) : Option (Int32 × Int32 × Nat × (Nat → Nat → Int32)) :=
  Option.bind (P4_roadAt v_roadCount v_wn x1) fun r1 =>
  match r1 with
  | none =>
    some ((-2000000101), v_roadCount, v_wn, v_wv)
  | some j2 =>
    if x2 < 2 then
      some ((-2000000102), v_roadCount, v_wn, v_wv)
    else
      if x2 ≤ 5 then
        Option.bind (P4_times_32 j2 v_wv x2 FU 0 0) fun o6 =>
        Option.bind (P4_addRoad v_roadCount v_wn v_wv o6 (x2 * (v_wv j2 1))) fun r7 =>
        some (r7.1, r7.2.1, r7.2.2.1, r7.2.2.2)
      else
        some ((-2000000102), v_roadCount, v_wn, v_wv)
def P4_cut_50  : Nat → Int32 → Int32 → Int32 → Int32 → Option (Int32 × Int32)
  | 0, _, _, _, _ => none
  | n + 1, x3, x4, x5, x6 =>
    if x5 = x6 then
      some (x3, x4)
    else
      if 99 ≤ x4 then
        some (x3, x4)
      else
        if x5 ≤ x6 then
          P4_cut_50 n (jshl x3 1) (x4 + 1) x5 (x6 - x5)
        else
          P4_cut_50 n ((jshl x3 1) ||| 1) (x4 + 1) (x5 - x6) x6
def P4_cut (v_roadCount : Int32) (v_wn : Nat) (v_wv : Nat → Nat → Int32) (x1 : Int32) (x2 : Int32) : Option (Int32 × Int32 × Nat × (Nat → Nat → Int32)) :=
  if x1 < 1 then
    some ((-2000000102), v_roadCount, v_wn, v_wv)
  else
    if 99 < x1 then
      some ((-2000000102), v_roadCount, v_wn, v_wv)
    else
      if x2 < 1 then
        some ((-2000000102), v_roadCount, v_wn, v_wv)
      else
        if 99 < x2 then
          some ((-2000000102), v_roadCount, v_wn, v_wv)
        else
          if x1 = x2 then
            some ((-2000000102), v_roadCount, v_wn, v_wv)
          else
            Option.bind (P4_commonDivisor x1 x2) fun r6 =>
            if r6 ≤ 1 then
              Option.bind (P4_cut_50 FU 0 0 x1 x2) fun o11 =>
              Option.bind (P4_addRoad v_roadCount v_wn v_wv o11.1 o11.2) fun r12 =>
              some (r12.1, r12.2.1, r12.2.2.1, r12.2.2.2)
            else
              some ((-2000000102), v_roadCount, v_wn, v_wv)
def P4_drop (v_roadCount : Int32) : Option (Int32 × Int32) :=
  if 0 < v_roadCount then
    some (v_roadCount - 1, v_roadCount - 1)
  else
    some ((-2000000103), v_roadCount)
def P4_isSquare_2 (x0 : Int32) : Nat → Int32 → Option (Int32)
  | 0, _ => none
  | n + 1, x1 =>
    if 30 < x1 then
      some 0
    else
      if (x1 * x1) = x0 then
        some 1
      else
        P4_isSquare_2 x0 n (x1 + 1)
def P4_isSquare (x0 : Int32) : Option (Int32) :=
  P4_isSquare_2 x0 FU 0
def P4_river (v_disc : Int32) (v_rsize : Int32) (v_cycleCount : Int32) (v_fo : Nat → Nat → Int32) (v_cy : Nat → Nat → Int32) (x1 : Int32) : Option (Int32 × Int32 × Int32 × Int32 × (Nat → Nat → Int32) × (Nat → Nat → Int32)) :=
  if x1 < 5 then
    some ((-2000000102), v_disc, v_rsize, v_cycleCount, v_fo, v_cy)
  else
    if 900 < x1 then
      some ((-2000000102), v_disc, v_rsize, v_cycleCount, v_fo, v_cy)
    else
      if 1 < (jrem x1 4) then
        some ((-2000000102), v_disc, v_rsize, v_cycleCount, v_fo, v_cy)
      else
        Option.bind (P4_isSquare x1) fun r4 =>
        if r4 = 0 then
          Option.bind (P2_become v_fo v_cy x1) fun r6 =>
          some (r6.2.1, r6.1, r6.2.1, r6.2.2.1, r6.2.2.2.1, r6.2.2.2.2)
        else
          some ((-2000000102), v_disc, v_rsize, v_cycleCount, v_fo, v_cy)
def P4_simple (v_rsize : Int32) (v_fo : Nat → Nat → Int32) (x1 : Int32) (x2 : Int32) : Option (Int32) :=
  Option.bind (P2_hasForm v_rsize x1) fun r1 =>
  if r1 = 0 then
    some (-2000000101)
  else
    if x2 < 0 then
      some (-2000000102)
    else
      if 8 ≤ x2 then
        some (-2000000102)
      else
        Option.bind (P2_ofForm v_rsize v_fo x1 x2) fun r5 =>
        some r5
def P4_cycle (v_cycleCount : Int32) (v_cy : Nat → Nat → Int32) (x1 : Int32) (x2 : Int32) : Option (Int32) :=
  Option.bind (P2_hasCycle v_cycleCount x1) fun r1 =>
  if r1 = 0 then
    some (-2000000101)
  else
    if x2 < 0 then
      some (-2000000102)
    else
      if 5 ≤ x2 then
        some (-2000000102)
      else
        Option.bind (P2_ofCycle v_cycleCount v_cy x1 x2) fun r5 =>
        some r5
def P4_step (v_rsize : Int32) (v_cycleCount : Int32) (v_fo : Nat → Nat → Int32) (v_cy : Nat → Nat → Int32) (x1 : Int32) (x2 : Int32) : Option (Int32) :=
  Option.bind (P2_hasCycle v_cycleCount x1) fun r1 =>
  if r1 = 0 then
    some (-2000000101)
  else
    if x2 < 0 then
      some (-2000000101)
    else
      Option.bind (P2_ofCycle v_cycleCount v_cy x1 1) fun r4 =>
      if x2 < r4 then
        Option.bind (P2_letterAt v_rsize v_cycleCount v_fo v_cy x1 x2) fun r6 =>
        some r6
      else
        some (-2000000101)
def P4_trace (v_rsize : Int32) (v_cycleCount : Int32) (v_fo : Nat → Nat → Int32) (v_cy : Nat → Nat → Int32) (x1 : Int32) (x2 : Int32) : Option (Int32) :=
  Option.bind (P2_hasCycle v_cycleCount x1) fun r1 =>
  if r1 = 0 then
    some (-2000000101)
  else
    if x2 < 2 then
      some (-2000000102)
    else
      if 1000 < x2 then
        some (-2000000102)
      else
        Option.bind (P2_traceRemainder v_rsize v_cycleCount v_fo v_cy x1 x2) fun r5 =>
        some r5
def P4_isFlowNumber (x0 : Int32) : Option (Int32) :=
  if x0 < (-999) then
    some 0
  else
    if 999 < x0 then
      some 0
    else
      some 1
def P4_flow (v_disc : Int32) (v_rsize : Int32) (v_fo : Nat → Nat → Int32) (x1 : Int32) (x2 : Int32) (x3 : Int32) (x4 : Int32) : Option (Int32) :=
  Option.bind (P2_exists v_rsize) fun r1 =>
  if r1 = 0 then
    some (-2000000103)
  else
    Option.bind (P4_isFlowNumber x1) fun r3 =>
    if r3 = 0 then
      some (-2000000102)
    else
      Option.bind (P4_isFlowNumber x2) fun r5 =>
      if r5 = 0 then
        some (-2000000102)
      else
        Option.bind (P4_isFlowNumber x3) fun r7 =>
        if r7 = 0 then
          some (-2000000102)
        else
          Option.bind (P4_discriminantOf x1 x2 x3) fun r9 =>
          if r9 = v_disc then
            Option.bind (P4_commonDivisor x1 x2) fun r11 =>
            Option.bind (P4_commonDivisor r11 x3) fun r12 =>
            if r12 ≤ 1 then
              Option.bind (P2_follow v_rsize v_fo x1 x2 x3 x4) fun r14 =>
              some r14
            else
              some (-2000000102)
          else
            some (-2000000102)
def P4_lay (v_roadCount : Int32) (v_rsize : Int32) (v_cycleCount : Int32) (v_fo : Nat → Nat → Int32) (v_cy : Nat → Nat → Int32) (v_wn : Nat) (v_wv : Nat → Nat → Int32) (x1 : Int32) : Option (Int32 × Int32 × Nat × (Nat → Nat → Int32)) :=
  Option.bind (P2_hasCycle v_cycleCount x1) fun r1 =>
  if r1 = 0 then
    some ((-2000000101), v_roadCount, v_wn, v_wv)
  else
    Option.bind (P2_wordBits v_rsize v_cycleCount v_fo v_cy x1) fun r3 =>
    Option.bind (P2_ofCycle v_cycleCount v_cy x1 1) fun r4 =>
    Option.bind (P4_addRoad v_roadCount v_wn v_wv r3 r4) fun r5 =>
    some (r5.1, r5.2.1, r5.2.2.1, r5.2.2.2)
def P4_where (v_roadCount : Int32) (v_rsize : Int32) (v_fo : Nat → Nat → Int32) (v_wn : Nat) (v_wv : Nat → Nat → Int32) (x1 : Int32) : Option (Int32) :=
  Option.bind (P4_roadAt v_roadCount v_wn x1) fun r1 =>
  match r1 with
  | none =>
    some (-2000000101)
  | some j2 =>
    Option.bind (P3_isClosed (v_wv j2 0) (v_wv j2 2)) fun r3 =>
    if r3 = 0 then
      some (-2000000103)
    else
      Option.bind (P2_exists v_rsize) fun r5 =>
      if r5 = 0 then
        some (-2000000103)
      else
        Option.bind (P3_formNumber (v_wv j2 3) (v_wv j2 4) (v_wv j2 5) (v_wv j2 6) 0) fun r7 =>
        Option.bind (P3_formNumber (v_wv j2 3) (v_wv j2 4) (v_wv j2 5) (v_wv j2 6) 1) fun r8 =>
        Option.bind (P3_formNumber (v_wv j2 3) (v_wv j2 4) (v_wv j2 5) (v_wv j2 6) 2) fun r9 =>
        Option.bind (P2_find v_rsize v_fo r7 r8 r9) fun r10 =>
        some r10
def P4_drawn (v_s : Int64) (v_closed : Int32) (v_traces : Int32) (v_crossings : Int32) (v_db_bits : Int32) (v_db_size : Int32) (v_db_allBits : Int32) (v_db_a : Int32) (v_db_b : Int32) (v_db_c : Int32) (v_db_d : Int32) (v_dn_bits : Int32) (v_dn_size : Int32) (v_dn_allBits : Int32) (v_dn_a : Int32) (v_dn_b : Int32) (v_dn_c : Int32) (v_dn_d : Int32) (x1 : Int32) (x2 : Int32) (x3 : Int32) : Option (Int32 × Int64 × Int32 × Int32 × Int32 × Int32 × Int32 × Int32 × Int32 × Int32 × Int32 × Int32 × Int32 × Int32 × Int32 × Int32 × Int32 × Int32 × Int32) :=
  if x1 < 1 then
    some ((-2000000102), v_s, v_closed, v_traces, v_crossings, v_db_bits, v_db_size, v_db_allBits, v_db_a, v_db_b, v_db_c, v_db_d, v_dn_bits, v_dn_size, v_dn_allBits, v_dn_a, v_dn_b, v_dn_c, v_dn_d)
  else
    if 40 < x1 then
      some ((-2000000102), v_s, v_closed, v_traces, v_crossings, v_db_bits, v_db_size, v_db_allBits, v_db_a, v_db_b, v_db_c, v_db_d, v_dn_bits, v_dn_size, v_dn_allBits, v_dn_a, v_dn_b, v_dn_c, v_dn_d)
    else
      if x2 < 0 then
        some ((-2000000102), v_s, v_closed, v_traces, v_crossings, v_db_bits, v_db_size, v_db_allBits, v_db_a, v_db_b, v_db_c, v_db_d, v_dn_bits, v_dn_size, v_dn_allBits, v_dn_a, v_dn_b, v_dn_c, v_dn_d)
      else
        if x3 < 0 then
          some ((-2000000102), v_s, v_closed, v_traces, v_crossings, v_db_bits, v_db_size, v_db_allBits, v_db_a, v_db_b, v_db_c, v_db_d, v_dn_bits, v_dn_size, v_dn_allBits, v_dn_a, v_dn_b, v_dn_c, v_dn_d)
        else
          if x3 < 4 then
            Option.bind (P0_run v_db_bits v_db_size v_db_allBits v_db_a v_db_b v_db_c v_db_d x1 x2) fun r6 =>
            if x3 = 0 then
              some (r6.2.1, r6.1, r6.2.1, r6.2.2.1, r6.2.2.2.1, r6.2.2.2.2.1, r6.2.2.2.2.2.1, r6.2.2.2.2.2.2.1, r6.2.2.2.2.2.2.2.1, r6.2.2.2.2.2.2.2.2.1, r6.2.2.2.2.2.2.2.2.2.1, r6.2.2.2.2.2.2.2.2.2.2.1, r6.2.2.2.2.2.2.2.2.2.2.2.1, r6.2.2.2.2.2.2.2.2.2.2.2.2.1, r6.2.2.2.2.2.2.2.2.2.2.2.2.2.1, r6.2.2.2.2.2.2.2.2.2.2.2.2.2.2.1, r6.2.2.2.2.2.2.2.2.2.2.2.2.2.2.2.1, r6.2.2.2.2.2.2.2.2.2.2.2.2.2.2.2.2.1, r6.2.2.2.2.2.2.2.2.2.2.2.2.2.2.2.2.2)
            else
              if x3 = 1 then
                some (r6.2.2.1, r6.1, r6.2.1, r6.2.2.1, r6.2.2.2.1, r6.2.2.2.2.1, r6.2.2.2.2.2.1, r6.2.2.2.2.2.2.1, r6.2.2.2.2.2.2.2.1, r6.2.2.2.2.2.2.2.2.1, r6.2.2.2.2.2.2.2.2.2.1, r6.2.2.2.2.2.2.2.2.2.2.1, r6.2.2.2.2.2.2.2.2.2.2.2.1, r6.2.2.2.2.2.2.2.2.2.2.2.2.1, r6.2.2.2.2.2.2.2.2.2.2.2.2.2.1, r6.2.2.2.2.2.2.2.2.2.2.2.2.2.2.1, r6.2.2.2.2.2.2.2.2.2.2.2.2.2.2.2.1, r6.2.2.2.2.2.2.2.2.2.2.2.2.2.2.2.2.1, r6.2.2.2.2.2.2.2.2.2.2.2.2.2.2.2.2.2)
              else
                if x3 = 2 then
                  some (r6.2.2.2.1, r6.1, r6.2.1, r6.2.2.1, r6.2.2.2.1, r6.2.2.2.2.1, r6.2.2.2.2.2.1, r6.2.2.2.2.2.2.1, r6.2.2.2.2.2.2.2.1, r6.2.2.2.2.2.2.2.2.1, r6.2.2.2.2.2.2.2.2.2.1, r6.2.2.2.2.2.2.2.2.2.2.1, r6.2.2.2.2.2.2.2.2.2.2.2.1, r6.2.2.2.2.2.2.2.2.2.2.2.2.1, r6.2.2.2.2.2.2.2.2.2.2.2.2.2.1, r6.2.2.2.2.2.2.2.2.2.2.2.2.2.2.1, r6.2.2.2.2.2.2.2.2.2.2.2.2.2.2.2.1, r6.2.2.2.2.2.2.2.2.2.2.2.2.2.2.2.2.1, r6.2.2.2.2.2.2.2.2.2.2.2.2.2.2.2.2.2)
                else
                  some (Int64.toInt32 r6.1, r6.1, r6.2.1, r6.2.2.1, r6.2.2.2.1, r6.2.2.2.2.1, r6.2.2.2.2.2.1, r6.2.2.2.2.2.2.1, r6.2.2.2.2.2.2.2.1, r6.2.2.2.2.2.2.2.2.1, r6.2.2.2.2.2.2.2.2.2.1, r6.2.2.2.2.2.2.2.2.2.2.1, r6.2.2.2.2.2.2.2.2.2.2.2.1, r6.2.2.2.2.2.2.2.2.2.2.2.2.1, r6.2.2.2.2.2.2.2.2.2.2.2.2.2.1, r6.2.2.2.2.2.2.2.2.2.2.2.2.2.2.1, r6.2.2.2.2.2.2.2.2.2.2.2.2.2.2.2.1, r6.2.2.2.2.2.2.2.2.2.2.2.2.2.2.2.2.1, r6.2.2.2.2.2.2.2.2.2.2.2.2.2.2.2.2.2)
          else
            some ((-2000000102), v_s, v_closed, v_traces, v_crossings, v_db_bits, v_db_size, v_db_allBits, v_db_a, v_db_b, v_db_c, v_db_d, v_dn_bits, v_dn_size, v_dn_allBits, v_dn_a, v_dn_b, v_dn_c, v_dn_d)
def P4_isClosedRoad (v_roadCount : Int32) (v_wn : Nat) (v_wv : Nat → Nat → Int32) (x1 : Int32) : Option (Int32) :=
  Option.bind (P4_roadAt v_roadCount v_wn x1) fun r1 =>
  match r1 with
  | none =>
    some 0
  | some j2 =>
    Option.bind (P3_isClosed (v_wv j2 0) (v_wv j2 2)) fun r3 =>
    if r3 = 0 then
      some 0
    else
      some 1
def P4_closedRoads_4 (v_roadCount : Int32) (v_wn : Nat) (v_wv : Nat → Nat → Int32) : Nat → Int32 → Int32 → Option (Int32)
  | 0, _, _ => none
  | n + 1, x1, x2 =>
    if v_roadCount ≤ x2 then
      some x1
    else
      Option.bind (P4_isClosedRoad v_roadCount v_wn v_wv x2) fun r2 =>
      if r2 = 0 then
        P4_closedRoads_4 v_roadCount v_wn v_wv n x1 (x2 + 1)
      else
        P4_closedRoads_4 v_roadCount v_wn v_wv n (x1 + 1) (x2 + 1)
def P4_closedRoads (v_roadCount : Int32) (v_wn : Nat) (v_wv : Nat → Nat → Int32) : Option (Int32) :=
  Option.bind (P4_closedRoads_4 v_roadCount v_wn v_wv FU 0 0) fun o4 =>
  some o4
def P4_isFirstOfClass_2 (v_roadCount : Int32) (v_wn : Nat) (v_wv : Nat → Nat → Int32) (x1 : Int32) : Nat → Int32 → Option (Int32)
  | 0, _ => none
  | n + 1, x2 =>
    if x1 ≤ x2 then
      some 1
    else
      Option.bind (P4_alike v_roadCount v_wn v_wv x2 x1) fun r2 =>
      if r2 < 0 then
        P4_isFirstOfClass_2 v_roadCount v_wn v_wv x1 n (x2 + 1)
      else
        some 0
def P4_isFirstOfClass (v_roadCount : Int32) (v_wn : Nat) (v_wv : Nat → Nat → Int32) (x1 : Int32) : Option (Int32) :=
  P4_isFirstOfClass_2 v_roadCount v_wn v_wv x1 FU 0
def P4_roadClasses_4 (v_roadCount : Int32) (v_wn : Nat) (v_wv : Nat → Nat → Int32) : Nat → Int32 → Int32 → Option (Int32)
  | 0, _, _ => none
  | n + 1, x1, x2 =>
    if v_roadCount ≤ x2 then
      some x1
    else
      Option.bind (P4_isFirstOfClass v_roadCount v_wn v_wv x2) fun r2 =>
      if r2 = 0 then
        P4_roadClasses_4 v_roadCount v_wn v_wv n x1 (x2 + 1)
      else
        P4_roadClasses_4 v_roadCount v_wn v_wv n (x1 + 1) (x2 + 1)
def P4_roadClasses (v_roadCount : Int32) (v_wn : Nat) (v_wv : Nat → Nat → Int32) : Option (Int32) :=
  Option.bind (P4_roadClasses_4 v_roadCount v_wn v_wv FU 0 0) fun o4 =>
  some o4
def P4_count (v_roadCount : Int32) (v_readings : Int32) (v_psize : Int32) (v_rsize : Int32) (v_cycleCount : Int32) (v_wn : Nat) (v_wv : Nat → Nat → Int32) (x1 : Int32) : Option (Int32) :=
  if x1 = 0 then
    some v_roadCount
  else
    if x1 = 1 then
      Option.bind (P4_closedRoads v_roadCount v_wn v_wv) fun r3 =>
      some r3
    else
      if x1 = 2 then
        Option.bind (P4_roadClasses v_roadCount v_wn v_wv) fun r5 =>
        some r5
      else
        if x1 = 3 then
          some v_psize
        else
          if x1 = 4 then
            some v_readings
          else
            if x1 = 5 then
              some v_rsize
            else
              if x1 = 6 then
                some v_cycleCount
              else
                some (-2000000102)
def P4_hashRoad_6 (v_roadCount : Int32) (v_wn : Nat) (v_wv : Nat → Nat → Int32) (x3 : Int32) : Nat → Int64 → Int32 → Option (Int64)
  | 0, _, _ => none
  | n + 1, l4, x6 =>
    if 10 ≤ x6 then
      some l4
    else
      Option.bind (P4_road v_roadCount v_wn v_wv x3 x6) fun r2 =>
      Option.bind (P4_mix l4 r2) fun r3 =>
      P4_hashRoad_6 v_roadCount v_wn v_wv x3 n r3 (x6 + 1)
def P4_hashRoad_44 (v_roadCount : Int32) (v_wn : Nat) (v_wv : Nat → Nat → Int32) (x3 : Int32) (x6 : Int32) : Nat → Int64 → Int32 → Option (Int64)
  | 0, _, _ => none
  | n + 1, l4, x7 =>
    if x6 ≤ x7 then
      some l4
    else
      Option.bind (P4_sign v_roadCount v_wn v_wv x3 x7) fun r7 =>
      Option.bind (P4_mix l4 r7) fun r8 =>
      P4_hashRoad_44 v_roadCount v_wn v_wv x3 x6 n r8 (x7 + 1)
def P4_hashRoad_74 (v_roadCount : Int32) (v_wn : Nat) (v_wv : Nat → Nat → Int32) (x3 : Int32) : Nat → Int64 → Int32 → Option (Int64)
  | 0, _, _ => none
  | n + 1, l4, x7 =>
    if 4 ≤ x7 then
      some l4
    else
      Option.bind (P4_table v_roadCount v_wn v_wv x3 x7) fun r11 =>
      Option.bind (P4_mix l4 r11) fun r12 =>
      P4_hashRoad_74 v_roadCount v_wn v_wv x3 n r12 (x7 + 1)
def P4_hashRoad_103 (v_roadCount : Int32) (v_wn : Nat) (v_wv : Nat → Nat → Int32) (x3 : Int32) : Nat → Int64 → Int32 → Option (Int64)
  | 0, _, _ => none
  | n + 1, l4, x7 =>
    if 2 ≤ x7 then
      some l4
    else
      Option.bind (P4_end v_roadCount v_wn v_wv x3 x7) fun r15 =>
      Option.bind (P4_mix l4 r15) fun r16 =>
      P4_hashRoad_103 v_roadCount v_wn v_wv x3 n r16 (x7 + 1)
def P4_hashRoad_132 (v_roadCount : Int32) (v_wn : Nat) (v_wv : Nat → Nat → Int32) (x3 : Int32) : Nat → Int64 → Int32 → Option (Int64)
  | 0, _, _ => none
  | n + 1, l4, x7 =>
    if 5 ≤ x7 then
      some l4
    else
      Option.bind (P4_isClosedRoad v_roadCount v_wn v_wv x3) fun r19 =>
      if r19 = 0 then
        some l4
      else
        Option.bind (P4_form v_roadCount v_wn v_wv x3 x7) fun r21 =>
        Option.bind (P4_mix l4 r21) fun r22 =>
        P4_hashRoad_132 v_roadCount v_wn v_wv x3 n r22 (x7 + 1)
def P4_hashRoad (v_roadCount : Int32) (v_wn : Nat) (v_wv : Nat → Nat → Int32) (l1 : Int64) (x3 : Int32) : Option (Int64) :=
  Option.bind (P4_hashRoad_6 v_roadCount v_wn v_wv x3 FU l1 0) fun o4 =>
  Option.bind (P4_road v_roadCount v_wn v_wv x3 0) fun r5 =>
  Option.bind (P4_hashRoad_44 v_roadCount v_wn v_wv x3 r5 FU o4 0) fun o9 =>
  Option.bind (P4_hashRoad_74 v_roadCount v_wn v_wv x3 FU o9 0) fun o13 =>
  Option.bind (P4_hashRoad_103 v_roadCount v_wn v_wv x3 FU o13 0) fun o17 =>
  Option.bind (P4_hashRoad_132 v_roadCount v_wn v_wv x3 FU o17 0) fun o23 =>
  some o23
def P4_hashRoads_5 (v_roadCount : Int32) (v_wn : Nat) (v_wv : Nat → Nat → Int32) : Nat → Int64 → Int32 → Option (Int64)
  | 0, _, _ => none
  | n + 1, l3, x5 =>
    if v_roadCount ≤ x5 then
      some l3
    else
      Option.bind (P4_hashRoad v_roadCount v_wn v_wv l3 x5) fun r2 =>
      P4_hashRoads_5 v_roadCount v_wn v_wv n r2 (x5 + 1)
def P4_hashRoads (v_roadCount : Int32) (v_wn : Nat) (v_wv : Nat → Nat → Int32) (l1 : Int64) : Option (Int64) :=
  Option.bind (P4_hashRoads_5 v_roadCount v_wn v_wv FU l1 0) fun o3 =>
  some o3
def P4_hashCrossings_18 (v_roadCount : Int32) (v_wn : Nat) (v_wv : Nat → Nat → Int32) (x5 : Int32) : Nat → Int64 → Int32 → Option (Int64)
  | 0, _, _ => none
  | n + 1, l3, x6 =>
    if v_roadCount ≤ x6 then
      some l3
    else
      Option.bind (P4_isClosedRoad v_roadCount v_wn v_wv x5) fun r3 =>
      if r3 = 0 then
        P4_hashCrossings_18 v_roadCount v_wn v_wv x5 n l3 (x6 + 1)
      else
        Option.bind (P4_isClosedRoad v_roadCount v_wn v_wv x6) fun r5 =>
        if r5 = 0 then
          P4_hashCrossings_18 v_roadCount v_wn v_wv x5 n l3 (x6 + 1)
        else
          Option.bind (P4_cross v_roadCount v_wn v_wv x5 x6) fun r7 =>
          Option.bind (P4_mix l3 r7) fun r8 =>
          P4_hashCrossings_18 v_roadCount v_wn v_wv x5 n r8 (x6 + 1)
def P4_hashCrossings_5 (v_roadCount : Int32) (v_wn : Nat) (v_wv : Nat → Nat → Int32) : Nat → Int64 → Int32 → Option (Int64)
  | 0, _, _ => none
  | n + 1, l3, x5 =>
    if v_roadCount ≤ x5 then
      some l3
    else
      Option.bind (P4_hashCrossings_18 v_roadCount v_wn v_wv x5 FU l3 x5) fun o9 =>
      P4_hashCrossings_5 v_roadCount v_wn v_wv n o9 (x5 + 1)
def P4_hashCrossings (v_roadCount : Int32) (v_wn : Nat) (v_wv : Nat → Nat → Int32) (l1 : Int64) : Option (Int64) :=
  Option.bind (P4_hashCrossings_5 v_roadCount v_wn v_wv FU l1 0) fun o10 =>
  some o10
def P4_hashForms_20 (v_rsize : Int32) (v_fo : Nat → Nat → Int32) (x5 : Int32) : Nat → Int64 → Int32 → Option (Int64)
  | 0, _, _ => none
  | n + 1, l3, x6 =>
    if 8 ≤ x6 then
      some l3
    else
      Option.bind (P4_simple v_rsize v_fo x5 x6) fun r3 =>
      Option.bind (P4_mix l3 r3) fun r4 =>
      P4_hashForms_20 v_rsize v_fo x5 n r4 (x6 + 1)
def P4_hashForms_5 (v_rsize : Int32) (v_fo : Nat → Nat → Int32) : Nat → Int64 → Int32 → Option (Int64)
  | 0, _, _ => none
  | n + 1, l3, x5 =>
    if v_rsize ≤ x5 then
      some l3
    else
      Option.bind (P4_hashForms_20 v_rsize v_fo x5 FU l3 0) fun o5 =>
      P4_hashForms_5 v_rsize v_fo n o5 (x5 + 1)
def P4_hashForms (v_rsize : Int32) (v_fo : Nat → Nat → Int32) (l1 : Int64) : Option (Int64) :=
  Option.bind (P4_hashForms_5 v_rsize v_fo FU l1 0) fun o6 =>
  some o6
def P4_hashCycles_20 (v_cycleCount : Int32) (v_cy : Nat → Nat → Int32) (x5 : Int32) : Nat → Int64 → Int32 → Option (Int64)
  | 0, _, _ => none
  | n + 1, l3, x6 =>
    if 5 ≤ x6 then
      some l3
    else
      Option.bind (P4_cycle v_cycleCount v_cy x5 x6) fun r3 =>
      Option.bind (P4_mix l3 r3) fun r4 =>
      P4_hashCycles_20 v_cycleCount v_cy x5 n r4 (x6 + 1)
def P4_hashCycles_5 (v_rsize : Int32) (v_cycleCount : Int32) (v_fo : Nat → Nat → Int32) (v_cy : Nat → Nat → Int32) : Nat → Int64 → Int32 → Option (Int64)
  | 0, _, _ => none
  | n + 1, l3, x5 =>
    if v_cycleCount ≤ x5 then
      some l3
    else
      Option.bind (P4_hashCycles_20 v_cycleCount v_cy x5 FU l3 0) fun o5 =>
      Option.bind (P4_trace v_rsize v_cycleCount v_fo v_cy x5 997) fun r6 =>
      Option.bind (P4_mix o5 r6) fun r7 =>
      P4_hashCycles_5 v_rsize v_cycleCount v_fo v_cy n r7 (x5 + 1)
def P4_hashCycles (v_rsize : Int32) (v_cycleCount : Int32) (v_fo : Nat → Nat → Int32) (v_cy : Nat → Nat → Int32) (l1 : Int64) : Option (Int64) :=
  Option.bind (P4_hashCycles_5 v_rsize v_cycleCount v_fo v_cy FU l1 0) fun o8 =>
  some o8
def P4_digest_37 (v_roadCount : Int32) (v_readings : Int32) (v_psize : Int32) (v_rsize : Int32) (v_cycleCount : Int32) (v_wn : Nat) (v_wv : Nat → Nat → Int32) : Nat → Int64 → Int32 → Option (Int64)
  | 0, _, _ => none
  | n + 1, l1, x3 =>
    if 7 ≤ x3 then
      some l1
    else
      Option.bind (P4_count v_roadCount v_readings v_psize v_rsize v_cycleCount v_wn v_wv x3) fun r7 =>
      Option.bind (P4_mix l1 r7) fun r8 =>
      P4_digest_37 v_roadCount v_readings v_psize v_rsize v_cycleCount v_wn v_wv n r8 (x3 + 1)
def P4_digest (v_roadCount : Int32) (v_readings : Int32) (v_psize : Int32) (v_codes : Nat → Int32) (v_rsize : Int32) (v_cycleCount : Int32) (v_fo : Nat → Nat → Int32) (v_cy : Nat → Nat → Int32) (v_wn : Nat) (v_wv : Nat → Nat → Int32) : Option (Int64) :=
  Option.bind (P4_hashRoads v_roadCount v_wn v_wv 1549) fun r1 =>
  Option.bind (P4_hashCrossings v_roadCount v_wn v_wv r1) fun r2 =>
  Option.bind (P4_hashForms v_rsize v_fo r2) fun r3 =>
  Option.bind (P4_hashCycles v_rsize v_cycleCount v_fo v_cy r3) fun r4 =>
  Option.bind (P1_hashed v_psize v_codes r4) fun r5 =>
  Option.bind (P4_digest_37 v_roadCount v_readings v_psize v_rsize v_cycleCount v_wn v_wv FU r5 0) fun o9 =>
  some o9
def P5_within (x0 : Int32) (x1 : Int32) (x2 : Int32) : Option (Int32) :=
  if x0 < x1 then
    some 0
  else
    if x2 < x0 then
      some 0
    else
      some 1
def P5_abs (x0 : Int32) : Option (Int32) :=
  if 0 ≤ x0 then
    some x0
  else
    some (-x0)
def P5_common_10  : Nat → Int32 → Int32 → Option (Int32)
  | 0, _, _ => none
  | n + 1, x2, x3 =>
    if x3 = 0 then
      some x2
    else
      if ¬ x3 = 0 then
      P5_common_10 n x3 (jrem x2 x3)
      else none
def P5_common (x0 : Int32) (x1 : Int32) : Option (Int32) :=
  Option.bind (P5_abs x0) fun r1 =>
  Option.bind (P5_abs x1) fun r2 =>
  Option.bind (P5_common_10 FU r1 r2) fun o5 =>
  some o5
def P5_letter (v_pageLength : Int32) (v_page : Nat → Int32) (x1 : Int32) : Option (Int32 × Int32 × (Nat → Int32)) :=
  Option.bind (P5_within x1 32 126) fun r1 =>
  if r1 = 0 then
    some ((-2000000102), v_pageLength, v_page)
  else
    if v_pageLength = 20 then
      some ((-2000000104), v_pageLength, v_page)
    else
      if vx v_pageLength 20 then
      some (v_pageLength + 1, v_pageLength + 1, upd v_page (Int32.toNatClampNeg v_pageLength) x1)
      else none
def P5_blank (v_pageLength : Int32) : Option (Int32 × Int32) :=
  some (v_pageLength, 0)
def P5_takes_97 (x2 : Int32) : Nat → Int32 → (Nat → Int32) → Int32 → Option (Int32 × (Nat → Int32))
  | 0, _, _, _ => none
  | n + 1, v_newLength, v_newSigns, x3 =>
    if x2 ≤ x3 then
      some (v_newLength, v_newSigns)
    else
      if vx (v_newLength - 1) 20 then
      if vx v_newLength 20 then
      P5_takes_97 x2 n (v_newLength + 1) (upd v_newSigns (Int32.toNatClampNeg v_newLength) (v_newSigns (Int32.toNatClampNeg (v_newLength - 1)))) (x3 + 1)
      else none
      else none
def P5_takes (v_newLength : Int32) (v_newSigns : Nat → Int32) (v_mayRun : Int32) (x1 : Int32) : Option (Int32 × Int32 × (Nat → Int32) × Int32) :=
  if x1 = 76 then
    if v_newLength = 20 then
      some (0, v_newLength, v_newSigns, v_mayRun)
    else
      if x1 = 76 then
        if vx v_newLength 20 then
        some (1, v_newLength + 1, upd v_newSigns (Int32.toNatClampNeg v_newLength) 0, 1)
        else none
      else
        if vx v_newLength 20 then
        some (1, v_newLength + 1, upd v_newSigns (Int32.toNatClampNeg v_newLength) 1, 1)
        else none
  else
    if x1 = 82 then
      if v_newLength = 20 then
        some (0, v_newLength, v_newSigns, v_mayRun)
      else
        if x1 = 76 then
          if vx v_newLength 20 then
          some (1, v_newLength + 1, upd v_newSigns (Int32.toNatClampNeg v_newLength) 0, 1)
          else none
        else
          if vx v_newLength 20 then
          some (1, v_newLength + 1, upd v_newSigns (Int32.toNatClampNeg v_newLength) 1, 1)
          else none
    else
      if v_mayRun = 0 then
        some (0, v_newLength, v_newSigns, v_mayRun)
      else
        Option.bind (P5_within (x1 - 49) 1 8) fun r8 =>
        if r8 = 0 then
          some (0, v_newLength, v_newSigns, v_mayRun)
        else
          if (v_newLength + (x1 - 49)) ≤ 20 then
            Option.bind (P5_takes_97 (x1 - 49) FU v_newLength v_newSigns 0) fun o14 =>
            some (1, o14.1, o14.2, 0)
          else
            some (0, v_newLength, v_newSigns, v_mayRun)
def P5_read_12 (v_pageLength : Int32) (v_page : Nat → Int32) : Nat → Int32 → (Nat → Int32) → Int32 → Int32 → Option (Int32 × (Nat → Int32) × Int32 × Int32)
  | 0, _, _, _, _ => none
  | n + 1, v_newLength, v_newSigns, v_mayRun, x1 =>
    if v_pageLength ≤ x1 then
      some (v_newLength, v_newSigns, v_mayRun, x1)
    else
      if vx x1 20 then
      Option.bind (P5_takes v_newLength v_newSigns v_mayRun (v_page (Int32.toNatClampNeg x1))) fun r3 =>
      if r3.1 = 0 then
        some (r3.2.1, r3.2.2.1, r3.2.2.2, x1)
      else
        P5_read_12 v_pageLength v_page n r3.2.1 r3.2.2.1 r3.2.2.2 (x1 + 1)
      else none
def P5_read (v_pageLength : Int32) (v_page : Nat → Int32) (v_newSigns : Nat → Int32) : Option (Int32 × Int32 × (Nat → Int32) × Int32) :=
  Option.bind (P5_read_12 v_pageLength v_page FU 0 v_newSigns 0 0) fun o5 =>
  some (o5.2.2.2, o5.1, o5.2.1, o5.2.2.1)
def P5_fault (v_pageLength : Int32) (v_page : Nat → Int32) (v_newSigns : Nat → Int32) : Option (Int32 × Int32 × (Nat → Int32) × Int32) :=
  Option.bind (P5_read v_pageLength v_page v_newSigns) fun r1 =>
  some (r1.1, r1.2.1, r1.2.2.1, r1.2.2.2)
def P5_keepNew_15 (v_roads : Int32) (v_newLength : Int32) (v_newSigns : Nat → Int32) : Nat → (Nat → Int32) → Int32 → Option ((Nat → Int32))
  | 0, _, _ => none
  | n + 1, v_signs, x1 =>
    if v_newLength ≤ x1 then
      some v_signs
    else
      if vx x1 20 then
      if vx ((20 * v_roads) + x1) 120 then
      P5_keepNew_15 v_roads v_newLength v_newSigns n (upd v_signs (Int32.toNatClampNeg ((20 * v_roads) + x1)) (v_newSigns (Int32.toNatClampNeg x1))) (x1 + 1)
      else none
      else none
def P5_keepNew (v_roads : Int32) (v_lengths : Nat → Int32) (v_signs : Nat → Int32) (v_newLength : Int32) (v_newSigns : Nat → Int32) : Option (Int32 × Int32 × (Nat → Int32) × (Nat → Int32)) :=
  if vx v_roads 6 then
  Option.bind (P5_keepNew_15 v_roads v_newLength v_newSigns FU v_signs 0) fun o5 =>
  some ((v_roads + 1) - 1, v_roads + 1, upd v_lengths (Int32.toNatClampNeg v_roads) v_newLength, o5)
  else none
def P5_word (v_pageLength : Int32) (v_page : Nat → Int32) (v_roads : Int32) (v_lengths : Nat → Int32) (v_signs : Nat → Int32) (v_wordsRead : Int32) (v_newSigns : Nat → Int32) : Option (Int32 × Int32 × Int32 × (Nat → Int32) × (Nat → Int32) × Int32 × Int32 × (Nat → Int32) × Int32) :=
  Option.bind (P5_read v_pageLength v_page v_newSigns) fun r1 =>
  if r1.1 < v_pageLength then
    some ((-2000000103), v_pageLength, v_roads, v_lengths, v_signs, v_wordsRead, r1.2.1, r1.2.2.1, r1.2.2.2)
  else
    if r1.2.1 = 0 then
      some ((-2000000103), v_pageLength, v_roads, v_lengths, v_signs, v_wordsRead, r1.2.1, r1.2.2.1, r1.2.2.2)
    else
      if v_roads = 6 then
        some ((-2000000104), v_pageLength, v_roads, v_lengths, v_signs, v_wordsRead, r1.2.1, r1.2.2.1, r1.2.2.2)
      else
        Option.bind (P5_keepNew v_roads v_lengths v_signs r1.2.1 r1.2.2.1) fun r5 =>
        some (r5.1, 0, r5.2.1, r5.2.2.1, r5.2.2.2, v_wordsRead + 1, r1.2.1, r1.2.2.1, r1.2.2.2)
def P5_look_12 (v_signs : Nat → Int32) (v_size : Int32) (x1 : Int32) : Nat → (Nat → Int32) → Int32 → Option ((Nat → Int32))
  | 0, _, _ => none
  | n + 1, v_at, x2 =>
    if v_size ≤ x2 then
      some v_at
    else
      if vx ((20 * x1) + x2) 120 then
      if vx x2 20 then
      P5_look_12 v_signs v_size x1 n (upd v_at (Int32.toNatClampNeg x2) (v_signs (Int32.toNatClampNeg ((20 * x1) + x2)))) (x2 + 1)
      else none
      else none
def P5_look (v_lengths : Nat → Int32) (v_signs : Nat → Int32) (v_at : Nat → Int32) (x1 : Int32) : Option (Int32 × (Nat → Int32)) :=
  if vx x1 6 then
  Option.bind (P5_look_12 v_signs (v_lengths (Int32.toNatClampNeg x1)) x1 FU v_at 0) fun o5 =>
  some (v_lengths (Int32.toNatClampNeg x1), o5)
  else none
def P5_lefts_4 (v_size : Int32) (v_at : Nat → Int32) : Nat → Int32 → Int32 → Option (Int32)
  | 0, _, _ => none
  | n + 1, x1, x2 =>
    if v_size ≤ x2 then
      some x1
    else
      if vx x2 20 then
      if (v_at (Int32.toNatClampNeg x2)) = 0 then
        P5_lefts_4 v_size v_at n (x1 + 1) (x2 + 1)
      else
        P5_lefts_4 v_size v_at n (x1 + 0) (x2 + 1)
      else none
def P5_lefts (v_size : Int32) (v_at : Nat → Int32) : Option (Int32) :=
  Option.bind (P5_lefts_4 v_size v_at FU 0 0) fun o4 =>
  some o4
def P5_isClosedNow (v_size : Int32) (v_at : Nat → Int32) : Option (Int32) :=
  Option.bind (P5_lefts v_size v_at) fun r1 =>
  if r1 ≤ 0 then
    some 0
  else
    Option.bind (P5_lefts v_size v_at) fun r3 =>
    if v_size ≤ r3 then
      some 0
    else
      some 1
def P5_isClosed (v_lengths : Nat → Int32) (v_signs : Nat → Int32) (v_at : Nat → Int32) (x1 : Int32) : Option (Int32 × Int32 × (Nat → Int32)) :=
  Option.bind (P5_look v_lengths v_signs v_at x1) fun r1 =>
  Option.bind (P5_isClosedNow r1.1 r1.2) fun r2 =>
  if r2 = 0 ∨ r2 = 1 then some (r2, r1.1, r1.2) else none
def P5_compareTurns_2 (v_size : Int32) (v_at : Nat → Int32) (x1 : Int32) (x2 : Int32) : Nat → Int32 → Option (Int32)
  | 0, _ => none
  | n + 1, x3 =>
    if v_size ≤ x3 then
      some 0
    else
      if ¬ v_size = 0 then
      if vx (jrem (x1 + x3) v_size) 20 then
      if ¬ v_size = 0 then
      if vx (jrem (x2 + x3) v_size) 20 then
      if ((v_at (Int32.toNatClampNeg (jrem (x1 + x3) v_size))) - (v_at (Int32.toNatClampNeg (jrem (x2 + x3) v_size)))) = 0 then
        P5_compareTurns_2 v_size v_at x1 x2 n (x3 + 1)
      else
        some ((v_at (Int32.toNatClampNeg (jrem (x1 + x3) v_size))) - (v_at (Int32.toNatClampNeg (jrem (x2 + x3) v_size))))
      else none
      else none
      else none
      else none
def P5_compareTurns (v_size : Int32) (v_at : Nat → Int32) (x1 : Int32) (x2 : Int32) : Option (Int32) :=
  P5_compareTurns_2 v_size v_at x1 x2 FU 0
def P5_periodNow_2 (v_size : Int32) (v_at : Nat → Int32) : Nat → Int32 → Option (Int32)
  | 0, _ => none
  | n + 1, x1 =>
    if ¬ v_size = 0 then
    Option.bind (P5_compareTurns v_size v_at (jrem x1 v_size) 0) fun r2 =>
    if r2 = 0 then
      some x1
    else
      P5_periodNow_2 v_size v_at n (x1 + 1)
    else none
def P5_periodNow (v_size : Int32) (v_at : Nat → Int32) : Option (Int32) :=
  Option.bind (P5_periodNow_2 v_size v_at FU 1) fun o4 =>
  some o4
def P5_leastTurnNow_4 (v_size : Int32) (v_at : Nat → Int32) : Nat → Int32 → Int32 → Option (Int32)
  | 0, _, _ => none
  | n + 1, x1, x2 =>
    if v_size ≤ x2 then
      some x1
    else
      Option.bind (P5_compareTurns v_size v_at x2 x1) fun r2 =>
      if 0 ≤ r2 then
        P5_leastTurnNow_4 v_size v_at n x1 (x2 + 1)
      else
        P5_leastTurnNow_4 v_size v_at n x2 (x2 + 1)
def P5_leastTurnNow (v_size : Int32) (v_at : Nat → Int32) : Option (Int32) :=
  Option.bind (P5_leastTurnNow_4 v_size v_at FU 0 1) fun o4 =>
  some o4
def P5_turnTo_25 (v_size : Int32) (v_at : Nat → Int32) (v_other : Nat → Int32) (x1 : Int32) : Nat → Int32 → Int32 → Option (Int32)
  | 0, _, _ => none
  | n + 1, x2, x3 =>
    if v_size ≤ x3 then
      some x2
    else
      if x2 = 0 then
        P5_turnTo_25 v_size v_at v_other x1 n 0 (x3 + 1)
      else
        if ¬ v_size = 0 then
        if vx (jrem (x1 + x3) v_size) 20 then
        if vx x3 20 then
        if (v_at (Int32.toNatClampNeg (jrem (x1 + x3) v_size))) = (v_other (Int32.toNatClampNeg x3)) then
          P5_turnTo_25 v_size v_at v_other x1 n 1 (x3 + 1)
        else
          P5_turnTo_25 v_size v_at v_other x1 n 0 (x3 + 1)
        else none
        else none
        else none
def P5_turnTo_2 (v_size : Int32) (v_at : Nat → Int32) (v_otherSize : Int32) (v_other : Nat → Int32) : Nat → Int32 → Option (Int32)
  | 0, _ => none
  | n + 1, x1 =>
    if v_size ≤ x1 then
      some (-2000000001)
    else
      if v_size = v_otherSize then
        Option.bind (P5_turnTo_25 v_size v_at v_other x1 FU 1 0) fun o9 =>
        if o9 = 0 then
          P5_turnTo_2 v_size v_at v_otherSize v_other n (x1 + 1)
        else
          some x1
      else
        some (-2000000001)
def P5_turnTo (v_size : Int32) (v_at : Nat → Int32) (v_otherSize : Int32) (v_other : Nat → Int32) : Option (Int32) :=
  P5_turnTo_2 v_size v_at v_otherSize v_other FU 0
def P5_layOther_10 (v_size : Int32) (v_at : Nat → Int32) (x1 : Int32) (x2 : Int32) : Nat → (Nat → Int32) → Int32 → Option ((Nat → Int32))
  | 0, _, _ => none
  | n + 1, v_other, x3 =>
    if v_size ≤ x3 then
      some v_other
    else
      if x1 = 0 then
        if vx x3 20 then
        if x2 = 0 then
          if vx x3 20 then
          P5_layOther_10 v_size v_at x1 x2 n (upd v_other (Int32.toNatClampNeg x3) (v_at (Int32.toNatClampNeg x3))) (x3 + 1)
          else none
        else
          if vx x3 20 then
          P5_layOther_10 v_size v_at x1 x2 n (upd v_other (Int32.toNatClampNeg x3) (1 - (v_at (Int32.toNatClampNeg x3)))) (x3 + 1)
          else none
        else none
      else
        if vx ((v_size - 1) - x3) 20 then
        if x2 = 0 then
          if vx x3 20 then
          P5_layOther_10 v_size v_at x1 x2 n (upd v_other (Int32.toNatClampNeg x3) (v_at (Int32.toNatClampNeg ((v_size - 1) - x3)))) (x3 + 1)
          else none
        else
          if vx x3 20 then
          P5_layOther_10 v_size v_at x1 x2 n (upd v_other (Int32.toNatClampNeg x3) (1 - (v_at (Int32.toNatClampNeg ((v_size - 1) - x3))))) (x3 + 1)
          else none
        else none
def P5_layOther (v_size : Int32) (v_at : Nat → Int32) (v_other : Nat → Int32) (x1 : Int32) (x2 : Int32) : Option (Int32 × (Nat → Int32)) :=
  Option.bind (P5_layOther_10 v_size v_at x1 x2 FU v_other 0) fun o11 =>
  some (v_size, o11)
def P5_isAlike (v_size : Int32) (v_at : Nat → Int32) (v_other : Nat → Int32) (x1 : Int32) (x2 : Int32) : Option (Int32 × Int32 × (Nat → Int32)) :=
  Option.bind (P5_layOther v_size v_at v_other x1 x2) fun r1 =>
  Option.bind (P5_turnTo v_size v_at r1.1 r1.2) fun r2 =>
  if r2 = (-2000000001) then
    some (0, r1.1, r1.2)
  else
    some (1, r1.1, r1.2)
def P5_layTable_27 (v_at : Nat → Int32) : Nat → Int32 → Int32 → Int32 → Int32 → Int32 → Option (Int32 × Int32 × Int32 × Int32)
  | 0, _, _, _, _, _ => none
  | n + 1, v_tableA, v_tableB, v_tableC, v_tableD, x1 =>
    if x1 < 0 then
      some (v_tableA, v_tableB, v_tableC, v_tableD)
    else
      if vx x1 20 then
      if (v_at (Int32.toNatClampNeg x1)) = 0 then
        P5_layTable_27 v_at n v_tableA v_tableB (v_tableC + v_tableA) (v_tableD + v_tableB) (x1 + (-1))
      else
        P5_layTable_27 v_at n (v_tableA + v_tableC) (v_tableB + v_tableD) v_tableC v_tableD (x1 + (-1))
      else none
def P5_layTable (v_size : Int32) (v_at : Nat → Int32) : Option (Int32 × Int32 × Int32 × Int32) :=
  Option.bind (P5_layTable_27 v_at FU 1 0 0 1 (v_size - 1)) fun o4 =>
  some (o4.1, o4.2.1, o4.2.2.1, o4.2.2.2)
def P5_traceNow (v_size : Int32) (v_at : Nat → Int32) : Option (Int32 × Int32 × Int32 × Int32 × Int32) :=
  Option.bind (P5_layTable v_size v_at) fun r1 =>
  some (r1.1 + r1.2.2.2, r1.1, r1.2.1, r1.2.2.1, r1.2.2.2)
def P5_isRoad (v_roads : Int32) (x1 : Int32) : Option (Int32) :=
  Option.bind (P5_within x1 0 (v_roads - 1)) fun r1 =>
  if r1 = 0 ∨ r1 = 1 then some r1 else none
def P5_roadNow (v_lengths : Nat → Int32) (v_signs : Nat → Int32) (v_at : Nat → Int32) (v_otherSize : Int32) (v_other : Nat → Int32) (v_tableA : Int32) (v_tableB : Int32) (v_tableC : Int32) (v_tableD : Int32) (x1 : Int32) (x2 : Int32) : Option (Int32 × Int32 × (Nat → Int32) × Int32 × (Nat → Int32) × Int32 × Int32 × Int32 × Int32) :=
  Option.bind (P5_look v_lengths v_signs v_at x1) fun r1 =>
  if x2 = 0 then
    some (r1.1, r1.1, r1.2, v_otherSize, v_other, v_tableA, v_tableB, v_tableC, v_tableD)
  else
    if x2 = 1 then
      Option.bind (P5_lefts r1.1 r1.2) fun r4 =>
      some (r4, r1.1, r1.2, v_otherSize, v_other, v_tableA, v_tableB, v_tableC, v_tableD)
    else
      if x2 = 2 then
        Option.bind (P5_lefts r1.1 r1.2) fun r6 =>
        some (r1.1 - r6, r1.1, r1.2, v_otherSize, v_other, v_tableA, v_tableB, v_tableC, v_tableD)
      else
        if x2 = 3 then
          Option.bind (P5_periodNow r1.1 r1.2) fun r8 =>
          some (r8, r1.1, r1.2, v_otherSize, v_other, v_tableA, v_tableB, v_tableC, v_tableD)
        else
          if x2 = 4 then
            Option.bind (P5_leastTurnNow r1.1 r1.2) fun r10 =>
            some (r10, r1.1, r1.2, v_otherSize, v_other, v_tableA, v_tableB, v_tableC, v_tableD)
          else
            if x2 = 5 then
              Option.bind (P5_traceNow r1.1 r1.2) fun r12 =>
              some (r12.1, r1.1, r1.2, v_otherSize, v_other, r12.2.1, r12.2.2.1, r12.2.2.2.1, r12.2.2.2.2)
            else
              if x2 = 6 then
                Option.bind (P5_isClosedNow r1.1 r1.2) fun r14 =>
                if r14 = 0 then
                  some (0, r1.1, r1.2, v_otherSize, v_other, v_tableA, v_tableB, v_tableC, v_tableD)
                else
                  some (1, r1.1, r1.2, v_otherSize, v_other, v_tableA, v_tableB, v_tableC, v_tableD)
              else
                if x2 = 7 then
                  Option.bind (P5_isAlike r1.1 r1.2 v_other 1 0) fun r17 =>
                  if r17.1 = 0 then
                    some (0, r1.1, r1.2, r17.2.1, r17.2.2, v_tableA, v_tableB, v_tableC, v_tableD)
                  else
                    some (1, r1.1, r1.2, r17.2.1, r17.2.2, v_tableA, v_tableB, v_tableC, v_tableD)
                else
                  if x2 = 8 then
                    Option.bind (P5_isAlike r1.1 r1.2 v_other 0 1) fun r20 =>
                    if r20.1 = 0 then
                      some (0, r1.1, r1.2, r20.2.1, r20.2.2, v_tableA, v_tableB, v_tableC, v_tableD)
                    else
                      some (1, r1.1, r1.2, r20.2.1, r20.2.2, v_tableA, v_tableB, v_tableC, v_tableD)
                  else
                    Option.bind (P5_isAlike r1.1 r1.2 v_other 1 1) fun r22 =>
                    if r22.1 = 0 then
                      some (0, r1.1, r1.2, r22.2.1, r22.2.2, v_tableA, v_tableB, v_tableC, v_tableD)
                    else
                      some (1, r1.1, r1.2, r22.2.1, r22.2.2, v_tableA, v_tableB, v_tableC, v_tableD)
def P5_road (v_roads : Int32) (v_lengths : Nat → Int32) (v_signs : Nat → Int32) (v_size : Int32) (v_at : Nat → Int32) (v_otherSize : Int32) (v_other : Nat → Int32) (v_tableA : Int32) (v_tableB : Int32) (v_tableC : Int32) (v_tableD : Int32) (x1 : Int32) (x2 : Int32) : Option (Int32 × Int32 × (Nat → Int32) × Int32 × (Nat → Int32) × Int32 × Int32 × Int32 × Int32) :=
  Option.bind (P5_isRoad v_roads x1) fun r1 =>
  if r1 = 0 then
    some ((-2000000101), v_size, v_at, v_otherSize, v_other, v_tableA, v_tableB, v_tableC, v_tableD)
  else
    Option.bind (P5_within x2 0 9) fun r3 =>
    if r3 = 0 then
      some ((-2000000102), v_size, v_at, v_otherSize, v_other, v_tableA, v_tableB, v_tableC, v_tableD)
    else
      Option.bind (P5_roadNow v_lengths v_signs v_at v_otherSize v_other v_tableA v_tableB v_tableC v_tableD x1 x2) fun r5 =>
      some (r5.1, r5.2.1, r5.2.2.1, r5.2.2.2.1, r5.2.2.2.2.1, r5.2.2.2.2.2.1, r5.2.2.2.2.2.2.1, r5.2.2.2.2.2.2.2.1, r5.2.2.2.2.2.2.2.2)
def P5_codeOf (x0 : Int32) : Option (Int32) :=
  if x0 = 0 then
    some 76
  else
    some 82
def P5_sign (v_roads : Int32) (v_lengths : Nat → Int32) (v_signs : Nat → Int32) (x1 : Int32) (x2 : Int32) : Option (Int32) :=
  Option.bind (P5_isRoad v_roads x1) fun r1 =>
  if r1 = 0 then
    some (-2000000101)
  else
    if vx x1 6 then
    Option.bind (P5_within x2 0 ((v_lengths (Int32.toNatClampNeg x1)) - 1)) fun r4 =>
    if r4 = 0 then
      some (-2000000101)
    else
      if vx ((20 * x1) + x2) 120 then
      Option.bind (P5_codeOf (v_signs (Int32.toNatClampNeg ((20 * x1) + x2)))) fun r7 =>
      some r7
      else none
    else none
def P5_tableNow (v_lengths : Nat → Int32) (v_signs : Nat → Int32) (v_at : Nat → Int32) (x1 : Int32) (x2 : Int32) : Option (Int32 × Int32 × (Nat → Int32) × Int32 × Int32 × Int32 × Int32) :=
  Option.bind (P5_look v_lengths v_signs v_at x1) fun r1 =>
  Option.bind (P5_layTable r1.1 r1.2) fun r2 =>
  if x2 = 0 then
    some (r2.1, r1.1, r1.2, r2.1, r2.2.1, r2.2.2.1, r2.2.2.2)
  else
    if x2 = 1 then
      some (r2.2.1, r1.1, r1.2, r2.1, r2.2.1, r2.2.2.1, r2.2.2.2)
    else
      if x2 = 2 then
        some (r2.2.2.1, r1.1, r1.2, r2.1, r2.2.1, r2.2.2.1, r2.2.2.2)
      else
        some (r2.2.2.2, r1.1, r1.2, r2.1, r2.2.1, r2.2.2.1, r2.2.2.2)
def P5_table (v_roads : Int32) (v_lengths : Nat → Int32) (v_signs : Nat → Int32) (v_size : Int32) (v_at : Nat → Int32) (v_tableA : Int32) (v_tableB : Int32) (v_tableC : Int32) (v_tableD : Int32) (x1 : Int32) (x2 : Int32) : Option (Int32 × Int32 × (Nat → Int32) × Int32 × Int32 × Int32 × Int32) :=
  Option.bind (P5_isRoad v_roads x1) fun r1 =>
  if r1 = 0 then
    some ((-2000000101), v_size, v_at, v_tableA, v_tableB, v_tableC, v_tableD)
  else
    Option.bind (P5_within x2 0 3) fun r3 =>
    if r3 = 0 then
      some ((-2000000102), v_size, v_at, v_tableA, v_tableB, v_tableC, v_tableD)
    else
      Option.bind (P5_tableNow v_lengths v_signs v_at x1 x2) fun r5 =>
      some (r5.1, r5.2.1, r5.2.2.1, r5.2.2.2.1, r5.2.2.2.2.1, r5.2.2.2.2.2.1, r5.2.2.2.2.2.2)
def P5_layForm (v_lengths : Nat → Int32) (v_signs : Nat → Int32) (v_at : Nat → Int32) (x1 : Int32) : Option (Int32 × (Nat → Int32) × Int32 × Int32 × Int32 × Int32 × Int32 × Int32 × Int32 × Int32) :=
  Option.bind (P5_look v_lengths v_signs v_at x1) fun r1 =>
  Option.bind (P5_layTable r1.1 r1.2) fun r2 =>
  Option.bind (P5_common r2.2.2.1 (r2.2.2.2 - r2.1)) fun r3 =>
  Option.bind (P5_common r3 r2.2.1) fun r4 =>
  if ¬ r4 = 0 then
  if ¬ r4 = 0 then
  if ¬ r4 = 0 then
  some (r1.1, r1.2, r2.1, r2.2.1, r2.2.2.1, r2.2.2.2, r2.2.2.1 / r4, (r2.2.2.2 - r2.1) / r4, (-r2.2.1) / r4, r4)
  else none
  else none
  else none
def P5_discOf (x0 : Int32) (x1 : Int32) (x2 : Int32) : Option (Int32) :=
  some ((x1 * x1) - ((4 * x0) * x2))
def P5_formNow (v_lengths : Nat → Int32) (v_signs : Nat → Int32) (v_at : Nat → Int32) (x1 : Int32) (x2 : Int32) : Option (Int32 × Int32 × (Nat → Int32) × Int32 × Int32 × Int32 × Int32 × Int32 × Int32 × Int32 × Int32) :=
  Option.bind (P5_layForm v_lengths v_signs v_at x1) fun r1 =>
  if x2 = 0 then
    some (r1.2.2.2.2.2.2.1, r1.1, r1.2.1, r1.2.2.1, r1.2.2.2.1, r1.2.2.2.2.1, r1.2.2.2.2.2.1, r1.2.2.2.2.2.2.1, r1.2.2.2.2.2.2.2.1, r1.2.2.2.2.2.2.2.2.1, r1.2.2.2.2.2.2.2.2.2)
  else
    if x2 = 1 then
      some (r1.2.2.2.2.2.2.2.1, r1.1, r1.2.1, r1.2.2.1, r1.2.2.2.1, r1.2.2.2.2.1, r1.2.2.2.2.2.1, r1.2.2.2.2.2.2.1, r1.2.2.2.2.2.2.2.1, r1.2.2.2.2.2.2.2.2.1, r1.2.2.2.2.2.2.2.2.2)
    else
      if x2 = 2 then
        some (r1.2.2.2.2.2.2.2.2.1, r1.1, r1.2.1, r1.2.2.1, r1.2.2.2.1, r1.2.2.2.2.1, r1.2.2.2.2.2.1, r1.2.2.2.2.2.2.1, r1.2.2.2.2.2.2.2.1, r1.2.2.2.2.2.2.2.2.1, r1.2.2.2.2.2.2.2.2.2)
      else
        if x2 = 3 then
          some (r1.2.2.2.2.2.2.2.2.2, r1.1, r1.2.1, r1.2.2.1, r1.2.2.2.1, r1.2.2.2.2.1, r1.2.2.2.2.2.1, r1.2.2.2.2.2.2.1, r1.2.2.2.2.2.2.2.1, r1.2.2.2.2.2.2.2.2.1, r1.2.2.2.2.2.2.2.2.2)
        else
          Option.bind (P5_discOf r1.2.2.2.2.2.2.1 r1.2.2.2.2.2.2.2.1 r1.2.2.2.2.2.2.2.2.1) fun r6 =>
          some (r6, r1.1, r1.2.1, r1.2.2.1, r1.2.2.2.1, r1.2.2.2.2.1, r1.2.2.2.2.2.1, r1.2.2.2.2.2.2.1, r1.2.2.2.2.2.2.2.1, r1.2.2.2.2.2.2.2.2.1, r1.2.2.2.2.2.2.2.2.2)
def P5_form (v_roads : Int32) (v_lengths : Nat → Int32) (v_signs : Nat → Int32) (v_size : Int32) (v_at : Nat → Int32) (v_tableA : Int32) (v_tableB : Int32) (v_tableC : Int32) (v_tableD : Int32) (v_a : Int32) (v_b : Int32) (v_c : Int32) (v_grade : Int32) (x1 : Int32) (x2 : Int32) : Option (Int32 × Int32 × (Nat → Int32) × Int32 × Int32 × Int32 × Int32 × Int32 × Int32 × Int32 × Int32) :=
  Option.bind (P5_isRoad v_roads x1) fun r1 =>
  if r1 = 0 then
    some ((-2000000101), v_size, v_at, v_tableA, v_tableB, v_tableC, v_tableD, v_a, v_b, v_c, v_grade)
  else
    Option.bind (P5_within x2 0 4) fun r3 =>
    if r3 = 0 then
      some ((-2000000102), v_size, v_at, v_tableA, v_tableB, v_tableC, v_tableD, v_a, v_b, v_c, v_grade)
    else
      Option.bind (P5_isClosed v_lengths v_signs v_at x1) fun r5 =>
      if r5.1 = 0 then
        some ((-2000000103), r5.2.1, r5.2.2, v_tableA, v_tableB, v_tableC, v_tableD, v_a, v_b, v_c, v_grade)
      else
        Option.bind (P5_formNow v_lengths v_signs r5.2.2 x1 x2) fun r7 =>
        some (r7.1, r7.2.1, r7.2.2.1, r7.2.2.2.1, r7.2.2.2.2.1, r7.2.2.2.2.2.1, r7.2.2.2.2.2.2.1, r7.2.2.2.2.2.2.2.1, r7.2.2.2.2.2.2.2.2.1, r7.2.2.2.2.2.2.2.2.2.1, r7.2.2.2.2.2.2.2.2.2.2)
def P5_endNow (v_lengths : Nat → Int32) (v_signs : Nat → Int32) (v_at : Nat → Int32) (x1 : Int32) (x2 : Int32) : Option (Int32 × Int32 × (Nat → Int32) × Int32 × Int32 × Int32 × Int32) :=
  Option.bind (P5_look v_lengths v_signs v_at x1) fun r1 =>
  Option.bind (P5_layTable r1.1 r1.2) fun r2 =>
  if x2 = 0 then
    some (r2.1 + r2.2.1, r1.1, r1.2, r2.1, r2.2.1, r2.2.2.1, r2.2.2.2)
  else
    some (r2.2.2.1 + r2.2.2.2, r1.1, r1.2, r2.1, r2.2.1, r2.2.2.1, r2.2.2.2)
def P5_end (v_roads : Int32) (v_lengths : Nat → Int32) (v_signs : Nat → Int32) (v_size : Int32) (v_at : Nat → Int32) (v_tableA : Int32) (v_tableB : Int32) (v_tableC : Int32) (v_tableD : Int32) (x1 : Int32) (x2 : Int32) : Option (Int32 × Int32 × (Nat → Int32) × Int32 × Int32 × Int32 × Int32) :=
  Option.bind (P5_isRoad v_roads x1) fun r1 =>
  if r1 = 0 then
    some ((-2000000101), v_size, v_at, v_tableA, v_tableB, v_tableC, v_tableD)
  else
    Option.bind (P5_within x2 0 1) fun r3 =>
    if r3 = 0 then
      some ((-2000000102), v_size, v_at, v_tableA, v_tableB, v_tableC, v_tableD)
    else
      Option.bind (P5_endNow v_lengths v_signs v_at x1 x2) fun r5 =>
      some (r5.1, r5.2.1, r5.2.2.1, r5.2.2.2.1, r5.2.2.2.2.1, r5.2.2.2.2.2.1, r5.2.2.2.2.2.2)
def P5_alikeNow (v_lengths : Nat → Int32) (v_signs : Nat → Int32) (v_at : Nat → Int32) (v_other : Nat → Int32) (x1 : Int32) (x2 : Int32) : Option (Int32 × Int32 × (Nat → Int32) × Int32 × (Nat → Int32)) :=
  Option.bind (P5_look v_lengths v_signs v_at x2) fun r1 =>
  Option.bind (P5_layOther r1.1 r1.2 v_other 0 0) fun r2 =>
  Option.bind (P5_look v_lengths v_signs r1.2 x1) fun r3 =>
  Option.bind (P5_turnTo r3.1 r3.2 r2.1 r2.2) fun r4 =>
  some (r4, r3.1, r3.2, r2.1, r2.2)
def P5_alike (v_roads : Int32) (v_lengths : Nat → Int32) (v_signs : Nat → Int32) (v_size : Int32) (v_at : Nat → Int32) (v_otherSize : Int32) (v_other : Nat → Int32) (x1 : Int32) (x2 : Int32) : Option (Int32 × Int32 × (Nat → Int32) × Int32 × (Nat → Int32)) :=
  Option.bind (P5_isRoad v_roads x1) fun r1 =>
  if r1 = 0 then
    some ((-2000000101), v_size, v_at, v_otherSize, v_other)
  else
    Option.bind (P5_isRoad v_roads x2) fun r3 =>
    if r3 = 0 then
      some ((-2000000101), v_size, v_at, v_otherSize, v_other)
    else
      Option.bind (P5_alikeNow v_lengths v_signs v_at v_other x1 x2) fun r5 =>
      some (r5.1, r5.2.1, r5.2.2.1, r5.2.2.2.1, r5.2.2.2.2)
def P5_isCross_29 (v_size : Int32) (v_at : Nat → Int32) (v_otherSize : Int32) (v_other : Nat → Int32) : Nat → Int32 → Int32 → Option (Int32)
  | 0, _, _ => none
  | n + 1, x5, x6 =>
    if ¬ v_size = 0 then
    if ¬ v_otherSize = 0 then
    if vx (jrem ((x5 + v_size) - 1) v_size) 20 then
    if vx (jrem ((x6 + v_otherSize) - 1) v_otherSize) 20 then
    if (v_at (Int32.toNatClampNeg (jrem ((x5 + v_size) - 1) v_size))) = (v_other (Int32.toNatClampNeg (jrem ((x6 + v_otherSize) - 1) v_otherSize))) then
      P5_isCross_29 v_size v_at v_otherSize v_other n (jrem ((x5 + v_size) - 1) v_size) (jrem ((x6 + v_otherSize) - 1) v_otherSize)
    else
      some (jrem ((x5 + v_size) - 1) v_size)
    else none
    else none
    else none
    else none
def P5_isCross (v_size : Int32) (v_at : Nat → Int32) (v_otherSize : Int32) (v_other : Nat → Int32) (x1 : Int32) (x2 : Int32) : Option (Int32) :=
  if vx x1 20 then
  if vx x2 20 then
  if (v_at (Int32.toNatClampNeg x1)) = (v_other (Int32.toNatClampNeg x2)) then
    some 0
  else
    Option.bind (P5_isCross_29 v_size v_at v_otherSize v_other FU x1 x2) fun o9 =>
    if vx o9 20 then
    if (v_at (Int32.toNatClampNeg o9)) = (v_other (Int32.toNatClampNeg x2)) then
      some 1
    else
      some 0
    else none
  else none
  else none
def P5_crossNow_14 (v_size : Int32) (v_at : Nat → Int32) (v_otherSize : Int32) (v_other : Nat → Int32) (x2 : Int32) : Nat → Int32 → Int32 → Option (Int32)
  | 0, _, _ => none
  | n + 1, x1, x3 =>
    if v_otherSize ≤ x3 then
      some x1
    else
      Option.bind (P5_isCross v_size v_at v_otherSize v_other x2 x3) fun r3 =>
      if r3 = 0 then
        P5_crossNow_14 v_size v_at v_otherSize v_other x2 n (x1 + 0) (x3 + 1)
      else
        P5_crossNow_14 v_size v_at v_otherSize v_other x2 n (x1 + 1) (x3 + 1)
def P5_crossNow_4 (v_size : Int32) (v_at : Nat → Int32) (v_otherSize : Int32) (v_other : Nat → Int32) : Nat → Int32 → Int32 → Option (Int32)
  | 0, _, _ => none
  | n + 1, x1, x2 =>
    if v_size ≤ x2 then
      some x1
    else
      Option.bind (P5_crossNow_14 v_size v_at v_otherSize v_other x2 FU x1 0) fun o5 =>
      P5_crossNow_4 v_size v_at v_otherSize v_other n o5 (x2 + 1)
def P5_crossNow (v_size : Int32) (v_at : Nat → Int32) (v_otherSize : Int32) (v_other : Nat → Int32) : Option (Int32) :=
  Option.bind (P5_crossNow_4 v_size v_at v_otherSize v_other FU 0 0) fun o6 =>
  some o6
def P5_crossings (v_lengths : Nat → Int32) (v_signs : Nat → Int32) (v_at : Nat → Int32) (v_other : Nat → Int32) (x1 : Int32) (x2 : Int32) : Option (Int32 × Int32 × (Nat → Int32) × Int32 × (Nat → Int32)) :=
  Option.bind (P5_look v_lengths v_signs v_at x2) fun r1 =>
  Option.bind (P5_layOther r1.1 r1.2 v_other 0 0) fun r2 =>
  Option.bind (P5_look v_lengths v_signs r1.2 x1) fun r3 =>
  Option.bind (P5_crossNow r3.1 r3.2 r2.1 r2.2) fun r4 =>
  some (r4, r3.1, r3.2, r2.1, r2.2)
def P5_cross (v_roads : Int32) (v_lengths : Nat → Int32) (v_signs : Nat → Int32) (v_size : Int32) (v_at : Nat → Int32) (v_otherSize : Int32) (v_other : Nat → Int32) (x1 : Int32) (x2 : Int32) : Option (Int32 × Int32 × (Nat → Int32) × Int32 × (Nat → Int32)) :=
  Option.bind (P5_isRoad v_roads x1) fun r1 =>
  if r1 = 0 then
    some ((-2000000101), v_size, v_at, v_otherSize, v_other)
  else
    Option.bind (P5_isRoad v_roads x2) fun r3 =>
    if r3 = 0 then
      some ((-2000000101), v_size, v_at, v_otherSize, v_other)
    else
      Option.bind (P5_isClosed v_lengths v_signs v_at x1) fun r5 =>
      if r5.1 = 0 then
        some ((-2000000103), r5.2.1, r5.2.2, v_otherSize, v_other)
      else
        Option.bind (P5_isClosed v_lengths v_signs r5.2.2 x2) fun r7 =>
        if r7.1 = 0 then
          some ((-2000000103), r7.2.1, r7.2.2, v_otherSize, v_other)
        else
          Option.bind (P5_crossings v_lengths v_signs r7.2.2 v_other x1 x2) fun r9 =>
          some (r9.1, r9.2.1, r9.2.2.1, r9.2.2.2.1, r9.2.2.2.2)
def P5_put_2 (v_size : Int32) (v_at : Nat → Int32) (x1 : Int32) (x2 : Int32) : Nat → (Nat → Int32) → Int32 → Option ((Nat → Int32))
  | 0, _, _ => none
  | n + 1, v_signs, x3 =>
    if v_size ≤ x3 then
      some v_signs
    else
      if ¬ v_size = 0 then
      if vx (jrem (x3 + x2) v_size) 20 then
      if vx ((20 * x1) + x3) 120 then
      P5_put_2 v_size v_at x1 x2 n (upd v_signs (Int32.toNatClampNeg ((20 * x1) + x3)) (v_at (Int32.toNatClampNeg (jrem (x3 + x2) v_size)))) (x3 + 1)
      else none
      else none
      else none
def P5_put (v_signs : Nat → Int32) (v_size : Int32) (v_at : Nat → Int32) (x1 : Int32) (x2 : Int32) : Option ((Nat → Int32)) :=
  Option.bind (P5_put_2 v_size v_at x1 x2 FU v_signs 0) fun o5 =>
  some o5
def P5_turn (v_roads : Int32) (v_lengths : Nat → Int32) (v_signs : Nat → Int32) (v_size : Int32) (v_at : Nat → Int32) (x1 : Int32) (x2 : Int32) : Option (Int32 × (Nat → Int32) × Int32 × (Nat → Int32)) :=
  Option.bind (P5_isRoad v_roads x1) fun r1 =>
  if r1 = 0 then
    some ((-2000000101), v_signs, v_size, v_at)
  else
    if vx x1 6 then
    Option.bind (P5_within x2 0 ((v_lengths (Int32.toNatClampNeg x1)) - 1)) fun r4 =>
    if r4 = 0 then
      some ((-2000000102), v_signs, v_size, v_at)
    else
      Option.bind (P5_look v_lengths v_signs v_at x1) fun r6 =>
      Option.bind (P5_put v_signs r6.1 r6.2 x1 x2) fun r7 =>
      Option.bind (P5_periodNow r6.1 r6.2) fun r8 =>
      some (r8, r7, r6.1, r6.2)
    else none
def P5_change_70 (v_size : Int32) (v_other : Nat → Int32) (x1 : Int32) : Nat → (Nat → Int32) → Int32 → Option ((Nat → Int32))
  | 0, _, _ => none
  | n + 1, v_signs, x3 =>
    if v_size ≤ x3 then
      some v_signs
    else
      if vx x3 20 then
      if vx ((20 * x1) + x3) 120 then
      P5_change_70 v_size v_other x1 n (upd v_signs (Int32.toNatClampNeg ((20 * x1) + x3)) (v_other (Int32.toNatClampNeg x3))) (x3 + 1)
      else none
      else none
def P5_change (v_roads : Int32) (v_lengths : Nat → Int32) (v_signs : Nat → Int32) (v_size : Int32) (v_at : Nat → Int32) (v_otherSize : Int32) (v_other : Nat → Int32) (v_tableA : Int32) (v_tableB : Int32) (v_tableC : Int32) (v_tableD : Int32) (x1 : Int32) (x2 : Int32) : Option (Int32 × (Nat → Int32) × Int32 × (Nat → Int32) × Int32 × (Nat → Int32) × Int32 × Int32 × Int32 × Int32) :=
  Option.bind (P5_isRoad v_roads x1) fun r1 =>
  if r1 = 0 then
    some ((-2000000101), v_signs, v_size, v_at, v_otherSize, v_other, v_tableA, v_tableB, v_tableC, v_tableD)
  else
    Option.bind (P5_within x2 0 2) fun r3 =>
    if r3 = 0 then
      some ((-2000000102), v_signs, v_size, v_at, v_otherSize, v_other, v_tableA, v_tableB, v_tableC, v_tableD)
    else
      Option.bind (P5_look v_lengths v_signs v_at x1) fun r5 =>
      if x2 = 2 then
        Option.bind (P5_leastTurnNow r5.1 r5.2) fun r29 =>
        Option.bind (P5_put v_signs r5.1 r5.2 x1 r29) fun r30 =>
        Option.bind (P5_look v_lengths r30 r5.2 x1) fun r31 =>
        Option.bind (P5_traceNow r31.1 r31.2) fun r32 =>
        some (r32.1, r30, r31.1, r31.2, v_otherSize, v_other, r32.2.1, r32.2.2.1, r32.2.2.2.1, r32.2.2.2.2)
      else
        if x2 = 0 then
          if x2 = 1 then
            Option.bind (P5_layOther r5.1 r5.2 v_other 1 1) fun r25 =>
            Option.bind (P5_change_70 r5.1 r25.2 x1 FU v_signs 0) fun o26 =>
            Option.bind (P5_look v_lengths o26 r5.2 x1) fun r27 =>
            Option.bind (P5_traceNow r27.1 r27.2) fun r28 =>
            some (r28.1, o26, r27.1, r27.2, r25.1, r25.2, r28.2.1, r28.2.2.1, r28.2.2.2.1, r28.2.2.2.2)
          else
            Option.bind (P5_layOther r5.1 r5.2 v_other 1 0) fun r21 =>
            Option.bind (P5_change_70 r5.1 r21.2 x1 FU v_signs 0) fun o22 =>
            Option.bind (P5_look v_lengths o22 r5.2 x1) fun r23 =>
            Option.bind (P5_traceNow r23.1 r23.2) fun r24 =>
            some (r24.1, o22, r23.1, r23.2, r21.1, r21.2, r24.2.1, r24.2.2.1, r24.2.2.2.1, r24.2.2.2.2)
        else
          if x2 = 1 then
            Option.bind (P5_layOther r5.1 r5.2 v_other 0 1) fun r16 =>
            Option.bind (P5_change_70 r5.1 r16.2 x1 FU v_signs 0) fun o17 =>
            Option.bind (P5_look v_lengths o17 r5.2 x1) fun r18 =>
            Option.bind (P5_traceNow r18.1 r18.2) fun r19 =>
            some (r19.1, o17, r18.1, r18.2, r16.1, r16.2, r19.2.1, r19.2.2.1, r19.2.2.2.1, r19.2.2.2.2)
          else
            Option.bind (P5_layOther r5.1 r5.2 v_other 0 0) fun r9 =>
            Option.bind (P5_change_70 r5.1 r9.2 x1 FU v_signs 0) fun o13 =>
            Option.bind (P5_look v_lengths o13 r5.2 x1) fun r14 =>
            Option.bind (P5_traceNow r14.1 r14.2) fun r15 =>
            some (r15.1, o13, r14.1, r14.2, r9.1, r9.2, r15.2.1, r15.2.2.1, r15.2.2.2.1, r15.2.2.2.2)
def P5_addRoad_2 (v_lengths : Nat → Int32) (v_signs : Nat → Int32) (x1 : Int32) : Nat → Int32 → (Nat → Int32) → Int32 → Option (Int32 × (Nat → Int32))
  | 0, _, _, _ => none
  | n + 1, v_newLength, v_newSigns, x2 =>
    if vx x1 6 then
    if (v_lengths (Int32.toNatClampNeg x1)) ≤ x2 then
      some (v_newLength, v_newSigns)
    else
      if vx ((20 * x1) + x2) 120 then
      if vx v_newLength 20 then
      P5_addRoad_2 v_lengths v_signs x1 n (v_newLength + 1) (upd v_newSigns (Int32.toNatClampNeg v_newLength) (v_signs (Int32.toNatClampNeg ((20 * x1) + x2)))) (x2 + 1)
      else none
      else none
    else none
def P5_addRoad (v_lengths : Nat → Int32) (v_signs : Nat → Int32) (v_newLength : Int32) (v_newSigns : Nat → Int32) (x1 : Int32) : Option (Int32 × (Nat → Int32)) :=
  Option.bind (P5_addRoad_2 v_lengths v_signs x1 FU v_newLength v_newSigns 0) fun o5 =>
  some (o5.1, o5.2)
def P5_join (v_roads : Int32) (v_lengths : Nat → Int32) (v_signs : Nat → Int32) (v_newLength : Int32) (v_newSigns : Nat → Int32) (x1 : Int32) (x2 : Int32) : Option (Int32 × Int32 × (Nat → Int32) × (Nat → Int32) × Int32 × (Nat → Int32)) :=
  Option.bind (P5_isRoad v_roads x1) fun r1 =>
  if r1 = 0 then
    some ((-2000000101), v_roads, v_lengths, v_signs, v_newLength, v_newSigns)
  else
    Option.bind (P5_isRoad v_roads x2) fun r3 =>
    if r3 = 0 then
      some ((-2000000101), v_roads, v_lengths, v_signs, v_newLength, v_newSigns)
    else
      if vx x1 6 then
      if vx x2 6 then
      if ((v_lengths (Int32.toNatClampNeg x1)) + (v_lengths (Int32.toNatClampNeg x2))) ≤ 20 then
        if v_roads = 6 then
          some ((-2000000104), v_roads, v_lengths, v_signs, v_newLength, v_newSigns)
        else
          Option.bind (P5_addRoad v_lengths v_signs 0 v_newSigns x1) fun r9 =>
          Option.bind (P5_addRoad v_lengths v_signs r9.1 r9.2 x2) fun r10 =>
          Option.bind (P5_keepNew v_roads v_lengths v_signs r10.1 r10.2) fun r11 =>
          some (r11.1, r11.2.1, r11.2.2.1, r11.2.2.2, r10.1, r10.2)
      else
        some ((-2000000103), v_roads, v_lengths, v_signs, v_newLength, v_newSigns)
      else none
      else none
def P5_times_58 (v_lengths : Nat → Int32) (v_signs : Nat → Int32) (x1 : Int32) (x2 : Int32) : Nat → Int32 → (Nat → Int32) → Int32 → Option (Int32 × (Nat → Int32))
  | 0, _, _, _ => none
  | n + 1, v_newLength, v_newSigns, x3 =>
    if x2 ≤ x3 then
      some (v_newLength, v_newSigns)
    else
      Option.bind (P5_addRoad v_lengths v_signs v_newLength v_newSigns x1) fun r9 =>
      P5_times_58 v_lengths v_signs x1 x2 n r9.1 r9.2 (x3 + 1)
def P5_times (v_roads : Int32) (v_lengths : Nat → Int32) (v_signs : Nat → Int32) (v_newLength : Int32) (v_newSigns : Nat → Int32) (x1 : Int32) (x2 : Int32) : Option (Int32 × Int32 × (Nat → Int32) × (Nat → Int32) × Int32 × (Nat → Int32)) :=
  Option.bind (P5_isRoad v_roads x1) fun r1 =>
  if r1 = 0 then
    some ((-2000000101), v_roads, v_lengths, v_signs, v_newLength, v_newSigns)
  else
    Option.bind (P5_within x2 2 5) fun r3 =>
    if r3 = 0 then
      some ((-2000000102), v_roads, v_lengths, v_signs, v_newLength, v_newSigns)
    else
      if vx x1 6 then
      if (x2 * (v_lengths (Int32.toNatClampNeg x1))) ≤ 20 then
        if v_roads = 6 then
          some ((-2000000104), v_roads, v_lengths, v_signs, v_newLength, v_newSigns)
        else
          Option.bind (P5_times_58 v_lengths v_signs x1 x2 FU 0 v_newSigns 0) fun o10 =>
          Option.bind (P5_keepNew v_roads v_lengths v_signs o10.1 o10.2) fun r11 =>
          some (r11.1, r11.2.1, r11.2.2.1, r11.2.2.2, o10.1, o10.2)
      else
        some ((-2000000103), v_roads, v_lengths, v_signs, v_newLength, v_newSigns)
      else none
def P5_layCut_13  : Nat → Int32 → (Nat → Int32) → Int32 → Int32 → Int32 → Option (Int32 × (Nat → Int32) × Int32)
  | 0, _, _, _, _, _ => none
  | n + 1, v_newLength, v_newSigns, x3, x4, x5 =>
    if x3 = x4 then
      some (v_newLength, v_newSigns, x5)
    else
      if x3 ≤ x4 then
        if 20 ≤ x5 then
          P5_layCut_13 n v_newLength v_newSigns (x3 - 0) (x4 - (x3 - 0)) (x5 + 1)
        else
          if vx x5 20 then
          P5_layCut_13 n (v_newLength + 1) (upd v_newSigns (Int32.toNatClampNeg x5) 0) (x3 - 0) (x4 - (x3 - 0)) (x5 + 1)
          else none
      else
        if 20 ≤ x5 then
          P5_layCut_13 n v_newLength v_newSigns (x3 - x4) (x4 - 0) (x5 + 1)
        else
          if vx x5 20 then
          P5_layCut_13 n (v_newLength + 1) (upd v_newSigns (Int32.toNatClampNeg x5) 1) (x3 - x4) (x4 - 0) (x5 + 1)
          else none
def P5_layCut (v_newSigns : Nat → Int32) (x1 : Int32) (x2 : Int32) : Option (Int32 × Int32 × (Nat → Int32)) :=
  Option.bind (P5_layCut_13 FU 0 v_newSigns x1 x2 0) fun o7 =>
  some (o7.2.2, o7.1, o7.2.1)
def P5_cut (v_roads : Int32) (v_lengths : Nat → Int32) (v_signs : Nat → Int32) (v_newLength : Int32) (v_newSigns : Nat → Int32) (x1 : Int32) (x2 : Int32) : Option (Int32 × Int32 × (Nat → Int32) × (Nat → Int32) × Int32 × (Nat → Int32)) :=
  Option.bind (P5_within x1 1 99) fun r1 =>
  if r1 = 0 then
    some ((-2000000102), v_roads, v_lengths, v_signs, v_newLength, v_newSigns)
  else
    Option.bind (P5_within x2 1 99) fun r3 =>
    if r3 = 0 then
      some ((-2000000102), v_roads, v_lengths, v_signs, v_newLength, v_newSigns)
    else
      Option.bind (P5_common x1 x2) fun r5 =>
      if 1 < r5 then
        some ((-2000000102), v_roads, v_lengths, v_signs, v_newLength, v_newSigns)
      else
        if x1 = x2 then
          some ((-2000000102), v_roads, v_lengths, v_signs, v_newLength, v_newSigns)
        else
          Option.bind (P5_layCut v_newSigns x1 x2) fun r8 =>
          if r8.1 ≤ 20 then
            if v_roads = 6 then
              some ((-2000000104), v_roads, v_lengths, v_signs, r8.2.1, r8.2.2)
            else
              Option.bind (P5_keepNew v_roads v_lengths v_signs r8.2.1 r8.2.2) fun r11 =>
              some (r11.1, r11.2.1, r11.2.2.1, r11.2.2.2, r8.2.1, r8.2.2)
          else
            some ((-2000000103), v_roads, v_lengths, v_signs, r8.2.1, r8.2.2)
def P5_drop (v_roads : Int32) : Option (Int32 × Int32) :=
  if v_roads = 0 then
    some ((-2000000103), v_roads)
  else
    some (v_roads - 1, v_roads - 1)
def P5_isSquare_2 (x0 : Int32) : Nat → Int32 → Option (Int32)
  | 0, _ => none
  | n + 1, x1 =>
    if x0 ≤ (x1 * x1) then
      some x1
    else
      P5_isSquare_2 x0 n (x1 + 1)
def P5_isSquare (x0 : Int32) : Option (Int32) :=
  Option.bind (P5_isSquare_2 x0 FU 0) fun o2 =>
  if (o2 * o2) = x0 then
    some 1
  else
    some 0
def P5_isRiver (v_disc : Int32) : Option (Int32) :=
  if v_disc ≤ 0 then
    some 0
  else
    some 1
def P5_layMiddle_11 (x1 : Int32) (x2 : Int32) : Nat → Int32 → (Nat → Int32) → (Nat → Int32) → (Nat → Int32) → Int32 → Option (Int32 × (Nat → Int32) × (Nat → Int32) × (Nat → Int32))
  | 0, _, _, _, _, _ => none
  | n + 1, v_forms, v_formA, v_formB, v_formC, x3 =>
    if x2 < (4 * x3) then
      some (v_forms, v_formA, v_formB, v_formC)
    else
      if ¬ (4 * x3) = 0 then
      if (jrem x2 (4 * x3)) = 0 then
        Option.bind (P5_common x3 x1) fun r4 =>
        if ¬ (4 * x3) = 0 then
        Option.bind (P5_common r4 (x2 / (4 * x3))) fun r6 =>
        if r6 = 1 then
          if vx v_forms 1200 then
          if vx v_forms 1200 then
          if ¬ (4 * x3) = 0 then
          if vx v_forms 1200 then
          P5_layMiddle_11 x1 x2 n (v_forms + 1) (upd v_formA (Int32.toNatClampNeg v_forms) x3) (upd v_formB (Int32.toNatClampNeg v_forms) x1) (upd v_formC (Int32.toNatClampNeg v_forms) ((-x2) / (4 * x3))) (x3 + 1)
          else none
          else none
          else none
          else none
        else
          P5_layMiddle_11 x1 x2 n v_forms v_formA v_formB v_formC (x3 + 1)
        else none
      else
        P5_layMiddle_11 x1 x2 n v_forms v_formA v_formB v_formC (x3 + 1)
      else none
def P5_layMiddle (v_disc : Int32) (v_forms : Int32) (v_formA : Nat → Int32) (v_formB : Nat → Int32) (v_formC : Nat → Int32) (x1 : Int32) : Option (Int32 × (Nat → Int32) × (Nat → Int32) × (Nat → Int32)) :=
  Option.bind (P5_layMiddle_11 x1 (v_disc - (x1 * x1)) FU v_forms v_formA v_formB v_formC 1) fun o12 =>
  some (o12.1, o12.2.1, o12.2.2.1, o12.2.2.2)
def P5_numberOf_3 (v_forms : Int32) (v_formA : Nat → Int32) (v_formB : Nat → Int32) (v_formC : Nat → Int32) (x1 : Int32) (x2 : Int32) (x3 : Int32) : Nat → Int32 → Option (Int32)
  | 0, _ => none
  | n + 1, x4 =>
    if v_forms ≤ x4 then
      some x4
    else
      if vx x4 1200 then
      if (v_formA (Int32.toNatClampNeg x4)) = x1 then
        if vx x4 1200 then
        if (v_formB (Int32.toNatClampNeg x4)) = x2 then
          if vx x4 1200 then
          if (v_formC (Int32.toNatClampNeg x4)) = x3 then
            some x4
          else
            P5_numberOf_3 v_forms v_formA v_formB v_formC x1 x2 x3 n (x4 + 1)
          else none
        else
          P5_numberOf_3 v_forms v_formA v_formB v_formC x1 x2 x3 n (x4 + 1)
        else none
      else
        P5_numberOf_3 v_forms v_formA v_formB v_formC x1 x2 x3 n (x4 + 1)
      else none
def P5_numberOf (v_forms : Int32) (v_formA : Nat → Int32) (v_formB : Nat → Int32) (v_formC : Nat → Int32) (x1 : Int32) (x2 : Int32) (x3 : Int32) : Option (Int32) :=
  Option.bind (P5_numberOf_3 v_forms v_formA v_formB v_formC x1 x2 x3 FU 0) fun o8 =>
  if v_forms ≤ o8 then
    some (-2000000001)
  else
    some o8
def P5_isLeft (v_formA : Nat → Int32) (v_formB : Nat → Int32) (v_formC : Nat → Int32) (x1 : Int32) : Option (Int32) :=
  if vx x1 1200 then
  if vx x1 1200 then
  if vx x1 1200 then
  if (((v_formA (Int32.toNatClampNeg x1)) + (v_formB (Int32.toNatClampNeg x1))) + (v_formC (Int32.toNatClampNeg x1))) ≤ 0 then
    some 0
  else
    some 1
  else none
  else none
  else none
def P5_findNext (v_forms : Int32) (v_formA : Nat → Int32) (v_formB : Nat → Int32) (v_formC : Nat → Int32) (x1 : Int32) : Option (Int32) :=
  if vx x1 1200 then
  if vx x1 1200 then
  if vx x1 1200 then
  Option.bind (P5_isLeft v_formA v_formB v_formC x1) fun r4 =>
  if r4 = 0 then
    if vx x1 1200 then
    if vx x1 1200 then
    if vx x1 1200 then
    Option.bind (P5_numberOf v_forms v_formA v_formB v_formC (v_formA (Int32.toNatClampNeg x1)) ((v_formB (Int32.toNatClampNeg x1)) + (2 * (v_formA (Int32.toNatClampNeg x1)))) (((v_formA (Int32.toNatClampNeg x1)) + (v_formB (Int32.toNatClampNeg x1))) + (v_formC (Int32.toNatClampNeg x1)))) fun r9 =>
    some r9
    else none
    else none
    else none
  else
    if vx x1 1200 then
    if vx x1 1200 then
    if vx x1 1200 then
    Option.bind (P5_numberOf v_forms v_formA v_formB v_formC (((v_formA (Int32.toNatClampNeg x1)) + (v_formB (Int32.toNatClampNeg x1))) + (v_formC (Int32.toNatClampNeg x1))) ((v_formB (Int32.toNatClampNeg x1)) + (2 * (v_formC (Int32.toNatClampNeg x1)))) (v_formC (Int32.toNatClampNeg x1))) fun r13 =>
    some r13
    else none
    else none
    else none
  else none
  else none
  else none
def P5_layCycles_2 (v_forms : Int32) (v_formA : Nat → Int32) (v_formB : Nat → Int32) (v_formC : Nat → Int32) : Nat → (Nat → Int32) → (Nat → Int32) → Int32 → Option ((Nat → Int32) × (Nat → Int32))
  | 0, _, _, _ => none
  | n + 1, v_nextOf, v_cycleOf, x1 =>
    if v_forms ≤ x1 then
      some (v_nextOf, v_cycleOf)
    else
      Option.bind (P5_findNext v_forms v_formA v_formB v_formC x1) fun r2 =>
      if vx x1 1200 then
      if vx x1 1200 then
      P5_layCycles_2 v_forms v_formA v_formB v_formC n (upd v_nextOf (Int32.toNatClampNeg x1) r2) (upd v_cycleOf (Int32.toNatClampNeg x1) (-2000000001)) (x1 + 1)
      else none
      else none
def P5_layCycles_73 (v_nextOf : Nat → Int32) (v_cycles : Int32) : Nat → (Nat → Int32) → Int32 → Option ((Nat → Int32))
  | 0, _, _ => none
  | n + 1, v_cycleOf, x2 =>
    if vx x2 1200 then
    if (v_cycleOf (Int32.toNatClampNeg x2)) = (-2000000001) then
      if vx x2 1200 then
      if vx x2 1200 then
      P5_layCycles_73 v_nextOf v_cycles n (upd v_cycleOf (Int32.toNatClampNeg x2) v_cycles) (v_nextOf (Int32.toNatClampNeg x2))
      else none
      else none
    else
      some v_cycleOf
    else none
def P5_layCycles_42 (v_forms : Int32) (v_nextOf : Nat → Int32) : Nat → (Nat → Int32) → Int32 → (Nat → Int32) → Int32 → Option ((Nat → Int32) × Int32 × (Nat → Int32))
  | 0, _, _, _, _ => none
  | n + 1, v_cycleOf, v_cycles, v_firstOf, x1 =>
    if v_forms ≤ x1 then
      some (v_cycleOf, v_cycles, v_firstOf)
    else
      if vx x1 1200 then
      if (v_cycleOf (Int32.toNatClampNeg x1)) = (-2000000001) then
        if vx v_cycles 1200 then
        Option.bind (P5_layCycles_73 v_nextOf v_cycles FU v_cycleOf x1) fun o14 =>
        P5_layCycles_42 v_forms v_nextOf n o14 (v_cycles + 1) (upd v_firstOf (Int32.toNatClampNeg v_cycles) x1) (x1 + 1)
        else none
      else
        P5_layCycles_42 v_forms v_nextOf n v_cycleOf v_cycles v_firstOf (x1 + 1)
      else none
def P5_layCycles (v_forms : Int32) (v_formA : Nat → Int32) (v_formB : Nat → Int32) (v_formC : Nat → Int32) (v_nextOf : Nat → Int32) (v_cycleOf : Nat → Int32) (v_firstOf : Nat → Int32) : Option ((Nat → Int32) × (Nat → Int32) × Int32 × (Nat → Int32)) :=
  Option.bind (P5_layCycles_2 v_forms v_formA v_formB v_formC FU v_nextOf v_cycleOf 0) fun o5 =>
  Option.bind (P5_layCycles_42 v_forms o5.1 FU o5.2 0 v_firstOf 0) fun o15 =>
  some (o5.1, o15.1, o15.2.1, o15.2.2)
def P5_river_41 (v_disc : Int32) (x1 : Int32) : Nat → Int32 → (Nat → Int32) → (Nat → Int32) → (Nat → Int32) → Int32 → Option (Int32 × (Nat → Int32) × (Nat → Int32) × (Nat → Int32))
  | 0, _, _, _, _, _ => none
  | n + 1, v_forms, v_formA, v_formB, v_formC, x2 =>
    if 30 < x2 then
      some (v_forms, v_formA, v_formB, v_formC)
    else
      if x1 ≤ (x2 * x2) then
        P5_river_41 v_disc x1 n v_forms v_formA v_formB v_formC (x2 + 1)
      else
        if (jrem (x1 - (x2 * x2)) 4) = 0 then
          Option.bind (P5_layMiddle v_disc v_forms v_formA v_formB v_formC x2) fun r9 =>
          P5_river_41 v_disc x1 n r9.1 r9.2.1 r9.2.2.1 r9.2.2.2 (x2 + 1)
        else
          P5_river_41 v_disc x1 n v_forms v_formA v_formB v_formC (x2 + 1)
def P5_river (v_disc : Int32) (v_forms : Int32) (v_formA : Nat → Int32) (v_formB : Nat → Int32) (v_formC : Nat → Int32) (v_nextOf : Nat → Int32) (v_cycleOf : Nat → Int32) (v_cycles : Int32) (v_firstOf : Nat → Int32) (x1 : Int32) : Option (Int32 × Int32 × Int32 × (Nat → Int32) × (Nat → Int32) × (Nat → Int32) × (Nat → Int32) × (Nat → Int32) × Int32 × (Nat → Int32)) :=
  Option.bind (P5_within x1 5 900) fun r1 =>
  if r1 = 0 then
    some ((-2000000102), v_disc, v_forms, v_formA, v_formB, v_formC, v_nextOf, v_cycleOf, v_cycles, v_firstOf)
  else
    if 1 < (jrem x1 4) then
      some ((-2000000102), v_disc, v_forms, v_formA, v_formB, v_formC, v_nextOf, v_cycleOf, v_cycles, v_firstOf)
    else
      Option.bind (P5_isSquare x1) fun r4 =>
      if r4 = 0 then
        Option.bind (P5_river_41 x1 x1 FU 0 v_formA v_formB v_formC (-30)) fun o10 =>
        Option.bind (P5_layCycles o10.1 o10.2.1 o10.2.2.1 o10.2.2.2 v_nextOf v_cycleOf v_firstOf) fun r11 =>
        some (o10.1, x1, o10.1, o10.2.1, o10.2.2.1, o10.2.2.2, r11.1, r11.2.1, r11.2.2.1, r11.2.2.2)
      else
        some ((-2000000102), v_disc, v_forms, v_formA, v_formB, v_formC, v_nextOf, v_cycleOf, v_cycles, v_firstOf)
def P5_simpleNow (v_forms : Int32) (v_formA : Nat → Int32) (v_formB : Nat → Int32) (v_formC : Nat → Int32) (v_nextOf : Nat → Int32) (v_cycleOf : Nat → Int32) (x1 : Int32) (x2 : Int32) : Option (Int32) :=
  if x2 = 0 then
    if vx x1 1200 then
    some (v_formA (Int32.toNatClampNeg x1))
    else none
  else
    if x2 = 1 then
      if vx x1 1200 then
      some (v_formB (Int32.toNatClampNeg x1))
      else none
    else
      if x2 = 2 then
        if vx x1 1200 then
        some (v_formC (Int32.toNatClampNeg x1))
        else none
      else
        if x2 = 3 then
          if vx x1 1200 then
          some (v_cycleOf (Int32.toNatClampNeg x1))
          else none
        else
          if x2 = 4 then
            if vx x1 1200 then
            some (v_nextOf (Int32.toNatClampNeg x1))
            else none
          else
            if x2 = 5 then
              Option.bind (P5_isLeft v_formA v_formB v_formC x1) fun r12 =>
              if r12 = 0 then
                Option.bind (P5_codeOf 1) fun r14 =>
                some r14
              else
                Option.bind (P5_codeOf 0) fun r15 =>
                some r15
            else
              if x2 = 6 then
                if vx x1 1200 then
                if vx x1 1200 then
                if vx x1 1200 then
                Option.bind (P5_numberOf v_forms v_formA v_formB v_formC (v_formA (Int32.toNatClampNeg x1)) (-(v_formB (Int32.toNatClampNeg x1))) (v_formC (Int32.toNatClampNeg x1))) fun r20 =>
                some r20
                else none
                else none
                else none
              else
                if vx x1 1200 then
                if vx x1 1200 then
                if vx x1 1200 then
                Option.bind (P5_numberOf v_forms v_formA v_formB v_formC (-(v_formC (Int32.toNatClampNeg x1))) (-(v_formB (Int32.toNatClampNeg x1))) (-(v_formA (Int32.toNatClampNeg x1)))) fun r24 =>
                some r24
                else none
                else none
                else none
def P5_simple (v_forms : Int32) (v_formA : Nat → Int32) (v_formB : Nat → Int32) (v_formC : Nat → Int32) (v_nextOf : Nat → Int32) (v_cycleOf : Nat → Int32) (x1 : Int32) (x2 : Int32) : Option (Int32) :=
  Option.bind (P5_within x1 0 (v_forms - 1)) fun r1 =>
  if r1 = 0 then
    some (-2000000101)
  else
    Option.bind (P5_within x2 0 7) fun r3 =>
    if r3 = 0 then
      some (-2000000102)
    else
      Option.bind (P5_simpleNow v_forms v_formA v_formB v_formC v_nextOf v_cycleOf x1 x2) fun r5 =>
      some r5
def P5_isCycle (v_cycles : Int32) (x1 : Int32) : Option (Int32) :=
  Option.bind (P5_within x1 0 (v_cycles - 1)) fun r1 =>
  if r1 = 0 ∨ r1 = 1 then some r1 else none
def P5_sizeOf_4 (v_forms : Int32) (v_cycleOf : Nat → Int32) (x1 : Int32) : Nat → Int32 → Int32 → Option (Int32)
  | 0, _, _ => none
  | n + 1, x2, x3 =>
    if v_forms ≤ x3 then
      some x2
    else
      if vx x3 1200 then
      if (v_cycleOf (Int32.toNatClampNeg x3)) = x1 then
        P5_sizeOf_4 v_forms v_cycleOf x1 n (x2 + 1) (x3 + 1)
      else
        P5_sizeOf_4 v_forms v_cycleOf x1 n (x2 + 0) (x3 + 1)
      else none
def P5_sizeOf (v_forms : Int32) (v_cycleOf : Nat → Int32) (x1 : Int32) : Option (Int32) :=
  Option.bind (P5_sizeOf_4 v_forms v_cycleOf x1 FU 0 0) fun o4 =>
  some o4
def P5_leftsOf_4 (v_forms : Int32) (v_formA : Nat → Int32) (v_formB : Nat → Int32) (v_formC : Nat → Int32) (v_cycleOf : Nat → Int32) (x1 : Int32) : Nat → Int32 → Int32 → Option (Int32)
  | 0, _, _ => none
  | n + 1, x2, x3 =>
    if v_forms ≤ x3 then
      some x2
    else
      if vx x3 1200 then
      if (v_cycleOf (Int32.toNatClampNeg x3)) = x1 then
        Option.bind (P5_isLeft v_formA v_formB v_formC x3) fun r4 =>
        if r4 = 0 then
          P5_leftsOf_4 v_forms v_formA v_formB v_formC v_cycleOf x1 n (x2 + 0) (x3 + 1)
        else
          P5_leftsOf_4 v_forms v_formA v_formB v_formC v_cycleOf x1 n (x2 + 1) (x3 + 1)
      else
        P5_leftsOf_4 v_forms v_formA v_formB v_formC v_cycleOf x1 n (x2 + 0) (x3 + 1)
      else none
def P5_leftsOf (v_forms : Int32) (v_formA : Nat → Int32) (v_formB : Nat → Int32) (v_formC : Nat → Int32) (v_cycleOf : Nat → Int32) (x1 : Int32) : Option (Int32) :=
  Option.bind (P5_leftsOf_4 v_forms v_formA v_formB v_formC v_cycleOf x1 FU 0 0) fun o6 =>
  some o6
def P5_cycleNow (v_forms : Int32) (v_formA : Nat → Int32) (v_formB : Nat → Int32) (v_formC : Nat → Int32) (v_nextOf : Nat → Int32) (v_cycleOf : Nat → Int32) (v_firstOf : Nat → Int32) (x1 : Int32) (x2 : Int32) : Option (Int32) :=
  if vx x1 1200 then
  if x2 = 0 then
    some (v_firstOf (Int32.toNatClampNeg x1))
  else
    if x2 = 1 then
      Option.bind (P5_sizeOf v_forms v_cycleOf x1) fun r4 =>
      some r4
    else
      if x2 = 2 then
        Option.bind (P5_leftsOf v_forms v_formA v_formB v_formC v_cycleOf x1) fun r6 =>
        some r6
      else
        if x2 = 3 then
          Option.bind (P5_simpleNow v_forms v_formA v_formB v_formC v_nextOf v_cycleOf (v_firstOf (Int32.toNatClampNeg x1)) 6) fun r8 =>
          if vx r8 1200 then
          some (v_cycleOf (Int32.toNatClampNeg r8))
          else none
        else
          Option.bind (P5_simpleNow v_forms v_formA v_formB v_formC v_nextOf v_cycleOf (v_firstOf (Int32.toNatClampNeg x1)) 7) fun r10 =>
          if vx r10 1200 then
          some (v_cycleOf (Int32.toNatClampNeg r10))
          else none
  else none
def P5_cycle (v_forms : Int32) (v_formA : Nat → Int32) (v_formB : Nat → Int32) (v_formC : Nat → Int32) (v_nextOf : Nat → Int32) (v_cycleOf : Nat → Int32) (v_cycles : Int32) (v_firstOf : Nat → Int32) (x1 : Int32) (x2 : Int32) : Option (Int32) :=
  Option.bind (P5_isCycle v_cycles x1) fun r1 =>
  if r1 = 0 then
    some (-2000000101)
  else
    Option.bind (P5_within x2 0 4) fun r3 =>
    if r3 = 0 then
      some (-2000000102)
    else
      Option.bind (P5_cycleNow v_forms v_formA v_formB v_formC v_nextOf v_cycleOf v_firstOf x1 x2) fun r5 =>
      some r5
def P5_formAt_10 (v_nextOf : Nat → Int32) (x2 : Int32) : Nat → Int32 → Int32 → Option (Int32)
  | 0, _, _ => none
  | n + 1, x3, x4 =>
    if x2 ≤ x4 then
      some x3
    else
      if vx x3 1200 then
      P5_formAt_10 v_nextOf x2 n (v_nextOf (Int32.toNatClampNeg x3)) (x4 + 1)
      else none
def P5_formAt (v_nextOf : Nat → Int32) (v_firstOf : Nat → Int32) (x1 : Int32) (x2 : Int32) : Option (Int32) :=
  if vx x1 1200 then
  Option.bind (P5_formAt_10 v_nextOf x2 FU (v_firstOf (Int32.toNatClampNeg x1)) 0) fun o4 =>
  some o4
  else none
def P5_step (v_forms : Int32) (v_formA : Nat → Int32) (v_formB : Nat → Int32) (v_formC : Nat → Int32) (v_nextOf : Nat → Int32) (v_cycleOf : Nat → Int32) (v_cycles : Int32) (v_firstOf : Nat → Int32) (x1 : Int32) (x2 : Int32) : Option (Int32) :=
  Option.bind (P5_isCycle v_cycles x1) fun r1 =>
  if r1 = 0 then
    some (-2000000101)
  else
    Option.bind (P5_sizeOf v_forms v_cycleOf x1) fun r3 =>
    Option.bind (P5_within x2 0 (r3 - 1)) fun r4 =>
    if r4 = 0 then
      some (-2000000101)
    else
      Option.bind (P5_formAt v_nextOf v_firstOf x1 x2) fun r6 =>
      Option.bind (P5_isLeft v_formA v_formB v_formC r6) fun r7 =>
      if r7 = 0 then
        Option.bind (P5_codeOf 1) fun r9 =>
        some r9
      else
        Option.bind (P5_codeOf 0) fun r10 =>
        some r10
def P5_traceOf_19 (v_formA : Nat → Int32) (v_formB : Nat → Int32) (v_formC : Nat → Int32) (v_nextOf : Nat → Int32) (v_firstOf : Nat → Int32) (x1 : Int32) (x2 : Int32) : Nat → Int32 → Int32 → Int32 → Int32 → Int32 → Option (Int32 × Int32)
  | 0, _, _, _, _, _ => none
  | n + 1, x3, x4, x5, x6, x7 =>
    Option.bind (P5_isLeft v_formA v_formB v_formC x7) fun r2 =>
    if r2 = 0 then
      if ¬ x2 = 0 then
      if ¬ x2 = 0 then
      if vx x7 1200 then
      if vx x1 1200 then
      if (v_nextOf (Int32.toNatClampNeg x7)) = (v_firstOf (Int32.toNatClampNeg x1)) then
        some (x3, jrem (x5 + x6) x2)
      else
        P5_traceOf_19 v_formA v_formB v_formC v_nextOf v_firstOf x1 x2 n x3 (jrem (x3 + x4) x2) x5 (jrem (x5 + x6) x2) (v_nextOf (Int32.toNatClampNeg x7))
      else none
      else none
      else none
      else none
    else
      if ¬ x2 = 0 then
      if ¬ x2 = 0 then
      if vx x7 1200 then
      if vx x1 1200 then
      if (v_nextOf (Int32.toNatClampNeg x7)) = (v_firstOf (Int32.toNatClampNeg x1)) then
        some (jrem (x3 + x4) x2, x6)
      else
        P5_traceOf_19 v_formA v_formB v_formC v_nextOf v_firstOf x1 x2 n (jrem (x3 + x4) x2) x4 (jrem (x5 + x6) x2) x6 (v_nextOf (Int32.toNatClampNeg x7))
      else none
      else none
      else none
      else none
def P5_traceOf (v_formA : Nat → Int32) (v_formB : Nat → Int32) (v_formC : Nat → Int32) (v_nextOf : Nat → Int32) (v_firstOf : Nat → Int32) (x1 : Int32) (x2 : Int32) : Option (Int32) :=
  if vx x1 1200 then
  Option.bind (P5_traceOf_19 v_formA v_formB v_formC v_nextOf v_firstOf x1 x2 FU 1 0 0 1 (v_firstOf (Int32.toNatClampNeg x1))) fun o14 =>
  if ¬ x2 = 0 then
  some (jrem (o14.1 + o14.2) x2)
  else none
  else none
def P5_trace (v_formA : Nat → Int32) (v_formB : Nat → Int32) (v_formC : Nat → Int32) (v_nextOf : Nat → Int32) (v_cycles : Int32) (v_firstOf : Nat → Int32) (x1 : Int32) (x2 : Int32) : Option (Int32) :=
  Option.bind (P5_isCycle v_cycles x1) fun r1 =>
  if r1 = 0 then
    some (-2000000101)
  else
    Option.bind (P5_within x2 2 1000) fun r3 =>
    if r3 = 0 then
      some (-2000000102)
    else
      Option.bind (P5_traceOf v_formA v_formB v_formC v_nextOf v_firstOf x1 x2) fun r5 =>
      some r5
def P5_flowStep (v_flowA : Int32) (v_flowB : Int32) (v_flowC : Int32) : Option (Int32 × Int32 × Int32) :=
  if v_flowA ≤ 0 then
    if v_flowB ≤ 0 then
      Option.bind (P5_abs v_flowA) fun r3 =>
      Option.bind (P5_abs v_flowC) fun r4 =>
      if r3 < r4 then
        some (v_flowA, v_flowB + ((2 * (-1)) * v_flowA), (v_flowA + v_flowC) + ((-1) * v_flowB))
      else
        some ((v_flowA + v_flowC) + ((-1) * v_flowB), v_flowB + ((2 * (-1)) * v_flowC), v_flowC)
    else
      Option.bind (P5_abs v_flowA) fun r6 =>
      Option.bind (P5_abs v_flowC) fun r7 =>
      if r6 < r7 then
        some (v_flowA, v_flowB + ((2 * 1) * v_flowA), (v_flowA + v_flowC) + (1 * v_flowB))
      else
        some ((v_flowA + v_flowC) + (1 * v_flowB), v_flowB + ((2 * 1) * v_flowC), v_flowC)
  else
    if v_flowB ≤ 0 then
      Option.bind (P5_abs v_flowA) fun r10 =>
      Option.bind (P5_abs v_flowC) fun r11 =>
      if r10 < r11 then
        some (v_flowA, v_flowB + ((2 * 1) * v_flowA), (v_flowA + v_flowC) + (1 * v_flowB))
      else
        some ((v_flowA + v_flowC) + (1 * v_flowB), v_flowB + ((2 * 1) * v_flowC), v_flowC)
    else
      Option.bind (P5_abs v_flowA) fun r13 =>
      Option.bind (P5_abs v_flowC) fun r14 =>
      if r13 < r14 then
        some (v_flowA, v_flowB + ((2 * (-1)) * v_flowA), (v_flowA + v_flowC) + ((-1) * v_flowB))
      else
        some ((v_flowA + v_flowC) + ((-1) * v_flowB), v_flowB + ((2 * (-1)) * v_flowC), v_flowC)
def P5_flowNow_2  : Nat → Int32 → Int32 → Int32 → Int32 → Option (Int32 × Int32 × Int32 × Int32)
  | 0, _, _, _, _ => none
  | n + 1, v_flowA, v_flowB, v_flowC, x2 =>
    if v_flowA ≤ 0 then
      if v_flowC ≤ 0 then
        Option.bind (P5_flowStep v_flowA v_flowB v_flowC) fun r3 =>
        P5_flowNow_2 n r3.1 r3.2.1 r3.2.2 (x2 + 1)
      else
        some (v_flowA, v_flowB, v_flowC, x2)
    else
      if v_flowC ≤ 0 then
        some (v_flowA, v_flowB, v_flowC, x2)
      else
        Option.bind (P5_flowStep v_flowA v_flowB v_flowC) fun r5 =>
        P5_flowNow_2 n r5.1 r5.2.1 r5.2.2 (x2 + 1)
def P5_flowNow (v_forms : Int32) (v_formA : Nat → Int32) (v_formB : Nat → Int32) (v_formC : Nat → Int32) (v_flowA : Int32) (v_flowB : Int32) (v_flowC : Int32) (x1 : Int32) : Option (Int32 × Int32 × Int32 × Int32) :=
  Option.bind (P5_flowNow_2 FU v_flowA v_flowB v_flowC 0) fun o6 =>
  if x1 = 0 then
    if o6.1 ≤ 0 then
      Option.bind (P5_numberOf v_forms v_formA v_formB v_formC o6.2.2.1 (-o6.2.1) o6.1) fun r9 =>
      some (r9, o6.1, o6.2.1, o6.2.2.1)
    else
      Option.bind (P5_numberOf v_forms v_formA v_formB v_formC o6.1 o6.2.1 o6.2.2.1) fun r10 =>
      some (r10, o6.1, o6.2.1, o6.2.2.1)
  else
    some (o6.2.2.2, o6.1, o6.2.1, o6.2.2.1)
def P5_flow (v_disc : Int32) (v_forms : Int32) (v_formA : Nat → Int32) (v_formB : Nat → Int32) (v_formC : Nat → Int32) (v_flowA : Int32) (v_flowB : Int32) (v_flowC : Int32) (x1 : Int32) (x2 : Int32) (x3 : Int32) (x4 : Int32) : Option (Int32 × Int32 × Int32 × Int32) :=
  Option.bind (P5_isRiver v_disc) fun r1 =>
  if r1 = 0 then
    some ((-2000000103), v_flowA, v_flowB, v_flowC)
  else
    Option.bind (P5_within x1 (-999) 999) fun r3 =>
    if r3 = 0 then
      some ((-2000000102), v_flowA, v_flowB, v_flowC)
    else
      Option.bind (P5_within x2 (-999) 999) fun r5 =>
      if r5 = 0 then
        some ((-2000000102), v_flowA, v_flowB, v_flowC)
      else
        Option.bind (P5_within x3 (-999) 999) fun r7 =>
        if r7 = 0 then
          some ((-2000000102), v_flowA, v_flowB, v_flowC)
        else
          Option.bind (P5_discOf x1 x2 x3) fun r9 =>
          if r9 = v_disc then
            Option.bind (P5_common x1 x2) fun r11 =>
            Option.bind (P5_common r11 x3) fun r12 =>
            if r12 ≤ 1 then
              Option.bind (P5_flowNow v_forms v_formA v_formB v_formC x1 x2 x3 x4) fun r14 =>
              some (r14.1, r14.2.1, r14.2.2.1, r14.2.2.2)
            else
              some ((-2000000102), v_flowA, v_flowB, v_flowC)
          else
            some ((-2000000102), v_flowA, v_flowB, v_flowC)
def P5_lay_45 (v_formA : Nat → Int32) (v_formB : Nat → Int32) (v_formC : Nat → Int32) (v_nextOf : Nat → Int32) (v_firstOf : Nat → Int32) (x1 : Int32) (x2 : Int32) : Nat → (Nat → Int32) → Int32 → Option ((Nat → Int32))
  | 0, _, _ => none
  | n + 1, v_newSigns, x3 =>
    if x2 ≤ x3 then
      some v_newSigns
    else
      Option.bind (P5_formAt v_nextOf v_firstOf x1 x3) fun r7 =>
      Option.bind (P5_isLeft v_formA v_formB v_formC r7) fun r8 =>
      if r8 = 0 then
        if vx x3 20 then
        P5_lay_45 v_formA v_formB v_formC v_nextOf v_firstOf x1 x2 n (upd v_newSigns (Int32.toNatClampNeg x3) 1) (x3 + 1)
        else none
      else
        if vx x3 20 then
        P5_lay_45 v_formA v_formB v_formC v_nextOf v_firstOf x1 x2 n (upd v_newSigns (Int32.toNatClampNeg x3) 0) (x3 + 1)
        else none
def P5_lay (v_roads : Int32) (v_lengths : Nat → Int32) (v_signs : Nat → Int32) (v_forms : Int32) (v_formA : Nat → Int32) (v_formB : Nat → Int32) (v_formC : Nat → Int32) (v_nextOf : Nat → Int32) (v_cycleOf : Nat → Int32) (v_cycles : Int32) (v_firstOf : Nat → Int32) (v_newLength : Int32) (v_newSigns : Nat → Int32) (x1 : Int32) : Option (Int32 × Int32 × (Nat → Int32) × (Nat → Int32) × Int32 × (Nat → Int32)) :=
  Option.bind (P5_isCycle v_cycles x1) fun r1 =>
  if r1 = 0 then
    some ((-2000000101), v_roads, v_lengths, v_signs, v_newLength, v_newSigns)
  else
    Option.bind (P5_sizeOf v_forms v_cycleOf x1) fun r3 =>
    if r3 ≤ 20 then
      if v_roads = 6 then
        some ((-2000000104), v_roads, v_lengths, v_signs, v_newLength, v_newSigns)
      else
        Option.bind (P5_lay_45 v_formA v_formB v_formC v_nextOf v_firstOf x1 r3 FU v_newSigns 0) fun o12 =>
        Option.bind (P5_keepNew v_roads v_lengths v_signs r3 o12) fun r13 =>
        some (r13.1, r13.2.1, r13.2.2.1, r13.2.2.2, r3, o12)
    else
      some ((-2000000103), v_roads, v_lengths, v_signs, v_newLength, v_newSigns)
def P5_whereNow (v_lengths : Nat → Int32) (v_signs : Nat → Int32) (v_disc : Int32) (v_forms : Int32) (v_formA : Nat → Int32) (v_formB : Nat → Int32) (v_formC : Nat → Int32) (v_at : Nat → Int32) (x1 : Int32) : Option (Int32 × Int32 × (Nat → Int32) × Int32 × Int32 × Int32 × Int32 × Int32 × Int32 × Int32 × Int32) :=
  Option.bind (P5_layForm v_lengths v_signs v_at x1) fun r1 =>
  Option.bind (P5_discOf r1.2.2.2.2.2.2.1 r1.2.2.2.2.2.2.2.1 r1.2.2.2.2.2.2.2.2.1) fun r2 =>
  if r2 = v_disc then
    Option.bind (P5_numberOf v_forms v_formA v_formB v_formC r1.2.2.2.2.2.2.1 r1.2.2.2.2.2.2.2.1 r1.2.2.2.2.2.2.2.2.1) fun r4 =>
    some (r4, r1.1, r1.2.1, r1.2.2.1, r1.2.2.2.1, r1.2.2.2.2.1, r1.2.2.2.2.2.1, r1.2.2.2.2.2.2.1, r1.2.2.2.2.2.2.2.1, r1.2.2.2.2.2.2.2.2.1, r1.2.2.2.2.2.2.2.2.2)
  else
    some ((-2000000001), r1.1, r1.2.1, r1.2.2.1, r1.2.2.2.1, r1.2.2.2.2.1, r1.2.2.2.2.2.1, r1.2.2.2.2.2.2.1, r1.2.2.2.2.2.2.2.1, r1.2.2.2.2.2.2.2.2.1, r1.2.2.2.2.2.2.2.2.2)
def P5_where (v_roads : Int32) (v_lengths : Nat → Int32) (v_signs : Nat → Int32) (v_disc : Int32) (v_forms : Int32) (v_formA : Nat → Int32) (v_formB : Nat → Int32) (v_formC : Nat → Int32) (v_size : Int32) (v_at : Nat → Int32) (v_tableA : Int32) (v_tableB : Int32) (v_tableC : Int32) (v_tableD : Int32) (v_a : Int32) (v_b : Int32) (v_c : Int32) (v_grade : Int32) (x1 : Int32) : Option (Int32 × Int32 × (Nat → Int32) × Int32 × Int32 × Int32 × Int32 × Int32 × Int32 × Int32 × Int32) :=
  Option.bind (P5_isRoad v_roads x1) fun r1 =>
  if r1 = 0 then
    some ((-2000000101), v_size, v_at, v_tableA, v_tableB, v_tableC, v_tableD, v_a, v_b, v_c, v_grade)
  else
    Option.bind (P5_isClosed v_lengths v_signs v_at x1) fun r3 =>
    if r3.1 = 0 then
      some ((-2000000103), r3.2.1, r3.2.2, v_tableA, v_tableB, v_tableC, v_tableD, v_a, v_b, v_c, v_grade)
    else
      Option.bind (P5_isRiver v_disc) fun r5 =>
      if r5 = 0 then
        some ((-2000000103), r3.2.1, r3.2.2, v_tableA, v_tableB, v_tableC, v_tableD, v_a, v_b, v_c, v_grade)
      else
        Option.bind (P5_whereNow v_lengths v_signs v_disc v_forms v_formA v_formB v_formC r3.2.2 x1) fun r7 =>
        some (r7.1, r7.2.1, r7.2.2.1, r7.2.2.2.1, r7.2.2.2.2.1, r7.2.2.2.2.2.1, r7.2.2.2.2.2.2.1, r7.2.2.2.2.2.2.2.1, r7.2.2.2.2.2.2.2.2.1, r7.2.2.2.2.2.2.2.2.2.1, r7.2.2.2.2.2.2.2.2.2.2)
def P5_drawOf (v_seedNow : Int64) (x1 : Int32) : Option (Int32 × Int64) :=
  if ¬ (Int32.toInt64 x1) = 0 then
  some (Int64.toInt32 (jlrem ((jlrem ((1103515245 * v_seedNow) + 12345) 2147483648) / 65536) (Int32.toInt64 x1)), jlrem ((1103515245 * v_seedNow) + 12345) 2147483648)
  else none
def P5_drawnNow_35  : Nat → (Nat → Int32) → Int64 → Int32 → Option ((Nat → Int32) × Int64)
  | 0, _, _, _ => none
  | n + 1, v_at, v_seedNow, x8 =>
    if 8 ≤ x8 then
      some (v_at, v_seedNow)
    else
      Option.bind (P5_drawOf v_seedNow 2) fun r4 =>
      if r4.1 = 1 then
        if vx x8 20 then
        P5_drawnNow_35 n (upd v_at (Int32.toNatClampNeg x8) 1) r4.2 (x8 + 1)
        else none
      else
        if vx x8 20 then
        P5_drawnNow_35 n (upd v_at (Int32.toNatClampNeg x8) 0) r4.2 (x8 + 1)
        else none
def P5_drawnNow_14 (x1 : Int32) : Nat → Int32 → (Nat → Int32) → Int32 → (Nat → Int32) → Int32 → Int32 → Int32 → Int32 → Int64 → Int32 → Int32 → Int32 → Int32 → Int32 → Option (Int32 × (Nat → Int32) × Int32 × (Nat → Int32) × Int32 × Int32 × Int32 × Int32 × Int64 × Int32 × Int32 × Int32)
  | 0, _, _, _, _, _, _, _, _, _, _, _, _, _, _ => none
  | n + 1, v_size, v_at, v_otherSize, v_other, v_tableA, v_tableB, v_tableC, v_tableD, v_seedNow, x3, x4, x5, x6, x7 =>
    if x1 ≤ x7 then
      some (v_size, v_at, v_otherSize, v_other, v_tableA, v_tableB, v_tableC, v_tableD, v_seedNow, x3, x4, x5)
    else
      Option.bind (P5_layOther v_size v_at v_other 0 0) fun r2 =>
      Option.bind (P5_drawnNow_35 FU v_at v_seedNow 0) fun o8 =>
      Option.bind (P5_isClosedNow 8 o8.1) fun r9 =>
      if r9 = 0 then
        if r9 = 0 then
          if r9 = 0 then
            P5_drawnNow_14 x1 n 8 o8.1 r2.1 r2.2 v_tableA v_tableB v_tableC v_tableD o8.2 (x3 + 0) (x4 + 0) (x5 + 0) r9 (x7 + 1)
          else
            if x6 = 0 then
              P5_drawnNow_14 x1 n 8 o8.1 r2.1 r2.2 v_tableA v_tableB v_tableC v_tableD o8.2 (x3 + 0) (x4 + 0) (x5 + 0) r9 (x7 + 1)
            else
              Option.bind (P5_crossNow 8 o8.1 r2.1 r2.2) fun r14 =>
              P5_drawnNow_14 x1 n 8 o8.1 r2.1 r2.2 v_tableA v_tableB v_tableC v_tableD o8.2 (x3 + 0) (x4 + 0) (x5 + r14) r9 (x7 + 1)
        else
          Option.bind (P5_traceNow 8 o8.1) fun r15 =>
          if r9 = 0 then
            P5_drawnNow_14 x1 n 8 o8.1 r2.1 r2.2 r15.2.1 r15.2.2.1 r15.2.2.2.1 r15.2.2.2.2 o8.2 (x3 + 0) (x4 + r15.1) (x5 + 0) r9 (x7 + 1)
          else
            if x6 = 0 then
              P5_drawnNow_14 x1 n 8 o8.1 r2.1 r2.2 r15.2.1 r15.2.2.1 r15.2.2.2.1 r15.2.2.2.2 o8.2 (x3 + 0) (x4 + r15.1) (x5 + 0) r9 (x7 + 1)
            else
              Option.bind (P5_crossNow 8 o8.1 r2.1 r2.2) fun r18 =>
              P5_drawnNow_14 x1 n 8 o8.1 r2.1 r2.2 r15.2.1 r15.2.2.1 r15.2.2.2.1 r15.2.2.2.2 o8.2 (x3 + 0) (x4 + r15.1) (x5 + r18) r9 (x7 + 1)
      else
        if r9 = 0 then
          if r9 = 0 then
            P5_drawnNow_14 x1 n 8 o8.1 r2.1 r2.2 v_tableA v_tableB v_tableC v_tableD o8.2 (x3 + 1) (x4 + 0) (x5 + 0) r9 (x7 + 1)
          else
            if x6 = 0 then
              P5_drawnNow_14 x1 n 8 o8.1 r2.1 r2.2 v_tableA v_tableB v_tableC v_tableD o8.2 (x3 + 1) (x4 + 0) (x5 + 0) r9 (x7 + 1)
            else
              Option.bind (P5_crossNow 8 o8.1 r2.1 r2.2) fun r22 =>
              P5_drawnNow_14 x1 n 8 o8.1 r2.1 r2.2 v_tableA v_tableB v_tableC v_tableD o8.2 (x3 + 1) (x4 + 0) (x5 + r22) r9 (x7 + 1)
        else
          Option.bind (P5_traceNow 8 o8.1) fun r23 =>
          if r9 = 0 then
            P5_drawnNow_14 x1 n 8 o8.1 r2.1 r2.2 r23.2.1 r23.2.2.1 r23.2.2.2.1 r23.2.2.2.2 o8.2 (x3 + 1) (x4 + r23.1) (x5 + 0) r9 (x7 + 1)
          else
            if x6 = 0 then
              P5_drawnNow_14 x1 n 8 o8.1 r2.1 r2.2 r23.2.1 r23.2.2.1 r23.2.2.2.1 r23.2.2.2.2 o8.2 (x3 + 1) (x4 + r23.1) (x5 + 0) r9 (x7 + 1)
            else
              Option.bind (P5_crossNow 8 o8.1 r2.1 r2.2) fun r26 =>
              P5_drawnNow_14 x1 n 8 o8.1 r2.1 r2.2 r23.2.1 r23.2.2.1 r23.2.2.2.1 r23.2.2.2.2 o8.2 (x3 + 1) (x4 + r23.1) (x5 + r26) r9 (x7 + 1)
def P5_drawnNow (v_size : Int32) (v_at : Nat → Int32) (v_otherSize : Int32) (v_other : Nat → Int32) (v_tableA : Int32) (v_tableB : Int32) (v_tableC : Int32) (v_tableD : Int32) (v_seedNow : Int64) (x1 : Int32) (x2 : Int32) : Option (Int32 × Int32 × (Nat → Int32) × Int32 × (Nat → Int32) × Int32 × Int32 × Int32 × Int32 × Int64) :=
  Option.bind (P5_drawnNow_14 x1 FU v_size v_at v_otherSize v_other v_tableA v_tableB v_tableC v_tableD v_seedNow 0 0 0 0 0) fun o27 =>
  if x2 = 0 then
    some (o27.2.2.2.2.2.2.2.2.2.1, o27.1, o27.2.1, o27.2.2.1, o27.2.2.2.1, o27.2.2.2.2.1, o27.2.2.2.2.2.1, o27.2.2.2.2.2.2.1, o27.2.2.2.2.2.2.2.1, o27.2.2.2.2.2.2.2.2.1)
  else
    if x2 = 1 then
      some (o27.2.2.2.2.2.2.2.2.2.2.1, o27.1, o27.2.1, o27.2.2.1, o27.2.2.2.1, o27.2.2.2.2.1, o27.2.2.2.2.2.1, o27.2.2.2.2.2.2.1, o27.2.2.2.2.2.2.2.1, o27.2.2.2.2.2.2.2.2.1)
    else
      if x2 = 2 then
        some (o27.2.2.2.2.2.2.2.2.2.2.2, o27.1, o27.2.1, o27.2.2.1, o27.2.2.2.1, o27.2.2.2.2.1, o27.2.2.2.2.2.1, o27.2.2.2.2.2.2.1, o27.2.2.2.2.2.2.2.1, o27.2.2.2.2.2.2.2.2.1)
      else
        some (Int64.toInt32 o27.2.2.2.2.2.2.2.2.1, o27.1, o27.2.1, o27.2.2.1, o27.2.2.2.1, o27.2.2.2.2.1, o27.2.2.2.2.2.1, o27.2.2.2.2.2.2.1, o27.2.2.2.2.2.2.2.1, o27.2.2.2.2.2.2.2.2.1)
def P5_drawn (v_size : Int32) (v_at : Nat → Int32) (v_otherSize : Int32) (v_other : Nat → Int32) (v_tableA : Int32) (v_tableB : Int32) (v_tableC : Int32) (v_tableD : Int32) (v_seedNow : Int64) (x1 : Int32) (x2 : Int32) (x3 : Int32) : Option (Int32 × Int32 × (Nat → Int32) × Int32 × (Nat → Int32) × Int32 × Int32 × Int32 × Int32 × Int64) :=
  Option.bind (P5_within x1 1 40) fun r1 =>
  if r1 = 0 then
    some ((-2000000102), v_size, v_at, v_otherSize, v_other, v_tableA, v_tableB, v_tableC, v_tableD, v_seedNow)
  else
    if x2 < 0 then
      some ((-2000000102), v_size, v_at, v_otherSize, v_other, v_tableA, v_tableB, v_tableC, v_tableD, v_seedNow)
    else
      Option.bind (P5_within x3 0 3) fun r4 =>
      if r4 = 0 then
        some ((-2000000102), v_size, v_at, v_otherSize, v_other, v_tableA, v_tableB, v_tableC, v_tableD, v_seedNow)
      else
        Option.bind (P5_drawnNow v_size v_at v_otherSize v_other v_tableA v_tableB v_tableC v_tableD (Int32.toInt64 x2) x1 x3) fun r6 =>
        some (r6.1, r6.2.1, r6.2.2.1, r6.2.2.2.1, r6.2.2.2.2.1, r6.2.2.2.2.2.1, r6.2.2.2.2.2.2.1, r6.2.2.2.2.2.2.2.1, r6.2.2.2.2.2.2.2.2.1, r6.2.2.2.2.2.2.2.2.2)
def P5_closedMany_4 (v_roads : Int32) (v_lengths : Nat → Int32) (v_signs : Nat → Int32) : Nat → Int32 → (Nat → Int32) → Int32 → Int32 → Option (Int32 × (Nat → Int32) × Int32)
  | 0, _, _, _, _ => none
  | n + 1, v_size, v_at, x1, x2 =>
    if v_roads ≤ x2 then
      some (v_size, v_at, x1)
    else
      Option.bind (P5_isClosed v_lengths v_signs v_at x2) fun r2 =>
      if r2.1 = 0 then
        P5_closedMany_4 v_roads v_lengths v_signs n r2.2.1 r2.2.2 (x1 + 0) (x2 + 1)
      else
        P5_closedMany_4 v_roads v_lengths v_signs n r2.2.1 r2.2.2 (x1 + 1) (x2 + 1)
def P5_closedMany (v_roads : Int32) (v_lengths : Nat → Int32) (v_signs : Nat → Int32) (v_size : Int32) (v_at : Nat → Int32) : Option (Int32 × Int32 × (Nat → Int32)) :=
  Option.bind (P5_closedMany_4 v_roads v_lengths v_signs FU v_size v_at 0 0) fun o4 =>
  some (o4.2.2, o4.1, o4.2.1)
def P5_newMany_17 (v_lengths : Nat → Int32) (v_signs : Nat → Int32) (x2 : Int32) : Nat → Int32 → (Nat → Int32) → Int32 → (Nat → Int32) → Int32 → Int32 → Option (Int32 × (Nat → Int32) × Int32 × (Nat → Int32) × Int32)
  | 0, _, _, _, _, _, _ => none
  | n + 1, v_size, v_at, v_otherSize, v_other, x3, x4 =>
    if x2 ≤ x4 then
      some (v_size, v_at, v_otherSize, v_other, x3)
    else
      if x3 = 0 then
        P5_newMany_17 v_lengths v_signs x2 n v_size v_at v_otherSize v_other 0 (x4 + 1)
      else
        Option.bind (P5_alikeNow v_lengths v_signs v_at v_other x4 x2) fun r4 =>
        if r4.1 = (-2000000001) then
          P5_newMany_17 v_lengths v_signs x2 n r4.2.1 r4.2.2.1 r4.2.2.2.1 r4.2.2.2.2 1 (x4 + 1)
        else
          P5_newMany_17 v_lengths v_signs x2 n r4.2.1 r4.2.2.1 r4.2.2.2.1 r4.2.2.2.2 0 (x4 + 1)
def P5_newMany_4 (v_roads : Int32) (v_lengths : Nat → Int32) (v_signs : Nat → Int32) : Nat → Int32 → (Nat → Int32) → Int32 → (Nat → Int32) → Int32 → Int32 → Option (Int32 × (Nat → Int32) × Int32 × (Nat → Int32) × Int32)
  | 0, _, _, _, _, _, _ => none
  | n + 1, v_size, v_at, v_otherSize, v_other, x1, x2 =>
    if v_roads ≤ x2 then
      some (v_size, v_at, v_otherSize, v_other, x1)
    else
      Option.bind (P5_newMany_17 v_lengths v_signs x2 FU v_size v_at v_otherSize v_other 1 0) fun o6 =>
      if o6.2.2.2.2 = 0 then
        P5_newMany_4 v_roads v_lengths v_signs n o6.1 o6.2.1 o6.2.2.1 o6.2.2.2.1 (x1 + 0) (x2 + 1)
      else
        P5_newMany_4 v_roads v_lengths v_signs n o6.1 o6.2.1 o6.2.2.1 o6.2.2.2.1 (x1 + 1) (x2 + 1)
def P5_newMany (v_roads : Int32) (v_lengths : Nat → Int32) (v_signs : Nat → Int32) (v_size : Int32) (v_at : Nat → Int32) (v_otherSize : Int32) (v_other : Nat → Int32) : Option (Int32 × Int32 × (Nat → Int32) × Int32 × (Nat → Int32)) :=
  Option.bind (P5_newMany_4 v_roads v_lengths v_signs FU v_size v_at v_otherSize v_other 0 0) fun o8 =>
  some (o8.2.2.2.2, o8.1, o8.2.1, o8.2.2.1, o8.2.2.2.1)
def P5_howMany (v_pageLength : Int32) (v_roads : Int32) (v_lengths : Nat → Int32) (v_signs : Nat → Int32) (v_wordsRead : Int32) (v_forms : Int32) (v_cycles : Int32) (v_size : Int32) (v_at : Nat → Int32) (v_otherSize : Int32) (v_other : Nat → Int32) (x1 : Int32) : Option (Int32 × Int32 × (Nat → Int32) × Int32 × (Nat → Int32)) :=
  if x1 = 0 then
    some (v_roads, v_size, v_at, v_otherSize, v_other)
  else
    if x1 = 1 then
      Option.bind (P5_closedMany v_roads v_lengths v_signs v_size v_at) fun r3 =>
      some (r3.1, r3.2.1, r3.2.2, v_otherSize, v_other)
    else
      if x1 = 2 then
        Option.bind (P5_newMany v_roads v_lengths v_signs v_size v_at v_otherSize v_other) fun r5 =>
        some (r5.1, r5.2.1, r5.2.2.1, r5.2.2.2.1, r5.2.2.2.2)
      else
        if x1 = 3 then
          some (v_pageLength, v_size, v_at, v_otherSize, v_other)
        else
          if x1 = 4 then
            some (v_wordsRead, v_size, v_at, v_otherSize, v_other)
          else
            if x1 = 5 then
              some (v_forms, v_size, v_at, v_otherSize, v_other)
            else
              if x1 = 6 then
                some (v_cycles, v_size, v_at, v_otherSize, v_other)
              else
                some ((-2000000102), v_size, v_at, v_otherSize, v_other)
def P5_count (v_pageLength : Int32) (v_roads : Int32) (v_lengths : Nat → Int32) (v_signs : Nat → Int32) (v_wordsRead : Int32) (v_forms : Int32) (v_cycles : Int32) (v_size : Int32) (v_at : Nat → Int32) (v_otherSize : Int32) (v_other : Nat → Int32) (x1 : Int32) : Option (Int32 × Int32 × (Nat → Int32) × Int32 × (Nat → Int32)) :=
  Option.bind (P5_howMany v_pageLength v_roads v_lengths v_signs v_wordsRead v_forms v_cycles v_size v_at v_otherSize v_other x1) fun r1 =>
  some (r1.1, r1.2.1, r1.2.2.1, r1.2.2.2.1, r1.2.2.2.2)
def P5_mix (v_h : Int64) (l1 : Int64) : Option (Int64) :=
  some ((31 * v_h) + l1)
def P5_mixRoad_2 (v_lengths : Nat → Int32) (v_signs : Nat → Int32) (x1 : Int32) : Nat → (Nat → Int32) → Int32 → (Nat → Int32) → Int32 → Int32 → Int32 → Int32 → Int64 → Int32 → Option ((Nat → Int32) × Int32 × (Nat → Int32) × Int64)
  | 0, _, _, _, _, _, _, _, _, _ => none
  | n + 1, v_at, v_otherSize, v_other, v_tableA, v_tableB, v_tableC, v_tableD, v_h, x2 =>
    if 10 ≤ x2 then
      some (v_at, v_otherSize, v_other, v_h)
    else
      Option.bind (P5_roadNow v_lengths v_signs v_at v_otherSize v_other v_tableA v_tableB v_tableC v_tableD x1 x2) fun r2 =>
      Option.bind (P5_mix v_h (Int32.toInt64 r2.1)) fun r3 =>
      P5_mixRoad_2 v_lengths v_signs x1 n r2.2.2.1 r2.2.2.2.1 r2.2.2.2.2.1 r2.2.2.2.2.2.1 r2.2.2.2.2.2.2.1 r2.2.2.2.2.2.2.2.1 r2.2.2.2.2.2.2.2.2 r3 (x2 + 1)
def P5_mixRoad_27 (v_lengths : Nat → Int32) (v_signs : Nat → Int32) (x1 : Int32) : Nat → Int64 → Int32 → Option (Int64)
  | 0, _, _ => none
  | n + 1, v_h, x2 =>
    if vx x1 6 then
    if (v_lengths (Int32.toNatClampNeg x1)) ≤ x2 then
      some v_h
    else
      if vx ((20 * x1) + x2) 120 then
      Option.bind (P5_codeOf (v_signs (Int32.toNatClampNeg ((20 * x1) + x2)))) fun r13 =>
      Option.bind (P5_mix v_h (Int32.toInt64 r13)) fun r14 =>
      P5_mixRoad_27 v_lengths v_signs x1 n r14 (x2 + 1)
      else none
    else none
def P5_mixRoad_64 (v_lengths : Nat → Int32) (v_signs : Nat → Int32) (x1 : Int32) : Nat → (Nat → Int32) → Int64 → Int32 → Option ((Nat → Int32) × Int64)
  | 0, _, _, _ => none
  | n + 1, v_at, v_h, x2 =>
    if 4 ≤ x2 then
      some (v_at, v_h)
    else
      Option.bind (P5_tableNow v_lengths v_signs v_at x1 x2) fun r17 =>
      Option.bind (P5_mix v_h (Int32.toInt64 r17.1)) fun r18 =>
      P5_mixRoad_64 v_lengths v_signs x1 n r17.2.2.1 r18 (x2 + 1)
def P5_mixRoad_116 (v_lengths : Nat → Int32) (v_signs : Nat → Int32) (x1 : Int32) (x2 : Int32) : Nat → Int32 → (Nat → Int32) → Int32 → Int32 → Int32 → Int32 → Int32 → Int32 → Int32 → Int32 → Int64 → Int32 → Option (Int32 × (Nat → Int32) × Int32 × Int32 × Int32 × Int32 × Int32 × Int32 × Int32 × Int32 × Int64)
  | 0, _, _, _, _, _, _, _, _, _, _, _, _ => none
  | n + 1, v_size, v_at, v_tableA, v_tableB, v_tableC, v_tableD, v_a, v_b, v_c, v_grade, v_h, x3 =>
    if 5 ≤ x3 then
      some (v_size, v_at, v_tableA, v_tableB, v_tableC, v_tableD, v_a, v_b, v_c, v_grade, v_h)
    else
      if x2 = 0 then
        some (v_size, v_at, v_tableA, v_tableB, v_tableC, v_tableD, v_a, v_b, v_c, v_grade, v_h)
      else
        Option.bind (P5_formNow v_lengths v_signs v_at x1 x3) fun r32 =>
        Option.bind (P5_mix v_h (Int32.toInt64 r32.1)) fun r33 =>
        P5_mixRoad_116 v_lengths v_signs x1 x2 n r32.2.1 r32.2.2.1 r32.2.2.2.1 r32.2.2.2.2.1 r32.2.2.2.2.2.1 r32.2.2.2.2.2.2.1 r32.2.2.2.2.2.2.2.1 r32.2.2.2.2.2.2.2.2.1 r32.2.2.2.2.2.2.2.2.2.1 r32.2.2.2.2.2.2.2.2.2.2 r33 (x3 + 1)
def P5_mixRoad (v_lengths : Nat → Int32) (v_signs : Nat → Int32) (v_at : Nat → Int32) (v_otherSize : Int32) (v_other : Nat → Int32) (v_tableA : Int32) (v_tableB : Int32) (v_tableC : Int32) (v_tableD : Int32) (v_a : Int32) (v_b : Int32) (v_c : Int32) (v_grade : Int32) (v_h : Int64) (x1 : Int32) : Option (Int32 × (Nat → Int32) × Int32 × (Nat → Int32) × Int32 × Int32 × Int32 × Int32 × Int32 × Int32 × Int32 × Int32 × Int64) :=
  Option.bind (P5_mixRoad_2 v_lengths v_signs x1 FU v_at v_otherSize v_other v_tableA v_tableB v_tableC v_tableD v_h 0) fun o4 =>
  Option.bind (P5_mixRoad_27 v_lengths v_signs x1 FU o4.2.2.2 0) fun o15 =>
  Option.bind (P5_mixRoad_64 v_lengths v_signs x1 FU o4.1 o15 0) fun o19 =>
  Option.bind (P5_endNow v_lengths v_signs o19.1 x1 0) fun r25 =>
  Option.bind (P5_mix o19.2 (Int32.toInt64 r25.1)) fun r26 =>
  Option.bind (P5_endNow v_lengths v_signs r25.2.2.1 x1 1) fun r27 =>
  Option.bind (P5_mix r26 (Int32.toInt64 r27.1)) fun r28 =>
  Option.bind (P5_isClosed v_lengths v_signs r27.2.2.1 x1) fun r29 =>
  Option.bind (P5_mixRoad_116 v_lengths v_signs x1 r29.1 FU r29.2.1 r29.2.2 r27.2.2.2.1 r27.2.2.2.2.1 r27.2.2.2.2.2.1 r27.2.2.2.2.2.2 v_a v_b v_c v_grade r28 0) fun o34 =>
  some (o34.1, o34.2.1, o4.2.1, o4.2.2.1, o34.2.2.1, o34.2.2.2.1, o34.2.2.2.2.1, o34.2.2.2.2.2.1, o34.2.2.2.2.2.2.1, o34.2.2.2.2.2.2.2.1, o34.2.2.2.2.2.2.2.2.1, o34.2.2.2.2.2.2.2.2.2.1, o34.2.2.2.2.2.2.2.2.2.2)
def P5_mixCrossings_12 (v_roads : Int32) (v_lengths : Nat → Int32) (v_signs : Nat → Int32) (x1 : Int32) : Nat → Int32 → (Nat → Int32) → Int32 → (Nat → Int32) → Int64 → Int32 → Option (Int32 × (Nat → Int32) × Int32 × (Nat → Int32) × Int64)
  | 0, _, _, _, _, _, _ => none
  | n + 1, v_size, v_at, v_otherSize, v_other, v_h, x2 =>
    if v_roads ≤ x2 then
      some (v_size, v_at, v_otherSize, v_other, v_h)
    else
      Option.bind (P5_isClosed v_lengths v_signs v_at x1) fun r3 =>
      if r3.1 = 0 then
        P5_mixCrossings_12 v_roads v_lengths v_signs x1 n r3.2.1 r3.2.2 v_otherSize v_other v_h (x2 + 1)
      else
        Option.bind (P5_isClosed v_lengths v_signs r3.2.2 x2) fun r5 =>
        if r5.1 = 0 then
          P5_mixCrossings_12 v_roads v_lengths v_signs x1 n r5.2.1 r5.2.2 v_otherSize v_other v_h (x2 + 1)
        else
          Option.bind (P5_crossings v_lengths v_signs r5.2.2 v_other x1 x2) fun r7 =>
          Option.bind (P5_mix v_h (Int32.toInt64 r7.1)) fun r8 =>
          P5_mixCrossings_12 v_roads v_lengths v_signs x1 n r7.2.1 r7.2.2.1 r7.2.2.2.1 r7.2.2.2.2 r8 (x2 + 1)
def P5_mixCrossings_2 (v_roads : Int32) (v_lengths : Nat → Int32) (v_signs : Nat → Int32) : Nat → Int32 → (Nat → Int32) → Int32 → (Nat → Int32) → Int64 → Int32 → Option (Int32 × (Nat → Int32) × Int32 × (Nat → Int32) × Int64)
  | 0, _, _, _, _, _, _ => none
  | n + 1, v_size, v_at, v_otherSize, v_other, v_h, x1 =>
    if v_roads ≤ x1 then
      some (v_size, v_at, v_otherSize, v_other, v_h)
    else
      Option.bind (P5_mixCrossings_12 v_roads v_lengths v_signs x1 FU v_size v_at v_otherSize v_other v_h x1) fun o9 =>
      P5_mixCrossings_2 v_roads v_lengths v_signs n o9.1 o9.2.1 o9.2.2.1 o9.2.2.2.1 o9.2.2.2.2 (x1 + 1)
def P5_mixCrossings (v_roads : Int32) (v_lengths : Nat → Int32) (v_signs : Nat → Int32) (v_size : Int32) (v_at : Nat → Int32) (v_otherSize : Int32) (v_other : Nat → Int32) (v_h : Int64) : Option (Int32 × (Nat → Int32) × Int32 × (Nat → Int32) × Int64) :=
  Option.bind (P5_mixCrossings_2 v_roads v_lengths v_signs FU v_size v_at v_otherSize v_other v_h 0) fun o10 =>
  some (o10.1, o10.2.1, o10.2.2.1, o10.2.2.2.1, o10.2.2.2.2)
def P5_mixRiver_2 (v_forms : Int32) (v_formA : Nat → Int32) (v_formB : Nat → Int32) (v_formC : Nat → Int32) (v_nextOf : Nat → Int32) (v_cycleOf : Nat → Int32) : Nat → Int64 → Int32 → Option (Int64)
  | 0, _, _ => none
  | n + 1, v_h, x1 =>
    if (8 * v_forms) ≤ x1 then
      some v_h
    else
      Option.bind (P5_simpleNow v_forms v_formA v_formB v_formC v_nextOf v_cycleOf (x1 / 8) (jrem x1 8)) fun r2 =>
      Option.bind (P5_mix v_h (Int32.toInt64 r2)) fun r3 =>
      P5_mixRiver_2 v_forms v_formA v_formB v_formC v_nextOf v_cycleOf n r3 (x1 + 1)
def P5_mixRiver_48 (v_forms : Int32) (v_formA : Nat → Int32) (v_formB : Nat → Int32) (v_formC : Nat → Int32) (v_nextOf : Nat → Int32) (v_cycleOf : Nat → Int32) (v_firstOf : Nat → Int32) (x1 : Int32) : Nat → Int64 → Int32 → Option (Int64)
  | 0, _, _ => none
  | n + 1, v_h, x2 =>
    if 5 ≤ x2 then
      some v_h
    else
      Option.bind (P5_cycleNow v_forms v_formA v_formB v_formC v_nextOf v_cycleOf v_firstOf x1 x2) fun r7 =>
      Option.bind (P5_mix v_h (Int32.toInt64 r7)) fun r8 =>
      P5_mixRiver_48 v_forms v_formA v_formB v_formC v_nextOf v_cycleOf v_firstOf x1 n r8 (x2 + 1)
def P5_mixRiver_38 (v_forms : Int32) (v_formA : Nat → Int32) (v_formB : Nat → Int32) (v_formC : Nat → Int32) (v_nextOf : Nat → Int32) (v_cycleOf : Nat → Int32) (v_cycles : Int32) (v_firstOf : Nat → Int32) : Nat → Int64 → Int32 → Option (Int64)
  | 0, _, _ => none
  | n + 1, v_h, x1 =>
    if v_cycles ≤ x1 then
      some v_h
    else
      Option.bind (P5_mixRiver_48 v_forms v_formA v_formB v_formC v_nextOf v_cycleOf v_firstOf x1 FU v_h 0) fun o9 =>
      Option.bind (P5_traceOf v_formA v_formB v_formC v_nextOf v_firstOf x1 997) fun r10 =>
      Option.bind (P5_mix o9 (Int32.toInt64 r10)) fun r11 =>
      P5_mixRiver_38 v_forms v_formA v_formB v_formC v_nextOf v_cycleOf v_cycles v_firstOf n r11 (x1 + 1)
def P5_mixRiver (v_forms : Int32) (v_formA : Nat → Int32) (v_formB : Nat → Int32) (v_formC : Nat → Int32) (v_nextOf : Nat → Int32) (v_cycleOf : Nat → Int32) (v_cycles : Int32) (v_firstOf : Nat → Int32) (v_h : Int64) : Option (Int64) :=
  Option.bind (P5_mixRiver_2 v_forms v_formA v_formB v_formC v_nextOf v_cycleOf FU v_h 0) fun o4 =>
  Option.bind (P5_mixRiver_38 v_forms v_formA v_formB v_formC v_nextOf v_cycleOf v_cycles v_firstOf FU o4 0) fun o12 =>
  some o12
def P5_digest_9 (v_roads : Int32) (v_lengths : Nat → Int32) (v_signs : Nat → Int32) : Nat → Int32 → (Nat → Int32) → Int32 → (Nat → Int32) → Int32 → Int32 → Int32 → Int32 → Int32 → Int32 → Int32 → Int32 → Int64 → Int32 → Option (Int32 × (Nat → Int32) × Int32 × (Nat → Int32) × Int32 × Int32 × Int32 × Int32 × Int32 × Int32 × Int32 × Int32 × Int64)
  | 0, _, _, _, _, _, _, _, _, _, _, _, _, _, _ => none
  | n + 1, v_size, v_at, v_otherSize, v_other, v_tableA, v_tableB, v_tableC, v_tableD, v_a, v_b, v_c, v_grade, v_h, x1 =>
    if v_roads ≤ x1 then
      some (v_size, v_at, v_otherSize, v_other, v_tableA, v_tableB, v_tableC, v_tableD, v_a, v_b, v_c, v_grade, v_h)
    else
      Option.bind (P5_mixRoad v_lengths v_signs v_at v_otherSize v_other v_tableA v_tableB v_tableC v_tableD v_a v_b v_c v_grade v_h x1) fun r2 =>
      P5_digest_9 v_roads v_lengths v_signs n r2.1 r2.2.1 r2.2.2.1 r2.2.2.2.1 r2.2.2.2.2.1 r2.2.2.2.2.2.1 r2.2.2.2.2.2.2.1 r2.2.2.2.2.2.2.2.1 r2.2.2.2.2.2.2.2.2.1 r2.2.2.2.2.2.2.2.2.2.1 r2.2.2.2.2.2.2.2.2.2.2.1 r2.2.2.2.2.2.2.2.2.2.2.2.1 r2.2.2.2.2.2.2.2.2.2.2.2.2 (x1 + 1)
def P5_digest_38 (v_pageLength : Int32) (v_page : Nat → Int32) : Nat → Int64 → Int32 → Option (Int64)
  | 0, _, _ => none
  | n + 1, v_h, x1 =>
    if v_pageLength ≤ x1 then
      some v_h
    else
      if vx x1 20 then
      Option.bind (P5_mix v_h (Int32.toInt64 (v_page (Int32.toNatClampNeg x1)))) fun r8 =>
      P5_digest_38 v_pageLength v_page n r8 (x1 + 1)
      else none
def P5_digest_65 (v_pageLength : Int32) (v_roads : Int32) (v_lengths : Nat → Int32) (v_signs : Nat → Int32) (v_wordsRead : Int32) (v_forms : Int32) (v_cycles : Int32) : Nat → Int32 → (Nat → Int32) → Int32 → (Nat → Int32) → Int64 → Int32 → Option (Int32 × (Nat → Int32) × Int32 × (Nat → Int32) × Int64)
  | 0, _, _, _, _, _, _ => none
  | n + 1, v_size, v_at, v_otherSize, v_other, v_h, x1 =>
    if 7 ≤ x1 then
      some (v_size, v_at, v_otherSize, v_other, v_h)
    else
      Option.bind (P5_howMany v_pageLength v_roads v_lengths v_signs v_wordsRead v_forms v_cycles v_size v_at v_otherSize v_other x1) fun r11 =>
      Option.bind (P5_mix v_h (Int32.toInt64 r11.1)) fun r12 =>
      P5_digest_65 v_pageLength v_roads v_lengths v_signs v_wordsRead v_forms v_cycles n r11.2.1 r11.2.2.1 r11.2.2.2.1 r11.2.2.2.2 r12 (x1 + 1)
def P5_digest (v_pageLength : Int32) (v_page : Nat → Int32) (v_roads : Int32) (v_lengths : Nat → Int32) (v_signs : Nat → Int32) (v_wordsRead : Int32) (v_forms : Int32) (v_formA : Nat → Int32) (v_formB : Nat → Int32) (v_formC : Nat → Int32) (v_nextOf : Nat → Int32) (v_cycleOf : Nat → Int32) (v_cycles : Int32) (v_firstOf : Nat → Int32) (v_size : Int32) (v_at : Nat → Int32) (v_otherSize : Int32) (v_other : Nat → Int32) (v_tableA : Int32) (v_tableB : Int32) (v_tableC : Int32) (v_tableD : Int32) (v_a : Int32) (v_b : Int32) (v_c : Int32) (v_grade : Int32) : Option (Int64 × Int32 × (Nat → Int32) × Int32 × (Nat → Int32) × Int32 × Int32 × Int32 × Int32 × Int32 × Int32 × Int32 × Int32 × Int64) :=
  Option.bind (P5_digest_9 v_roads v_lengths v_signs FU v_size v_at v_otherSize v_other v_tableA v_tableB v_tableC v_tableD v_a v_b v_c v_grade 1549 0) fun o3 =>
  Option.bind (P5_mixCrossings v_roads v_lengths v_signs o3.1 o3.2.1 o3.2.2.1 o3.2.2.2.1 o3.2.2.2.2.2.2.2.2.2.2.2.2) fun r4 =>
  Option.bind (P5_mixRiver v_forms v_formA v_formB v_formC v_nextOf v_cycleOf v_cycles v_firstOf r4.2.2.2.2) fun r5 =>
  Option.bind (P5_digest_38 v_pageLength v_page FU r5 0) fun o9 =>
  Option.bind (P5_digest_65 v_pageLength v_roads v_lengths v_signs v_wordsRead v_forms v_cycles FU r4.1 r4.2.1 r4.2.2.1 r4.2.2.2.1 o9 0) fun o13 =>
  some (o13.2.2.2.2, o13.1, o13.2.1, o13.2.2.1, o13.2.2.2.1, o3.2.2.2.2.1, o3.2.2.2.2.2.1, o3.2.2.2.2.2.2.1, o3.2.2.2.2.2.2.2.1, o3.2.2.2.2.2.2.2.2.1, o3.2.2.2.2.2.2.2.2.2.1, o3.2.2.2.2.2.2.2.2.2.2.1, o3.2.2.2.2.2.2.2.2.2.2.2.1, o13.2.2.2.2)
