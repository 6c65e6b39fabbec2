section
-- ===== PART A: goes FIRST, ahead of the names: the tables' words, and 'selects' of the private methods out of them =====
/-- a private method of a class that the tables say can be made, by its rows of tables_1 -/
def lw_okq (q : MethodName × Nat) : Prop := (q.1.cls ≠ "java/lang/invoke/MethodHandle" ∧ q.1.cls ≠ "java/lang/invoke/VarHandle") ∧ Cond.instantiable q.1.cls q.2 ∈ tables_1 ∧ Cond.privateMethod q.1 ∈ tables_1 ∧ Cond.instanceMethod q.1 ∈ tables_1
theorem lw_p0 : lw_okq (⟨"RiverWords", "closedRoads", "()I"⟩, 6) := ⟨⟨by decide +kernel, by decide +kernel⟩, List.mem_of_getElem? (i := 9) (by decide +kernel), List.mem_of_getElem? (i := 167) (by decide +kernel), List.mem_of_getElem? (i := 168) (by decide +kernel)⟩
theorem lw_p1 : lw_okq (⟨"RiverWords", "isClosedRoad", "(I)Z"⟩, 6) := ⟨⟨by decide +kernel, by decide +kernel⟩, List.mem_of_getElem? (i := 9) (by decide +kernel), List.mem_of_getElem? (i := 171) (by decide +kernel), List.mem_of_getElem? (i := 172) (by decide +kernel)⟩
theorem lw_p2 : lw_okq (⟨"RiverWords", "roadAt", "(I)LRiverWords$Word;"⟩, 6) := ⟨⟨by decide +kernel, by decide +kernel⟩, List.mem_of_getElem? (i := 9) (by decide +kernel), List.mem_of_getElem? (i := 175) (by decide +kernel), List.mem_of_getElem? (i := 176) (by decide +kernel)⟩
theorem lw_p3 : lw_okq (⟨"RiverWords", "roadClasses", "()I"⟩, 6) := ⟨⟨by decide +kernel, by decide +kernel⟩, List.mem_of_getElem? (i := 9) (by decide +kernel), List.mem_of_getElem? (i := 183) (by decide +kernel), List.mem_of_getElem? (i := 184) (by decide +kernel)⟩
theorem lw_p4 : lw_okq (⟨"RiverWords", "isFirstOfClass", "(I)Z"⟩, 6) := ⟨⟨by decide +kernel, by decide +kernel⟩, List.mem_of_getElem? (i := 9) (by decide +kernel), List.mem_of_getElem? (i := 187) (by decide +kernel), List.mem_of_getElem? (i := 188) (by decide +kernel)⟩
theorem lw_p5 : lw_okq (⟨"RiverWords$Word", "crosses", "(ILRiverWords$Word;I)Z"⟩, 7) := ⟨⟨by decide +kernel, by decide +kernel⟩, List.mem_of_getElem? (i := 78) (by decide +kernel), List.mem_of_getElem? (i := 351) (by decide +kernel), List.mem_of_getElem? (i := 352) (by decide +kernel)⟩
theorem lw_p6 : lw_okq (⟨"RiverWords$Page", "continues", "(I)Z"⟩, 6) := ⟨⟨by decide +kernel, by decide +kernel⟩, List.mem_of_getElem? (i := 17) (by decide +kernel), List.mem_of_getElem? (i := 385) (by decide +kernel), List.mem_of_getElem? (i := 386) (by decide +kernel)⟩
theorem lw_p7 : lw_okq (⟨"RiverWords", "addRoad", "(II)I"⟩, 6) := ⟨⟨by decide +kernel, by decide +kernel⟩, List.mem_of_getElem? (i := 9) (by decide +kernel), List.mem_of_getElem? (i := 401) (by decide +kernel), List.mem_of_getElem? (i := 402) (by decide +kernel)⟩
theorem lw_p8 : lw_okq (⟨"RiverWords$Draw", "nextBits", "()I"⟩, 6) := ⟨⟨by decide +kernel, by decide +kernel⟩, List.mem_of_getElem? (i := 72) (by decide +kernel), List.mem_of_getElem? (i := 472) (by decide +kernel), List.mem_of_getElem? (i := 473) (by decide +kernel)⟩
theorem lw_p9 : lw_okq (⟨"RiverWords$Draw", "tell", "()V"⟩, 6) := ⟨⟨by decide +kernel, by decide +kernel⟩, List.mem_of_getElem? (i := 72) (by decide +kernel), List.mem_of_getElem? (i := 481) (by decide +kernel), List.mem_of_getElem? (i := 482) (by decide +kernel)⟩
def lw_privs_1 : List (MethodName × Nat) := [(⟨"RiverWords", "closedRoads", "()I"⟩, 6), (⟨"RiverWords", "isClosedRoad", "(I)Z"⟩, 6), (⟨"RiverWords", "roadAt", "(I)LRiverWords$Word;"⟩, 6), (⟨"RiverWords", "roadClasses", "()I"⟩, 6), (⟨"RiverWords", "isFirstOfClass", "(I)Z"⟩, 6), (⟨"RiverWords$Word", "crosses", "(ILRiverWords$Word;I)Z"⟩, 7), (⟨"RiverWords$Page", "continues", "(I)Z"⟩, 6), (⟨"RiverWords", "addRoad", "(II)I"⟩, 6), (⟨"RiverWords$Draw", "nextBits", "()I"⟩, 6), (⟨"RiverWords$Draw", "tell", "()V"⟩, 6)]
theorem lw_r1 : ∀ q ∈ lw_privs_1, lw_okq q := List.forall_mem_cons.mpr ⟨lw_p0, List.forall_mem_cons.mpr ⟨lw_p1, List.forall_mem_cons.mpr ⟨lw_p2, List.forall_mem_cons.mpr ⟨lw_p3, List.forall_mem_cons.mpr ⟨lw_p4, List.forall_mem_cons.mpr ⟨lw_p5, List.forall_mem_cons.mpr ⟨lw_p6, List.forall_mem_cons.mpr ⟨lw_p7, List.forall_mem_cons.mpr ⟨lw_p8, List.forall_mem_cons.mpr ⟨lw_p9, fun _ h => absurd h List.not_mem_nil⟩⟩⟩⟩⟩⟩⟩⟩⟩⟩
def lw_privs : List (MethodName × Nat) := lw_privs_1
def lw_tbl : List Cond := k2_sels lw_privs ++ tables_1
theorem lw_privs_ok : ∀ q ∈ lw_privs, lw_okq q := lw_r1
end
section
/-! ===== BEGIN words of one list among another's, by their places ===== -/
theorem goodIn_r {big : List Cond} (ws : List Cond) (ps : List Nat) (hp : ws = ps.filterMap (fun i => big[i]?)) (h : ws.all goodWord = true) : GoodIn big ws := by
  intro w hw
  have h1 := List.all_eq_true.mp h w hw
  rw [hp] at hw
  obtain ⟨i, -, hi⟩ := List.mem_filterMap.mp hw
  have hm : w ∈ big := by first | exact List.mem_of_getElem? hi | exact List.getElem?_mem hi
  exact ⟨hm, good_of_word h1⟩
theorem goodIn_app {big a b : List Cond} (ha : GoodIn big a) (hb : GoodIn big b) : GoodIn big (a ++ b) := fun w h => (List.mem_append.mp h).elim (ha w) (hb w)
theorem goodIn_ca {big a b : List Cond} {c : Cond} (ha : GoodIn big (c :: a)) (hb : GoodIn big b) : GoodIn big (c :: (a ++ b)) := fun w h => (List.mem_cons.mp h).elim (fun e => ha w (List.mem_cons.mpr (Or.inl e))) (fun h => (List.mem_append.mp h).elim (fun h => ha w (List.mem_cons.mpr (Or.inr h))) (hb w))
theorem goodIn_sub {big ws : List Cond} (hm : ∀ w ∈ ws, w ∈ big) (h : ws.all goodWord = true) : GoodIn big ws := fun w hw => ⟨hm w hw, good_of_word (List.all_eq_true.mp h w hw)⟩
/-! ===== END ===== -/
def RX0 : String := "RiverWords$Draw"
def TX0 : u_T := fun k => match k with
  | 0 => ("RiverWords$Draw", "before", "LRiverWords$Word;", true)
  | 1 => ("RiverWords$Draw", "now", "LRiverWords$Word;", true)
  | 2 => ("RiverWords$Draw", "s", "J", false)
  | 3 => ("RiverWords$Draw", "closed", "I", false)
  | 4 => ("RiverWords$Draw", "traces", "I", false)
  | _ => ("RiverWords$Draw", "crossings", "I", false)
def tyX0 : Nat → FieldType := fun k => match k with
  | 0 => .object "RiverWords$Word"
  | 1 => .object "RiverWords$Word"
  | 2 => .long
  | 3 => .int
  | 4 => .int
  | _ => .int
abbrev wsX00 : List Cond := u_ws RX0 TX0 6
theorem nmX0 : ∀ a, a < 6 → ∀ b, b < 6 → a ≠ b → (TX0 a).2.1 ≠ (TX0 b).2.1 := by decide +kernel
theorem tyX0_ok : ∀ k, k < 6 → parseFieldDescriptor (TX0 k).2.2.1 = some (tyX0 k) := by decide +kernel
abbrev cX0_init : ByteArray := prog_2_method_1_code
def yX0_init : MethodName := ⟨RX0, "<init>", "()V"⟩
abbrev cX0_run : ByteArray := prog_2_method_2_code
def yX0_run : MethodName := ⟨RX0, "run", "(II)V"⟩
abbrev cX0_nextBits : ByteArray := prog_2_method_3_code
def yX0_nextBits : MethodName := ⟨RX0, "nextBits", "()I"⟩
abbrev cX0_tell : ByteArray := prog_2_method_4_code
def yX0_tell : MethodName := ⟨RX0, "tell", "()V"⟩
def RX1 : String := "RiverWords$Page"
def TX1 : u_T := fun k => match k with
  | 0 => ("RiverWords$Page", "codes", "[I", true)
  | 1 => ("RiverWords$Page", "size", "I", false)
  | 2 => ("RiverWords$Page", "good", "I", false)
  | 3 => ("RiverWords$Page", "bits", "I", false)
  | 4 => ("RiverWords$Page", "letters", "I", false)
  | _ => ("RiverWords$Page", "afterLetter", "Z", false)
def tyX1 : Nat → FieldType := fun k => match k with
  | 0 => .array .int
  | 1 => .int
  | 2 => .int
  | 3 => .int
  | 4 => .int
  | _ => .boolean
abbrev wsX10 : List Cond := u_ws RX1 TX1 6
theorem nmX1 : ∀ a, a < 6 → ∀ b, b < 6 → a ≠ b → (TX1 a).2.1 ≠ (TX1 b).2.1 := by decide +kernel
theorem tyX1_ok : ∀ k, k < 6 → parseFieldDescriptor (TX1 k).2.2.1 = some (tyX1 k) := by decide +kernel
abbrev cX1_init : ByteArray := prog_3_method_1_code
def yX1_init : MethodName := ⟨RX1, "<init>", "()V"⟩
abbrev cX1_clear : ByteArray := prog_3_method_2_code
def yX1_clear : MethodName := ⟨RX1, "clear", "()V"⟩
abbrev cX1_append : ByteArray := prog_3_method_3_code
def yX1_append : MethodName := ⟨RX1, "append", "(I)V"⟩
abbrev cX1_isWord : ByteArray := prog_3_method_4_code
def yX1_isWord : MethodName := ⟨RX1, "isWord", "()Z"⟩
abbrev cX1_continues : ByteArray := prog_3_method_5_code
def yX1_continues : MethodName := ⟨RX1, "continues", "(I)Z"⟩
def RX2 : String := "RiverWords$River"
def TX2 : u_T := fun k => match k with
  | 0 => ("RiverWords$River", "forms", "[[I", true)
  | 1 => ("RiverWords$River", "cycles", "[[I", true)
  | 2 => ("RiverWords$River", "discriminant", "I", false)
  | 3 => ("RiverWords$River", "size", "I", false)
  | _ => ("RiverWords$River", "cycleCount", "I", false)
def tyX2 : Nat → FieldType := fun k => match k with
  | 0 => .array (.array .int)
  | 1 => .array (.array .int)
  | 2 => .int
  | 3 => .int
  | _ => .int
abbrev wsX20 : List Cond := u_ws RX2 TX2 5
theorem nmX2 : ∀ a, a < 5 → ∀ b, b < 5 → a ≠ b → (TX2 a).2.1 ≠ (TX2 b).2.1 := by decide +kernel
theorem tyX2_ok : ∀ k, k < 5 → parseFieldDescriptor (TX2 k).2.2.1 = some (tyX2 k) := by decide +kernel
abbrev cX2_init : ByteArray := prog_4_method_1_code
def yX2_init : MethodName := ⟨RX2, "<init>", "()V"⟩
def RX3 : String := "RiverWords$Word"
def TX3 : u_T := fun k => match k with
  | 0 => ("RiverWords$Word", "bits", "I", false)
  | 1 => ("RiverWords$Word", "size", "I", false)
  | 2 => ("RiverWords$Word", "allBits", "I", false)
  | 3 => ("RiverWords$Word", "a", "I", false)
  | 4 => ("RiverWords$Word", "b", "I", false)
  | 5 => ("RiverWords$Word", "c", "I", false)
  | _ => ("RiverWords$Word", "d", "I", false)
def tyX3 : Nat → FieldType := fun k => match k with
  | 0 => .int
  | 1 => .int
  | 2 => .int
  | 3 => .int
  | 4 => .int
  | 5 => .int
  | _ => .int
abbrev wsX30 : List Cond := u_ws RX3 TX3 7
theorem nmX3 : ∀ a, a < 7 → ∀ b, b < 7 → a ≠ b → (TX3 a).2.1 ≠ (TX3 b).2.1 := by decide +kernel
theorem tyX3_ok : ∀ k, k < 7 → parseFieldDescriptor (TX3 k).2.2.1 = some (tyX3 k) := by decide +kernel
abbrev cX3_init : ByteArray := prog_5_method_1_code
def yX3_init : MethodName := ⟨RX3, "<init>", "(II)V"⟩
abbrev cX3_become : ByteArray := prog_5_method_2_code
def yX3_become : MethodName := ⟨RX3, "become", "(II)V"⟩
abbrev cX3_bitAt : ByteArray := prog_5_method_3_code
def yX3_bitAt : MethodName := ⟨RX3, "bitAt", "(I)I"⟩
abbrev cX3_isClosed : ByteArray := prog_5_method_4_code
def yX3_isClosed : MethodName := ⟨RX3, "isClosed", "()Z"⟩
abbrev cX3_traceSum : ByteArray := prog_5_method_5_code
def yX3_traceSum : MethodName := ⟨RX3, "traceSum", "()I"⟩
abbrev cX3_rotation : ByteArray := prog_5_method_6_code
def yX3_rotation : MethodName := ⟨RX3, "rotation", "(I)I"⟩
abbrev cX3_reversal : ByteArray := prog_5_method_7_code
def yX3_reversal : MethodName := ⟨RX3, "reversal", "()I"⟩
abbrev cX3_complement : ByteArray := prog_5_method_8_code
def yX3_complement : MethodName := ⟨RX3, "complement", "(I)I"⟩
abbrev cX3_changed : ByteArray := prog_5_method_9_code
def yX3_changed : MethodName := ⟨RX3, "changed", "(I)I"⟩
abbrev cX3_turnTo : ByteArray := prog_5_method_10_code
def yX3_turnTo : MethodName := ⟨RX3, "turnTo", "(II)I"⟩
abbrev cX3_isConjugate : ByteArray := prog_5_method_11_code
def yX3_isConjugate : MethodName := ⟨RX3, "isConjugate", "(I)Z"⟩
abbrev cX3_period : ByteArray := prog_5_method_12_code
def yX3_period : MethodName := ⟨RX3, "period", "()I"⟩
abbrev cX3_leastTurn : ByteArray := prog_5_method_13_code
def yX3_leastTurn : MethodName := ⟨RX3, "leastTurn", "()I"⟩
abbrev cX3_formNumber : ByteArray := prog_5_method_14_code
def yX3_formNumber : MethodName := ⟨RX3, "formNumber", "(I)I"⟩
abbrev cX3_crossings : ByteArray := prog_5_method_15_code
def yX3_crossings : MethodName := ⟨RX3, "crossings", "(LRiverWords$Word;)I"⟩
abbrev cX3_crosses : ByteArray := prog_5_method_16_code
def yX3_crosses : MethodName := ⟨RX3, "crosses", "(ILRiverWords$Word;I)Z"⟩
def RX4 : String := "RiverWords"
def TX4 : u_T := fun k => match k with
  | 0 => ("RiverWords", "page", "LRiverWords$Page;", true)
  | 1 => ("RiverWords", "roads", "[LRiverWords$Word;", true)
  | 2 => ("RiverWords", "river", "LRiverWords$River;", true)
  | 3 => ("RiverWords", "draw", "LRiverWords$Draw;", true)
  | 4 => ("RiverWords", "roadCount", "I", false)
  | _ => ("RiverWords", "readings", "I", false)
def tyX4 : Nat → FieldType := fun k => match k with
  | 0 => .object "RiverWords$Page"
  | 1 => .array (.object "RiverWords$Word")
  | 2 => .object "RiverWords$River"
  | 3 => .object "RiverWords$Draw"
  | 4 => .int
  | _ => .int
abbrev wsX40 : List Cond := u_ws RX4 TX4 6
theorem nmX4 : ∀ a, a < 6 → ∀ b, b < 6 → a ≠ b → (TX4 a).2.1 ≠ (TX4 b).2.1 := by decide +kernel
theorem tyX4_ok : ∀ k, k < 6 → parseFieldDescriptor (TX4 k).2.2.1 = some (tyX4 k) := by decide +kernel
abbrev cX4_init : ByteArray := prog_1_method_1_code
def yX4_init : MethodName := ⟨RX4, "<init>", "()V"⟩
abbrev cX4_letter : ByteArray := prog_1_method_2_code
def yX4_letter : MethodName := ⟨RX4, "letter", "(I)I"⟩
abbrev cX4_blank : ByteArray := prog_1_method_3_code
def yX4_blank : MethodName := ⟨RX4, "blank", "()I"⟩
abbrev cX4_fault : ByteArray := prog_1_method_4_code
def yX4_fault : MethodName := ⟨RX4, "fault", "()I"⟩
abbrev cX4_word : ByteArray := prog_1_method_5_code
def yX4_word : MethodName := ⟨RX4, "word", "()I"⟩
abbrev cX4_road : ByteArray := prog_1_method_6_code
def yX4_road : MethodName := ⟨RX4, "road", "(II)I"⟩
abbrev cX4_sign : ByteArray := prog_1_method_7_code
def yX4_sign : MethodName := ⟨RX4, "sign", "(II)I"⟩
abbrev cX4_table : ByteArray := prog_1_method_8_code
def yX4_table : MethodName := ⟨RX4, "table", "(II)I"⟩
abbrev cX4_form : ByteArray := prog_1_method_9_code
def yX4_form : MethodName := ⟨RX4, "form", "(II)I"⟩
abbrev cX4_end : ByteArray := prog_1_method_10_code
def yX4_end : MethodName := ⟨RX4, "end", "(II)I"⟩
abbrev cX4_alike : ByteArray := prog_1_method_11_code
def yX4_alike : MethodName := ⟨RX4, "alike", "(II)I"⟩
abbrev cX4_cross : ByteArray := prog_1_method_12_code
def yX4_cross : MethodName := ⟨RX4, "cross", "(II)I"⟩
abbrev cX4_turn : ByteArray := prog_1_method_13_code
def yX4_turn : MethodName := ⟨RX4, "turn", "(II)I"⟩
abbrev cX4_change : ByteArray := prog_1_method_14_code
def yX4_change : MethodName := ⟨RX4, "change", "(II)I"⟩
abbrev cX4_join : ByteArray := prog_1_method_15_code
def yX4_join : MethodName := ⟨RX4, "join", "(II)I"⟩
abbrev cX4_times : ByteArray := prog_1_method_16_code
def yX4_times : MethodName := ⟨RX4, "times", "(II)I"⟩
abbrev cX4_cut : ByteArray := prog_1_method_17_code
def yX4_cut : MethodName := ⟨RX4, "cut", "(II)I"⟩
abbrev cX4_drop : ByteArray := prog_1_method_18_code
def yX4_drop : MethodName := ⟨RX4, "drop", "()I"⟩
abbrev cX4_drawn : ByteArray := prog_1_method_27_code
def yX4_drawn : MethodName := ⟨RX4, "drawn", "(III)I"⟩
abbrev cX4_count : ByteArray := prog_1_method_28_code
def yX4_count : MethodName := ⟨RX4, "count", "(I)I"⟩
abbrev cX4_roadAt : ByteArray := prog_1_method_36_code
def yX4_roadAt : MethodName := ⟨RX4, "roadAt", "(I)LRiverWords$Word;"⟩
abbrev cX4_addRoad : ByteArray := prog_1_method_37_code
def yX4_addRoad : MethodName := ⟨RX4, "addRoad", "(II)I"⟩
abbrev cX4_isClosedRoad : ByteArray := prog_1_method_38_code
def yX4_isClosedRoad : MethodName := ⟨RX4, "isClosedRoad", "(I)Z"⟩
abbrev cX4_closedRoads : ByteArray := prog_1_method_39_code
def yX4_closedRoads : MethodName := ⟨RX4, "closedRoads", "()I"⟩
abbrev cX4_roadClasses : ByteArray := prog_1_method_40_code
def yX4_roadClasses : MethodName := ⟨RX4, "roadClasses", "()I"⟩
abbrev cX4_isFirstOfClass : ByteArray := prog_1_method_41_code
def yX4_isFirstOfClass : MethodName := ⟨RX4, "isFirstOfClass", "(I)Z"⟩
abbrev cX4_code : ByteArray := prog_1_method_42_code
def yX4_code : MethodName := ⟨RX4, "code", "(I)I"⟩
abbrev cX4_discriminantOf : ByteArray := prog_1_method_44_code
def yX4_discriminantOf : MethodName := ⟨RX4, "discriminantOf", "(III)I"⟩
abbrev cX4_commonDivisor : ByteArray := prog_1_method_46_code
def yX4_commonDivisor : MethodName := ⟨RX4, "commonDivisor", "(II)I"⟩
def RX5 : String := "RiverWordsModel"
def TX5 : u_T := fun k => match k with
  | _ => ("", "", "", false)
def tyX5 : Nat → FieldType := fun k => match k with
  | _ => .int
abbrev wsX50 : List Cond := u_ws RX5 TX5 0
theorem nmX5 : ∀ a, a < 0 → ∀ b, b < 0 → a ≠ b → (TX5 a).2.1 ≠ (TX5 b).2.1 := by decide +kernel
theorem tyX5_ok : ∀ k, k < 0 → parseFieldDescriptor (TX5 k).2.2.1 = some (tyX5 k) := by decide +kernel
def RJ6 : String := "java/lang/Integer"
def TJ6 : u_T := fun k => match k with
  | _ => ("", "", "", false)
def tyJ6 : Nat → FieldType := fun k => match k with
  | _ => .int
abbrev wsJ60 : List Cond := u_ws RJ6 TJ6 0
theorem nmJ6 : ∀ a, a < 0 → ∀ b, b < 0 → a ≠ b → (TJ6 a).2.1 ≠ (TJ6 b).2.1 := by decide +kernel
theorem tyJ6_ok : ∀ k, k < 0 → parseFieldDescriptor (TJ6 k).2.2.1 = some (tyJ6 k) := by decide +kernel
abbrev cJ6_bitCount_0f7a4 : ByteArray := prog_8_method_49_code
def yJ6_bitCount_0f7a4 : MethodName := ⟨RJ6, "bitCount", "(I)I"⟩
def RJ9 : String := "java/lang/Math"
def TJ9 : u_T := fun k => match k with
  | _ => ("", "", "", false)
def tyJ9 : Nat → FieldType := fun k => match k with
  | _ => .int
abbrev wsJ90 : List Cond := u_ws RJ9 TJ9 0
theorem nmJ9 : ∀ a, a < 0 → ∀ b, b < 0 → a ≠ b → (TJ9 a).2.1 ≠ (TJ9 b).2.1 := by decide +kernel
theorem tyJ9_ok : ∀ k, k < 0 → parseFieldDescriptor (TJ9 k).2.2.1 = some (tyJ9 k) := by decide +kernel
abbrev cJ9_abs_0f7a4 : ByteArray := prog_9_method_59_code
def yJ9_abs_0f7a4 : MethodName := ⟨RJ9, "abs", "(I)I"⟩
abbrev cJ9_max_7cf53 : ByteArray := prog_9_method_65_code
def yJ9_max_7cf53 : MethodName := ⟨RJ9, "max", "(II)I"⟩
def RL : String := "RiverWordsLaw"
abbrev cL_cell : ByteArray := method_2_code
def yL_cell : MethodName := ⟨RL, "cell", "([II)I"⟩
abbrev cL_at : ByteArray := method_3_code
def yL_at : MethodName := ⟨RL, "at", "(II)I"⟩
abbrev cL_size : ByteArray := method_4_code
def yL_size : MethodName := ⟨RL, "size", "(I)I"⟩
abbrev cL_bit : ByteArray := method_5_code
def yL_bit : MethodName := ⟨RL, "bit", "(II)I"⟩
abbrev cL_round : ByteArray := method_6_code
def yL_round : MethodName := ⟨RL, "round", "(II)I"⟩
abbrev cL_with : ByteArray := method_7_code
def yL_with : MethodName := ⟨RL, "with", "(II)I"⟩
abbrev cL_turned : ByteArray := method_8_code
def yL_turned : MethodName := ⟨RL, "turned", "(II)I"⟩
abbrev cL_back : ByteArray := method_9_code
def yL_back : MethodName := ⟨RL, "back", "(I)I"⟩
abbrev cL_mirror : ByteArray := method_10_code
def yL_mirror : MethodName := ⟨RL, "mirror", "(I)I"⟩
abbrev cL_join : ByteArray := method_11_code
def yL_join : MethodName := ⟨RL, "join", "(II)I"⟩
abbrev cL_rights : ByteArray := method_12_code
def yL_rights : MethodName := ⟨RL, "rights", "(I)I"⟩
abbrev cL_isClosed : ByteArray := method_13_code
def yL_isClosed : MethodName := ⟨RL, "isClosed", "(I)Z"⟩
abbrev cL_rank : ByteArray := method_14_code
def yL_rank : MethodName := ⟨RL, "rank", "(I)I"⟩
abbrev cL_least : ByteArray := method_15_code
def yL_least : MethodName := ⟨RL, "least", "(I)I"⟩
abbrev cL_alike : ByteArray := method_16_code
def yL_alike : MethodName := ⟨RL, "alike", "(II)Z"⟩
abbrev cL_table : ByteArray := method_17_code
def yL_table : MethodName := ⟨RL, "table", "(I[I)V"⟩
abbrev cL_gcd : ByteArray := method_18_code
def yL_gcd : MethodName := ⟨RL, "gcd", "(II)I"⟩
abbrev cL_wordBy : ByteArray := method_19_code
def yL_wordBy : MethodName := ⟨RL, "wordBy", "(II)I"⟩
abbrev cL_write : ByteArray := method_20_code
def yL_write : MethodName := ⟨RL, "write", "(II[I)I"⟩
abbrev cL_spell : ByteArray := method_21_code
def yL_spell : MethodName := ⟨RL, "spell", "(LRiverWords;[II)Z"⟩
abbrev cL_crossings : ByteArray := method_22_code
def yL_crossings : MethodName := ⟨RL, "crossings", "(II)I"⟩
abbrev cL_period : ByteArray := method_23_code
def yL_period : MethodName := ⟨RL, "period", "(I)I"⟩
abbrev cL_road : ByteArray := method_24_code
def yL_road : MethodName := ⟨RL, "road", "(LRiverWords;II[I)Z"⟩
abbrev cL_stands : ByteArray := method_25_code
def yL_stands : MethodName := ⟨RL, "stands", "(LRiverWords;[II[I)Z"⟩
abbrev cL_crosses : ByteArray := method_26_code
def yL_crosses : MethodName := ⟨RL, "crosses", "(LRiverWords;[II)Z"⟩
abbrev cL_comes : ByteArray := method_27_code
def yL_comes : MethodName := ⟨RL, "comes", "([IIII)I"⟩
abbrev cL_cutTo : ByteArray := method_28_code
def yL_cutTo : MethodName := ⟨RL, "cutTo", "(II)I"⟩
abbrev cL_does : ByteArray := method_29_code
def yL_does : MethodName := ⟨RL, "does", "(LRiverWords;[I[III[I)Z"⟩
abbrev cL_drawn : ByteArray := method_30_code
def yL_drawn : MethodName := ⟨RL, "drawn", "(LRiverWords;II[I)Z"⟩
abbrev cL_law : ByteArray := code
def yL_law : MethodName := ⟨RL, "law", "([I)Z"⟩
def wsX3_bitAt : List Cond := .code yX3_bitAt cX3_bitAt 2 (some .int) :: ([.fieldLink RX3 15 "RiverWords$Word" "bits" "I", .fieldLink RX3 19 "RiverWords$Word" "size" "I"] ++ wsX30)
def wsX3_become : List Cond := .code yX3_become cX3_become 4 none :: ([.fieldLink RX3 15 "RiverWords$Word" "bits" "I", .fieldLink RX3 19 "RiverWords$Word" "size" "I", .fieldLink RX3 22 "RiverWords$Word" "allBits" "I", .fieldLink RX3 25 "RiverWords$Word" "a" "I", .fieldLink RX3 28 "RiverWords$Word" "b" "I", .fieldLink RX3 31 "RiverWords$Word" "c" "I", .fieldLink RX3 34 "RiverWords$Word" "d" "I", .methodLink RX3 37 yX3_bitAt, .instanceMethod yX3_bitAt, .selects RX3 yX3_bitAt yX3_bitAt, .initialized RX3, .code yX3_bitAt cX3_bitAt 2 (some .int)] ++ wsX30)
def wsX3_init : List Cond := .code yX3_init cX3_init 3 none :: ([.methodLink RX3 3 objectInit, .instanceMethod objectInit, .code objectInit ⟨#[0xb1]⟩ 1 none, .methodLink RX3 9 yX3_become, .instanceMethod yX3_become, .selects RX3 yX3_become yX3_become, .initialized RX3, .code yX3_become cX3_become 4 none, .fieldLink RX3 15 "RiverWords$Word" "bits" "I", .fieldLink RX3 19 "RiverWords$Word" "size" "I", .fieldLink RX3 22 "RiverWords$Word" "allBits" "I", .fieldLink RX3 25 "RiverWords$Word" "a" "I", .fieldLink RX3 28 "RiverWords$Word" "b" "I", .fieldLink RX3 31 "RiverWords$Word" "c" "I", .fieldLink RX3 34 "RiverWords$Word" "d" "I", .methodLink RX3 37 yX3_bitAt, .instanceMethod yX3_bitAt, .selects RX3 yX3_bitAt yX3_bitAt, .code yX3_bitAt cX3_bitAt 2 (some .int)] ++ wsX30)
def wsX0_init_r1 : List Cond := [Cond.methodLink RX0 1 objectInit, Cond.instanceMethod objectInit, Cond.code objectInit ⟨#[0xb1]⟩ 1 none, Cond.classLink RX0 7 RX3, Cond.instantiable RX3 7, Cond.initialized RX3, Cond.fieldLink RX0 14 "RiverWords$Draw" "before" "LRiverWords$Word;", Cond.fieldLink RX0 18 "RiverWords$Draw" "now" "LRiverWords$Word;", Cond.methodLink RX0 11 yX3_init, Cond.instanceMethod yX3_init, Cond.code yX3_init cX3_init 3 none, Cond.methodLink RX3 3 objectInit, Cond.methodLink RX3 9 yX3_become, Cond.instanceMethod yX3_become, Cond.selects RX3 yX3_become yX3_become, Cond.code yX3_become cX3_become 4 none, Cond.fieldLink RX3 15 "RiverWords$Word" "bits" "I", Cond.fieldLink RX3 19 "RiverWords$Word" "size" "I", Cond.fieldLink RX3 22 "RiverWords$Word" "allBits" "I", Cond.fieldLink RX3 25 "RiverWords$Word" "a" "I", Cond.fieldLink RX3 28 "RiverWords$Word" "b" "I", Cond.fieldLink RX3 31 "RiverWords$Word" "c" "I", Cond.fieldLink RX3 34 "RiverWords$Word" "d" "I", Cond.methodLink RX3 37 yX3_bitAt]
def wsX0_init_r2 : List Cond := [Cond.instanceMethod yX3_bitAt, Cond.selects RX3 yX3_bitAt yX3_bitAt, Cond.code yX3_bitAt cX3_bitAt 2 (some .int)]
def wsX0_init : List Cond := .code yX0_init cX0_init 1 none :: ((wsX0_init_r1 ++ wsX0_init_r2) ++ wsX30 ++ wsX00)
def wsX0_nextBits : List Cond := .code yX0_nextBits cX0_nextBits 3 (some .int) :: ([.constantLong RX0 48 (1103515245), .fieldLink RX0 21 "RiverWords$Draw" "s" "J", .constantLong RX0 50 (12345), .constantLong RX0 52 (2147483648), .constantLong RX0 54 (65536), .constantLong RX0 56 (2)] ++ wsX00)
def wsX3_isClosed : List Cond := .code yX3_isClosed cX3_isClosed 1 (some .boolean) :: ([.fieldLink RX3 15 "RiverWords$Word" "bits" "I", .fieldLink RX3 22 "RiverWords$Word" "allBits" "I"] ++ wsX30)
def wsX3_traceSum : List Cond := .code yX3_traceSum cX3_traceSum 1 (some .int) :: ([.fieldLink RX3 25 "RiverWords$Word" "a" "I", .fieldLink RX3 34 "RiverWords$Word" "d" "I"] ++ wsX30)
def wsX3_crosses : List Cond := .code yX3_crosses cX3_crosses 7 (some .boolean) :: ([.fieldLink RX3 19 "RiverWords$Word" "size" "I", .methodLink RX3 37 yX3_bitAt, .instanceMethod yX3_bitAt, .selects RX3 yX3_bitAt yX3_bitAt, .initialized RX3, .code yX3_bitAt cX3_bitAt 2 (some .int), .fieldLink RX3 15 "RiverWords$Word" "bits" "I"] ++ wsX30)
def wsX3_crossings : List Cond := .code yX3_crossings cX3_crossings 5 (some .int) :: ([.fieldLink RX3 19 "RiverWords$Word" "size" "I", .methodLink RX3 37 yX3_bitAt, .instanceMethod yX3_bitAt, .selects RX3 yX3_bitAt yX3_bitAt, .initialized RX3, .code yX3_bitAt cX3_bitAt 2 (some .int), .fieldLink RX3 15 "RiverWords$Word" "bits" "I", .methodLink RX3 66 yX3_crosses, .instanceMethod yX3_crosses, .selects RX3 yX3_crosses yX3_crosses, .code yX3_crosses cX3_crosses 7 (some .boolean)] ++ wsX30)
def wsX0_tell_r1 : List Cond := [Cond.fieldLink RX0 18 "RiverWords$Draw" "now" "LRiverWords$Word;", Cond.fieldLink RX0 25 "RiverWords$Draw" "closed" "I", Cond.fieldLink RX0 29 "RiverWords$Draw" "traces" "I", Cond.fieldLink RX0 14 "RiverWords$Draw" "before" "LRiverWords$Word;", Cond.fieldLink RX0 32 "RiverWords$Draw" "crossings" "I", Cond.methodLink RX0 58 yX3_isClosed, Cond.instanceMethod yX3_isClosed, Cond.selects RX3 yX3_isClosed yX3_isClosed, Cond.initialized RX3, Cond.code yX3_isClosed cX3_isClosed 1 (some .boolean), Cond.fieldLink RX3 15 "RiverWords$Word" "bits" "I", Cond.fieldLink RX3 22 "RiverWords$Word" "allBits" "I", Cond.methodLink RX0 62 yX3_traceSum, Cond.instanceMethod yX3_traceSum, Cond.selects RX3 yX3_traceSum yX3_traceSum, Cond.code yX3_traceSum cX3_traceSum 1 (some .int), Cond.fieldLink RX3 25 "RiverWords$Word" "a" "I", Cond.fieldLink RX3 34 "RiverWords$Word" "d" "I", Cond.methodLink RX0 65 yX3_crossings, Cond.instanceMethod yX3_crossings, Cond.selects RX3 yX3_crossings yX3_crossings, Cond.code yX3_crossings cX3_crossings 5 (some .int), Cond.fieldLink RX3 19 "RiverWords$Word" "size" "I", Cond.methodLink RX3 37 yX3_bitAt]
def wsX0_tell_r2 : List Cond := [Cond.instanceMethod yX3_bitAt, Cond.selects RX3 yX3_bitAt yX3_bitAt, Cond.code yX3_bitAt cX3_bitAt 2 (some .int), Cond.methodLink RX3 66 yX3_crosses, Cond.instanceMethod yX3_crosses, Cond.selects RX3 yX3_crosses yX3_crosses, Cond.code yX3_crosses cX3_crosses 7 (some .boolean)]
def wsX0_tell : List Cond := .code yX0_tell cX0_tell 1 none :: ((wsX0_tell_r1 ++ wsX0_tell_r2) ++ wsX00 ++ wsX30)
def wsX0_run_r1 : List Cond := [Cond.fieldLink RX0 21 "RiverWords$Draw" "s" "J", Cond.fieldLink RX0 25 "RiverWords$Draw" "closed" "I", Cond.fieldLink RX0 29 "RiverWords$Draw" "traces" "I", Cond.fieldLink RX0 32 "RiverWords$Draw" "crossings" "I", Cond.fieldLink RX0 18 "RiverWords$Draw" "now" "LRiverWords$Word;", Cond.fieldLink RX0 14 "RiverWords$Draw" "before" "LRiverWords$Word;", Cond.fieldLink RX0 38 "RiverWords$Word" "bits" "I", Cond.methodLink RX0 35 yX3_become, Cond.instanceMethod yX3_become, Cond.selects RX3 yX3_become yX3_become, Cond.initialized RX3, Cond.code yX3_become cX3_become 4 none, Cond.fieldLink RX3 15 "RiverWords$Word" "bits" "I", Cond.fieldLink RX3 19 "RiverWords$Word" "size" "I", Cond.fieldLink RX3 22 "RiverWords$Word" "allBits" "I", Cond.fieldLink RX3 25 "RiverWords$Word" "a" "I", Cond.fieldLink RX3 28 "RiverWords$Word" "b" "I", Cond.fieldLink RX3 31 "RiverWords$Word" "c" "I", Cond.fieldLink RX3 34 "RiverWords$Word" "d" "I", Cond.methodLink RX3 37 yX3_bitAt, Cond.instanceMethod yX3_bitAt, Cond.selects RX3 yX3_bitAt yX3_bitAt, Cond.code yX3_bitAt cX3_bitAt 2 (some .int), Cond.methodLink RX0 41 yX0_nextBits]
def wsX0_run_r2 : List Cond := [Cond.instanceMethod yX0_nextBits, Cond.selects RX0 yX0_nextBits yX0_nextBits, Cond.initialized RX0, Cond.code yX0_nextBits cX0_nextBits 3 (some .int), Cond.constantLong RX0 48 (1103515245), Cond.constantLong RX0 50 (12345), Cond.constantLong RX0 52 (2147483648), Cond.constantLong RX0 54 (65536), Cond.constantLong RX0 56 (2), Cond.methodLink RX0 45 yX0_tell, Cond.instanceMethod yX0_tell, Cond.selects RX0 yX0_tell yX0_tell, Cond.code yX0_tell cX0_tell 1 none, Cond.methodLink RX0 58 yX3_isClosed, Cond.instanceMethod yX3_isClosed, Cond.selects RX3 yX3_isClosed yX3_isClosed, Cond.code yX3_isClosed cX3_isClosed 1 (some .boolean), Cond.methodLink RX0 62 yX3_traceSum, Cond.instanceMethod yX3_traceSum, Cond.selects RX3 yX3_traceSum yX3_traceSum, Cond.code yX3_traceSum cX3_traceSum 1 (some .int), Cond.methodLink RX0 65 yX3_crossings, Cond.instanceMethod yX3_crossings, Cond.selects RX3 yX3_crossings yX3_crossings]
def wsX0_run_r3 : List Cond := [Cond.code yX3_crossings cX3_crossings 5 (some .int), Cond.methodLink RX3 66 yX3_crosses, Cond.instanceMethod yX3_crosses, Cond.selects RX3 yX3_crosses yX3_crosses, Cond.code yX3_crosses cX3_crosses 7 (some .boolean)]
def wsX0_run : List Cond := .code yX0_run cX0_run 4 none :: ((wsX0_run_r1 ++ (wsX0_run_r2 ++ wsX0_run_r3)) ++ wsX00 ++ wsX30)
def wsX1_init : List Cond := .code yX1_init cX1_init 1 none :: ([.methodLink RX1 3 objectInit, .instanceMethod objectInit, .code objectInit ⟨#[0xb1]⟩ 1 none, .arrayClass .int, .fieldLink RX1 9 "RiverWords$Page" "codes" "[I"] ++ wsX10)
def wsX1_clear : List Cond := .code yX1_clear cX1_clear 1 none :: ([.fieldLink RX1 15 "RiverWords$Page" "size" "I", .fieldLink RX1 19 "RiverWords$Page" "good" "I", .fieldLink RX1 22 "RiverWords$Page" "bits" "I", .fieldLink RX1 25 "RiverWords$Page" "letters" "I", .fieldLink RX1 28 "RiverWords$Page" "afterLetter" "Z"] ++ wsX10)
def wsX1_continues : List Cond := .code yX1_continues cX1_continues 7 (some .boolean) :: ([.fieldLink RX1 28 "RiverWords$Page" "afterLetter" "Z", .fieldLink RX1 25 "RiverWords$Page" "letters" "I", .fieldLink RX1 22 "RiverWords$Page" "bits" "I"] ++ wsX10)
def wsX1_append : List Cond := .code yX1_append cX1_append 2 none :: ([.fieldLink RX1 15 "RiverWords$Page" "size" "I", .fieldLink RX1 9 "RiverWords$Page" "codes" "[I", .fieldLink RX1 19 "RiverWords$Page" "good" "I", .methodLink RX1 32 yX1_continues, .instanceMethod yX1_continues, .selects RX1 yX1_continues yX1_continues, .initialized RX1, .code yX1_continues cX1_continues 7 (some .boolean), .fieldLink RX1 28 "RiverWords$Page" "afterLetter" "Z", .fieldLink RX1 25 "RiverWords$Page" "letters" "I", .fieldLink RX1 22 "RiverWords$Page" "bits" "I"] ++ wsX10)
def wsX1_isWord : List Cond := .code yX1_isWord cX1_isWord 1 (some .boolean) :: ([.fieldLink RX1 15 "RiverWords$Page" "size" "I", .fieldLink RX1 19 "RiverWords$Page" "good" "I"] ++ wsX10)
def wsX2_init : List Cond := .code yX2_init cX2_init 1 none :: ([.methodLink RX2 3 objectInit, .instanceMethod objectInit, .code objectInit ⟨#[0xb1]⟩ 1 none, .classLink RX2 11 "[[I", .arrayClass .int, .fieldLink RX2 13 "RiverWords$River" "forms" "[[I", .fieldLink RX2 16 "RiverWords$River" "cycles" "[[I"] ++ wsX20)
def wsX3_rotation : List Cond := .code yX3_rotation cX3_rotation 2 (some .int) :: ([.fieldLink RX3 15 "RiverWords$Word" "bits" "I", .fieldLink RX3 19 "RiverWords$Word" "size" "I", .fieldLink RX3 22 "RiverWords$Word" "allBits" "I"] ++ wsX30)
def wsX3_reversal : List Cond := .code yX3_reversal cX3_reversal 3 (some .int) :: ([.fieldLink RX3 19 "RiverWords$Word" "size" "I", .methodLink RX3 37 yX3_bitAt, .instanceMethod yX3_bitAt, .selects RX3 yX3_bitAt yX3_bitAt, .initialized RX3, .code yX3_bitAt cX3_bitAt 2 (some .int), .fieldLink RX3 15 "RiverWords$Word" "bits" "I"] ++ wsX30)
def wsX3_complement : List Cond := .code yX3_complement cX3_complement 2 (some .int) :: ([.fieldLink RX3 22 "RiverWords$Word" "allBits" "I"] ++ wsX30)
def wsX3_leastTurn : List Cond := .code yX3_leastTurn cX3_leastTurn 3 (some .int) :: ([.fieldLink RX3 19 "RiverWords$Word" "size" "I", .methodLink RX3 51 yX3_rotation, .instanceMethod yX3_rotation, .selects RX3 yX3_rotation yX3_rotation, .initialized RX3, .code yX3_rotation cX3_rotation 2 (some .int), .fieldLink RX3 15 "RiverWords$Word" "bits" "I", .fieldLink RX3 22 "RiverWords$Word" "allBits" "I"] ++ wsX30)
def wsX3_changed : List Cond := .code yX3_changed cX3_changed 2 (some .int) :: ([.fieldLink RX3 15 "RiverWords$Word" "bits" "I", .methodLink RX3 41 yX3_reversal, .instanceMethod yX3_reversal, .selects RX3 yX3_reversal yX3_reversal, .initialized RX3, .code yX3_reversal cX3_reversal 3 (some .int), .fieldLink RX3 19 "RiverWords$Word" "size" "I", .methodLink RX3 37 yX3_bitAt, .instanceMethod yX3_bitAt, .selects RX3 yX3_bitAt yX3_bitAt, .code yX3_bitAt cX3_bitAt 2 (some .int), .methodLink RX3 45 yX3_complement, .instanceMethod yX3_complement, .selects RX3 yX3_complement yX3_complement, .code yX3_complement cX3_complement 2 (some .int), .fieldLink RX3 22 "RiverWords$Word" "allBits" "I", .methodLink RX3 48 yX3_leastTurn, .instanceMethod yX3_leastTurn, .selects RX3 yX3_leastTurn yX3_leastTurn, .code yX3_leastTurn cX3_leastTurn 3 (some .int), .methodLink RX3 51 yX3_rotation, .instanceMethod yX3_rotation, .selects RX3 yX3_rotation yX3_rotation, .code yX3_rotation cX3_rotation 2 (some .int)] ++ wsX30)
def wsX3_turnTo : List Cond := .code yX3_turnTo cX3_turnTo 4 (some .int) :: ([.fieldLink RX3 19 "RiverWords$Word" "size" "I", .constant RX3 54 (-2000000001), .methodLink RX3 51 yX3_rotation, .instanceMethod yX3_rotation, .selects RX3 yX3_rotation yX3_rotation, .initialized RX3, .code yX3_rotation cX3_rotation 2 (some .int), .fieldLink RX3 15 "RiverWords$Word" "bits" "I", .fieldLink RX3 22 "RiverWords$Word" "allBits" "I"] ++ wsX30)
def wsX3_isConjugate : List Cond := .code yX3_isConjugate cX3_isConjugate 2 (some .boolean) :: ([.constant RX3 54 (-2000000001), .methodLink RX3 55 yX3_turnTo, .instanceMethod yX3_turnTo, .selects RX3 yX3_turnTo yX3_turnTo, .initialized RX3, .code yX3_turnTo cX3_turnTo 4 (some .int), .fieldLink RX3 19 "RiverWords$Word" "size" "I", .methodLink RX3 51 yX3_rotation, .instanceMethod yX3_rotation, .selects RX3 yX3_rotation yX3_rotation, .code yX3_rotation cX3_rotation 2 (some .int), .fieldLink RX3 15 "RiverWords$Word" "bits" "I", .fieldLink RX3 22 "RiverWords$Word" "allBits" "I"] ++ wsX30)
def wsX3_period : List Cond := .code yX3_period cX3_period 2 (some .int) :: ([.fieldLink RX3 15 "RiverWords$Word" "bits" "I", .constant RX3 54 (-2000000001), .fieldLink RX3 19 "RiverWords$Word" "size" "I", .methodLink RX3 55 yX3_turnTo, .instanceMethod yX3_turnTo, .selects RX3 yX3_turnTo yX3_turnTo, .initialized RX3, .code yX3_turnTo cX3_turnTo 4 (some .int), .methodLink RX3 51 yX3_rotation, .instanceMethod yX3_rotation, .selects RX3 yX3_rotation yX3_rotation, .code yX3_rotation cX3_rotation 2 (some .int), .fieldLink RX3 22 "RiverWords$Word" "allBits" "I"] ++ wsX30)
def wsX4_commonDivisor : List Cond := .code yX4_commonDivisor cX4_commonDivisor 6 (some .int) :: ([.methodLink RX4 290 Lib.Math.abs.name, .static Lib.Math.abs.name, .initialized "java/lang/Math", .code Lib.Math.abs.name Lib.Math.abs.code 1 (some .int), .methodLink RX4 295 Lib.Math.max.name, .static Lib.Math.max.name, .code Lib.Math.max.name Lib.Math.max.code 2 (some .int)])
def wsX4_discriminantOf : List Cond := .code yX4_discriminantOf cX4_discriminantOf 3 (some .int) :: ([])
def wsX3_formNumber : List Cond := .code yX3_formNumber cX3_formNumber 6 (some .int) :: ([.fieldLink RX3 31 "RiverWords$Word" "c" "I", .fieldLink RX3 34 "RiverWords$Word" "d" "I", .fieldLink RX3 25 "RiverWords$Word" "a" "I", .fieldLink RX3 28 "RiverWords$Word" "b" "I", .static yX4_commonDivisor, .initialized RX4, .code yX4_commonDivisor cX4_commonDivisor 6 (some .int), .methodLink RX4 290 Lib.Math.abs.name, .static Lib.Math.abs.name, .initialized "java/lang/Math", .code Lib.Math.abs.name Lib.Math.abs.code 1 (some .int), .methodLink RX4 295 Lib.Math.max.name, .static Lib.Math.max.name, .code Lib.Math.max.name Lib.Math.max.code 2 (some .int), .static yX4_discriminantOf, .code yX4_discriminantOf cX4_discriminantOf 3 (some .int)] ++ wsX30)
def wsX4_init_r1 : List Cond := [Cond.methodLink RX4 1 objectInit, Cond.instanceMethod objectInit, Cond.code objectInit ⟨#[0xb1]⟩ 1 none, Cond.classLink RX4 7 RX1, Cond.instantiable RX1 6, Cond.initialized RX1, Cond.fieldLink RX4 10 "RiverWords" "page" "LRiverWords$Page;", Cond.classLink RX4 16 RX3, Cond.fieldLink RX4 18 "RiverWords" "roads" "[LRiverWords$Word;", Cond.classLink RX4 22 RX2, Cond.instantiable RX2 5, Cond.initialized RX2, Cond.fieldLink RX4 25 "RiverWords" "river" "LRiverWords$River;", Cond.classLink RX4 29 RX0, Cond.instantiable RX0 6, Cond.initialized RX0, Cond.fieldLink RX4 32 "RiverWords" "draw" "LRiverWords$Draw;", Cond.instanceMethod yX1_init, Cond.code yX1_init cX1_init 1 none, Cond.methodLink RX1 3 objectInit, Cond.arrayClass .int, Cond.fieldLink RX1 9 "RiverWords$Page" "codes" "[I", Cond.instanceMethod yX2_init, Cond.code yX2_init cX2_init 1 none]
def wsX4_init_r2 : List Cond := [Cond.methodLink RX2 3 objectInit, Cond.classLink RX2 11 "[[I", Cond.fieldLink RX2 13 "RiverWords$River" "forms" "[[I", Cond.fieldLink RX2 16 "RiverWords$River" "cycles" "[[I", Cond.instanceMethod yX0_init, Cond.code yX0_init cX0_init 1 none, Cond.methodLink RX0 1 objectInit, Cond.classLink RX0 7 RX3, Cond.instantiable RX3 7, Cond.initialized RX3, Cond.fieldLink RX0 14 "RiverWords$Draw" "before" "LRiverWords$Word;", Cond.fieldLink RX0 18 "RiverWords$Draw" "now" "LRiverWords$Word;", Cond.methodLink RX0 11 yX3_init, Cond.instanceMethod yX3_init, Cond.code yX3_init cX3_init 3 none, Cond.methodLink RX3 3 objectInit, Cond.methodLink RX3 9 yX3_become, Cond.instanceMethod yX3_become, Cond.selects RX3 yX3_become yX3_become, Cond.code yX3_become cX3_become 4 none, Cond.fieldLink RX3 15 "RiverWords$Word" "bits" "I", Cond.fieldLink RX3 19 "RiverWords$Word" "size" "I", Cond.fieldLink RX3 22 "RiverWords$Word" "allBits" "I", Cond.fieldLink RX3 25 "RiverWords$Word" "a" "I"]
def wsX4_init_r3 : List Cond := [Cond.fieldLink RX3 28 "RiverWords$Word" "b" "I", Cond.fieldLink RX3 31 "RiverWords$Word" "c" "I", Cond.fieldLink RX3 34 "RiverWords$Word" "d" "I", Cond.methodLink RX3 37 yX3_bitAt, Cond.instanceMethod yX3_bitAt, Cond.selects RX3 yX3_bitAt yX3_bitAt, Cond.code yX3_bitAt cX3_bitAt 2 (some .int)]
def wsX4_init : List Cond := .code yX4_init cX4_init 1 none :: ((wsX4_init_r1 ++ (wsX4_init_r2 ++ wsX4_init_r3)) ++ wsX10 ++ wsX40 ++ wsX20 ++ wsX00 ++ wsX30)
def wsX4_letter : List Cond := .code yX4_letter cX4_letter 2 (some .int) :: ([.constant RX4 36 (-2000000102), .fieldLink RX4 10 "RiverWords" "page" "LRiverWords$Page;", .fieldLink RX4 37 "RiverWords$Page" "size" "I", .constant RX4 41 (-2000000104), .methodLink RX4 42 yX1_append, .instanceMethod yX1_append, .selects RX1 yX1_append yX1_append, .initialized RX1, .code yX1_append cX1_append 2 none, .fieldLink RX1 15 "RiverWords$Page" "size" "I", .fieldLink RX1 9 "RiverWords$Page" "codes" "[I", .fieldLink RX1 19 "RiverWords$Page" "good" "I", .methodLink RX1 32 yX1_continues, .instanceMethod yX1_continues, .selects RX1 yX1_continues yX1_continues, .code yX1_continues cX1_continues 7 (some .boolean), .fieldLink RX1 28 "RiverWords$Page" "afterLetter" "Z", .fieldLink RX1 25 "RiverWords$Page" "letters" "I", .fieldLink RX1 22 "RiverWords$Page" "bits" "I"] ++ wsX40 ++ wsX10)
def wsX4_blank : List Cond := .code yX4_blank cX4_blank 2 (some .int) :: ([.fieldLink RX4 10 "RiverWords" "page" "LRiverWords$Page;", .fieldLink RX4 37 "RiverWords$Page" "size" "I", .methodLink RX4 46 yX1_clear, .instanceMethod yX1_clear, .selects RX1 yX1_clear yX1_clear, .initialized RX1, .code yX1_clear cX1_clear 1 none, .fieldLink RX1 15 "RiverWords$Page" "size" "I", .fieldLink RX1 19 "RiverWords$Page" "good" "I", .fieldLink RX1 22 "RiverWords$Page" "bits" "I", .fieldLink RX1 25 "RiverWords$Page" "letters" "I", .fieldLink RX1 28 "RiverWords$Page" "afterLetter" "Z"] ++ wsX40 ++ wsX10)
def wsX4_fault : List Cond := .code yX4_fault cX4_fault 1 (some .int) :: ([.fieldLink RX4 10 "RiverWords" "page" "LRiverWords$Page;", .fieldLink RX4 49 "RiverWords$Page" "good" "I"] ++ wsX40 ++ wsX10)
def wsX4_addRoad_r1 : List Cond := [Cond.constant RX4 56 (-2000000103), Cond.fieldLink RX4 148 "RiverWords" "roadCount" "I", Cond.fieldLink RX4 18 "RiverWords" "roads" "[LRiverWords$Word;", Cond.constant RX4 41 (-2000000104), Cond.classLink RX4 16 RX3, Cond.instantiable RX3 7, Cond.initialized RX3, Cond.methodLink RX4 282 yX3_init, Cond.instanceMethod yX3_init, Cond.code yX3_init cX3_init 3 none, Cond.methodLink RX3 3 objectInit, Cond.instanceMethod objectInit, Cond.code objectInit ⟨#[0xb1]⟩ 1 none, Cond.methodLink RX3 9 yX3_become, Cond.instanceMethod yX3_become, Cond.selects RX3 yX3_become yX3_become, Cond.code yX3_become cX3_become 4 none, Cond.fieldLink RX3 15 "RiverWords$Word" "bits" "I", Cond.fieldLink RX3 19 "RiverWords$Word" "size" "I", Cond.fieldLink RX3 22 "RiverWords$Word" "allBits" "I", Cond.fieldLink RX3 25 "RiverWords$Word" "a" "I", Cond.fieldLink RX3 28 "RiverWords$Word" "b" "I", Cond.fieldLink RX3 31 "RiverWords$Word" "c" "I", Cond.fieldLink RX3 34 "RiverWords$Word" "d" "I"]
def wsX4_addRoad_r2 : List Cond := [Cond.methodLink RX3 37 yX3_bitAt, Cond.instanceMethod yX3_bitAt, Cond.selects RX3 yX3_bitAt yX3_bitAt, Cond.code yX3_bitAt cX3_bitAt 2 (some .int)]
def wsX4_addRoad : List Cond := .code yX4_addRoad cX4_addRoad 4 (some .int) :: ((wsX4_addRoad_r1 ++ wsX4_addRoad_r2) ++ wsX40 ++ wsX30)
def wsX4_word_r1 : List Cond := [Cond.fieldLink RX4 10 "RiverWords" "page" "LRiverWords$Page;", Cond.constant RX4 56 (-2000000103), Cond.fieldLink RX4 57 "RiverWords$Page" "bits" "I", Cond.fieldLink RX4 60 "RiverWords$Page" "letters" "I", Cond.fieldLink RX4 67 "RiverWords" "readings" "I", Cond.methodLink RX4 52 yX1_isWord, Cond.instanceMethod yX1_isWord, Cond.selects RX1 yX1_isWord yX1_isWord, Cond.initialized RX1, Cond.code yX1_isWord cX1_isWord 1 (some .boolean), Cond.fieldLink RX1 15 "RiverWords$Page" "size" "I", Cond.fieldLink RX1 19 "RiverWords$Page" "good" "I", Cond.methodLink RX4 63 yX4_addRoad, Cond.instanceMethod yX4_addRoad, Cond.selects RX4 yX4_addRoad yX4_addRoad, Cond.initialized RX4, Cond.code yX4_addRoad cX4_addRoad 4 (some .int), Cond.fieldLink RX4 148 "RiverWords" "roadCount" "I", Cond.fieldLink RX4 18 "RiverWords" "roads" "[LRiverWords$Word;", Cond.constant RX4 41 (-2000000104), Cond.classLink RX4 16 RX3, Cond.instantiable RX3 7, Cond.initialized RX3, Cond.methodLink RX4 282 yX3_init]
def wsX4_word_r2 : List Cond := [Cond.instanceMethod yX3_init, Cond.code yX3_init cX3_init 3 none, Cond.methodLink RX3 3 objectInit, Cond.instanceMethod objectInit, Cond.code objectInit ⟨#[0xb1]⟩ 1 none, Cond.methodLink RX3 9 yX3_become, Cond.instanceMethod yX3_become, Cond.selects RX3 yX3_become yX3_become, Cond.code yX3_become cX3_become 4 none, Cond.fieldLink RX3 15 "RiverWords$Word" "bits" "I", Cond.fieldLink RX3 19 "RiverWords$Word" "size" "I", Cond.fieldLink RX3 22 "RiverWords$Word" "allBits" "I", Cond.fieldLink RX3 25 "RiverWords$Word" "a" "I", Cond.fieldLink RX3 28 "RiverWords$Word" "b" "I", Cond.fieldLink RX3 31 "RiverWords$Word" "c" "I", Cond.fieldLink RX3 34 "RiverWords$Word" "d" "I", Cond.methodLink RX3 37 yX3_bitAt, Cond.instanceMethod yX3_bitAt, Cond.selects RX3 yX3_bitAt yX3_bitAt, Cond.code yX3_bitAt cX3_bitAt 2 (some .int), Cond.methodLink RX4 46 yX1_clear, Cond.instanceMethod yX1_clear, Cond.selects RX1 yX1_clear yX1_clear, Cond.code yX1_clear cX1_clear 1 none]
def wsX4_word_r3 : List Cond := [Cond.fieldLink RX1 22 "RiverWords$Page" "bits" "I", Cond.fieldLink RX1 25 "RiverWords$Page" "letters" "I", Cond.fieldLink RX1 28 "RiverWords$Page" "afterLetter" "Z"]
def wsX4_word : List Cond := .code yX4_word cX4_word 2 (some .int) :: ((wsX4_word_r1 ++ (wsX4_word_r2 ++ wsX4_word_r3)) ++ wsX40 ++ wsX10 ++ wsX30)
def wsX4_roadAt : List Cond := .code yX4_roadAt cX4_roadAt 2 (some (.object "RiverWords$Word")) :: ([.fieldLink RX4 148 "RiverWords" "roadCount" "I", .fieldLink RX4 18 "RiverWords" "roads" "[LRiverWords$Word;"] ++ wsX40)
def wsJ6_bitCount_0f7a4 : List Cond := .code yJ6_bitCount_0f7a4 cJ6_bitCount_0f7a4 1 (some .int) :: ([.constant RJ6 265 (1431655765), .constant RJ6 266 (858993459), .constant RJ6 267 (252645135)])
def wsX4_road_r1 : List Cond := [Cond.constant RX4 74 (-2000000101), Cond.fieldLink RX4 75 "RiverWords$Word" "size" "I", Cond.fieldLink RX4 76 "RiverWords$Word" "bits" "I", Cond.constant RX4 36 (-2000000102), Cond.methodLink RX4 70 yX4_roadAt, Cond.instanceMethod yX4_roadAt, Cond.selects RX4 yX4_roadAt yX4_roadAt, Cond.initialized RX4, Cond.code yX4_roadAt cX4_roadAt 2 (some (.object "RiverWords$Word")), Cond.fieldLink RX4 148 "RiverWords" "roadCount" "I", Cond.fieldLink RX4 18 "RiverWords" "roads" "[LRiverWords$Word;", Cond.methodLink RX4 77 yJ6_bitCount_0f7a4, Cond.static yJ6_bitCount_0f7a4, Cond.initialized RJ6, Cond.code yJ6_bitCount_0f7a4 cJ6_bitCount_0f7a4 1 (some .int), Cond.constant RJ6 265 (1431655765), Cond.constant RJ6 266 (858993459), Cond.constant RJ6 267 (252645135), Cond.methodLink RX4 83 yX3_period, Cond.instanceMethod yX3_period, Cond.selects RX3 yX3_period yX3_period, Cond.initialized RX3, Cond.code yX3_period cX3_period 2 (some .int), Cond.fieldLink RX3 15 "RiverWords$Word" "bits" "I"]
def wsX4_road_r2 : List Cond := [Cond.constant RX3 54 (-2000000001), Cond.fieldLink RX3 19 "RiverWords$Word" "size" "I", Cond.methodLink RX3 55 yX3_turnTo, Cond.instanceMethod yX3_turnTo, Cond.selects RX3 yX3_turnTo yX3_turnTo, Cond.code yX3_turnTo cX3_turnTo 4 (some .int), Cond.methodLink RX3 51 yX3_rotation, Cond.instanceMethod yX3_rotation, Cond.selects RX3 yX3_rotation yX3_rotation, Cond.code yX3_rotation cX3_rotation 2 (some .int), Cond.fieldLink RX3 22 "RiverWords$Word" "allBits" "I", Cond.methodLink RX4 87 yX3_leastTurn, Cond.instanceMethod yX3_leastTurn, Cond.selects RX3 yX3_leastTurn yX3_leastTurn, Cond.code yX3_leastTurn cX3_leastTurn 3 (some .int), Cond.methodLink RX4 90 yX3_traceSum, Cond.instanceMethod yX3_traceSum, Cond.selects RX3 yX3_traceSum yX3_traceSum, Cond.code yX3_traceSum cX3_traceSum 1 (some .int), Cond.fieldLink RX3 25 "RiverWords$Word" "a" "I", Cond.fieldLink RX3 34 "RiverWords$Word" "d" "I", Cond.methodLink RX4 93 yX3_isClosed, Cond.instanceMethod yX3_isClosed, Cond.selects RX3 yX3_isClosed yX3_isClosed]
def wsX4_road_r3 : List Cond := [Cond.code yX3_isClosed cX3_isClosed 1 (some .boolean), Cond.methodLink RX4 96 yX3_reversal, Cond.instanceMethod yX3_reversal, Cond.selects RX3 yX3_reversal yX3_reversal, Cond.code yX3_reversal cX3_reversal 3 (some .int), Cond.methodLink RX3 37 yX3_bitAt, Cond.instanceMethod yX3_bitAt, Cond.selects RX3 yX3_bitAt yX3_bitAt, Cond.code yX3_bitAt cX3_bitAt 2 (some .int), Cond.methodLink RX4 99 yX3_isConjugate, Cond.instanceMethod yX3_isConjugate, Cond.selects RX3 yX3_isConjugate yX3_isConjugate, Cond.code yX3_isConjugate cX3_isConjugate 2 (some .boolean), Cond.methodLink RX4 103 yX3_complement, Cond.instanceMethod yX3_complement, Cond.selects RX3 yX3_complement yX3_complement, Cond.code yX3_complement cX3_complement 2 (some .int)]
def wsX4_road : List Cond := .code yX4_road cX4_road 4 (some .int) :: ((wsX4_road_r1 ++ (wsX4_road_r2 ++ wsX4_road_r3)) ++ wsX30 ++ wsX40)
def wsX4_code : List Cond := .code yX4_code cX4_code 1 (some .int) :: ([])
def wsX4_sign : List Cond := .code yX4_sign cX4_sign 4 (some .int) :: ([.fieldLink RX4 75 "RiverWords$Word" "size" "I", .constant RX4 74 (-2000000101), .methodLink RX4 70 yX4_roadAt, .instanceMethod yX4_roadAt, .selects RX4 yX4_roadAt yX4_roadAt, .initialized RX4, .code yX4_roadAt cX4_roadAt 2 (some (.object "RiverWords$Word")), .fieldLink RX4 148 "RiverWords" "roadCount" "I", .fieldLink RX4 18 "RiverWords" "roads" "[LRiverWords$Word;", .methodLink RX4 106 yX3_bitAt, .instanceMethod yX3_bitAt, .selects RX3 yX3_bitAt yX3_bitAt, .initialized RX3, .code yX3_bitAt cX3_bitAt 2 (some .int), .fieldLink RX3 15 "RiverWords$Word" "bits" "I", .fieldLink RX3 19 "RiverWords$Word" "size" "I", .methodLink RX4 109 yX4_code, .static yX4_code, .code yX4_code cX4_code 1 (some .int)] ++ wsX30 ++ wsX40)
def wsX4_table : List Cond := .code yX4_table cX4_table 4 (some .int) :: ([.constant RX4 74 (-2000000101), .fieldLink RX4 112 "RiverWords$Word" "a" "I", .fieldLink RX4 115 "RiverWords$Word" "b" "I", .fieldLink RX4 118 "RiverWords$Word" "c" "I", .fieldLink RX4 121 "RiverWords$Word" "d" "I", .constant RX4 36 (-2000000102), .methodLink RX4 70 yX4_roadAt, .instanceMethod yX4_roadAt, .selects RX4 yX4_roadAt yX4_roadAt, .initialized RX4, .code yX4_roadAt cX4_roadAt 2 (some (.object "RiverWords$Word")), .fieldLink RX4 148 "RiverWords" "roadCount" "I", .fieldLink RX4 18 "RiverWords" "roads" "[LRiverWords$Word;"] ++ wsX30 ++ wsX40)
def wsX4_form_r1 : List Cond := [Cond.constant RX4 74 (-2000000101), Cond.constant RX4 36 (-2000000102), Cond.constant RX4 56 (-2000000103), Cond.methodLink RX4 70 yX4_roadAt, Cond.instanceMethod yX4_roadAt, Cond.selects RX4 yX4_roadAt yX4_roadAt, Cond.initialized RX4, Cond.code yX4_roadAt cX4_roadAt 2 (some (.object "RiverWords$Word")), Cond.fieldLink RX4 148 "RiverWords" "roadCount" "I", Cond.fieldLink RX4 18 "RiverWords" "roads" "[LRiverWords$Word;", Cond.methodLink RX4 93 yX3_isClosed, Cond.instanceMethod yX3_isClosed, Cond.selects RX3 yX3_isClosed yX3_isClosed, Cond.initialized RX3, Cond.code yX3_isClosed cX3_isClosed 1 (some .boolean), Cond.fieldLink RX3 15 "RiverWords$Word" "bits" "I", Cond.fieldLink RX3 22 "RiverWords$Word" "allBits" "I", Cond.methodLink RX4 124 yX3_formNumber, Cond.instanceMethod yX3_formNumber, Cond.selects RX3 yX3_formNumber yX3_formNumber, Cond.code yX3_formNumber cX3_formNumber 6 (some .int), Cond.fieldLink RX3 31 "RiverWords$Word" "c" "I", Cond.fieldLink RX3 34 "RiverWords$Word" "d" "I", Cond.fieldLink RX3 25 "RiverWords$Word" "a" "I"]
def wsX4_form_r2 : List Cond := [Cond.fieldLink RX3 28 "RiverWords$Word" "b" "I", Cond.static yX4_commonDivisor, Cond.code yX4_commonDivisor cX4_commonDivisor 6 (some .int), Cond.methodLink RX4 290 Lib.Math.abs.name, Cond.static Lib.Math.abs.name, Cond.initialized "java/lang/Math", Cond.code Lib.Math.abs.name Lib.Math.abs.code 1 (some .int), Cond.methodLink RX4 295 Lib.Math.max.name, Cond.static Lib.Math.max.name, Cond.code Lib.Math.max.name Lib.Math.max.code 2 (some .int), Cond.static yX4_discriminantOf, Cond.code yX4_discriminantOf cX4_discriminantOf 3 (some .int)]
def wsX4_form : List Cond := .code yX4_form cX4_form 4 (some .int) :: ((wsX4_form_r1 ++ wsX4_form_r2) ++ wsX40 ++ wsX30)
def wsX4_end : List Cond := .code yX4_end cX4_end 4 (some .int) :: ([.constant RX4 74 (-2000000101), .fieldLink RX4 112 "RiverWords$Word" "a" "I", .fieldLink RX4 115 "RiverWords$Word" "b" "I", .fieldLink RX4 118 "RiverWords$Word" "c" "I", .fieldLink RX4 121 "RiverWords$Word" "d" "I", .constant RX4 36 (-2000000102), .methodLink RX4 70 yX4_roadAt, .instanceMethod yX4_roadAt, .selects RX4 yX4_roadAt yX4_roadAt, .initialized RX4, .code yX4_roadAt cX4_roadAt 2 (some (.object "RiverWords$Word")), .fieldLink RX4 148 "RiverWords" "roadCount" "I", .fieldLink RX4 18 "RiverWords" "roads" "[LRiverWords$Word;"] ++ wsX30 ++ wsX40)
def wsX4_alike : List Cond := .code yX4_alike cX4_alike 5 (some .int) :: ([.constant RX4 74 (-2000000101), .fieldLink RX4 75 "RiverWords$Word" "size" "I", .fieldLink RX4 76 "RiverWords$Word" "bits" "I", .constant RX4 130 (-2000000001), .methodLink RX4 70 yX4_roadAt, .instanceMethod yX4_roadAt, .selects RX4 yX4_roadAt yX4_roadAt, .initialized RX4, .code yX4_roadAt cX4_roadAt 2 (some (.object "RiverWords$Word")), .fieldLink RX4 148 "RiverWords" "roadCount" "I", .fieldLink RX4 18 "RiverWords" "roads" "[LRiverWords$Word;", .methodLink RX4 127 yX3_turnTo, .instanceMethod yX3_turnTo, .selects RX3 yX3_turnTo yX3_turnTo, .initialized RX3, .code yX3_turnTo cX3_turnTo 4 (some .int), .fieldLink RX3 19 "RiverWords$Word" "size" "I", .constant RX3 54 (-2000000001), .methodLink RX3 51 yX3_rotation, .instanceMethod yX3_rotation, .selects RX3 yX3_rotation yX3_rotation, .code yX3_rotation cX3_rotation 2 (some .int), .fieldLink RX3 15 "RiverWords$Word" "bits" "I", .fieldLink RX3 22 "RiverWords$Word" "allBits" "I"] ++ wsX30 ++ wsX40)
def wsX4_cross_r1 : List Cond := [Cond.constant RX4 74 (-2000000101), Cond.constant RX4 56 (-2000000103), Cond.methodLink RX4 70 yX4_roadAt, Cond.instanceMethod yX4_roadAt, Cond.selects RX4 yX4_roadAt yX4_roadAt, Cond.initialized RX4, Cond.code yX4_roadAt cX4_roadAt 2 (some (.object "RiverWords$Word")), Cond.fieldLink RX4 148 "RiverWords" "roadCount" "I", Cond.fieldLink RX4 18 "RiverWords" "roads" "[LRiverWords$Word;", Cond.methodLink RX4 93 yX3_isClosed, Cond.instanceMethod yX3_isClosed, Cond.selects RX3 yX3_isClosed yX3_isClosed, Cond.initialized RX3, Cond.code yX3_isClosed cX3_isClosed 1 (some .boolean), Cond.fieldLink RX3 15 "RiverWords$Word" "bits" "I", Cond.fieldLink RX3 22 "RiverWords$Word" "allBits" "I", Cond.methodLink RX4 131 yX3_crossings, Cond.instanceMethod yX3_crossings, Cond.selects RX3 yX3_crossings yX3_crossings, Cond.code yX3_crossings cX3_crossings 5 (some .int), Cond.fieldLink RX3 19 "RiverWords$Word" "size" "I", Cond.methodLink RX3 37 yX3_bitAt, Cond.instanceMethod yX3_bitAt, Cond.selects RX3 yX3_bitAt yX3_bitAt]
def wsX4_cross_r2 : List Cond := [Cond.code yX3_bitAt cX3_bitAt 2 (some .int), Cond.methodLink RX3 66 yX3_crosses, Cond.instanceMethod yX3_crosses, Cond.selects RX3 yX3_crosses yX3_crosses, Cond.code yX3_crosses cX3_crosses 7 (some .boolean)]
def wsX4_cross : List Cond := .code yX4_cross cX4_cross 5 (some .int) :: ((wsX4_cross_r1 ++ wsX4_cross_r2) ++ wsX40 ++ wsX30)
def wsX4_turn_r1 : List Cond := [Cond.constant RX4 74 (-2000000101), Cond.fieldLink RX4 75 "RiverWords$Word" "size" "I", Cond.constant RX4 36 (-2000000102), Cond.methodLink RX4 70 yX4_roadAt, Cond.instanceMethod yX4_roadAt, Cond.selects RX4 yX4_roadAt yX4_roadAt, Cond.initialized RX4, Cond.code yX4_roadAt cX4_roadAt 2 (some (.object "RiverWords$Word")), Cond.fieldLink RX4 148 "RiverWords" "roadCount" "I", Cond.fieldLink RX4 18 "RiverWords" "roads" "[LRiverWords$Word;", Cond.methodLink RX4 135 yX3_rotation, Cond.instanceMethod yX3_rotation, Cond.selects RX3 yX3_rotation yX3_rotation, Cond.initialized RX3, Cond.code yX3_rotation cX3_rotation 2 (some .int), Cond.fieldLink RX3 15 "RiverWords$Word" "bits" "I", Cond.fieldLink RX3 19 "RiverWords$Word" "size" "I", Cond.fieldLink RX3 22 "RiverWords$Word" "allBits" "I", Cond.methodLink RX4 138 yX3_become, Cond.instanceMethod yX3_become, Cond.selects RX3 yX3_become yX3_become, Cond.code yX3_become cX3_become 4 none, Cond.fieldLink RX3 25 "RiverWords$Word" "a" "I", Cond.fieldLink RX3 28 "RiverWords$Word" "b" "I"]
def wsX4_turn_r2 : List Cond := [Cond.fieldLink RX3 31 "RiverWords$Word" "c" "I", Cond.fieldLink RX3 34 "RiverWords$Word" "d" "I", Cond.methodLink RX3 37 yX3_bitAt, Cond.instanceMethod yX3_bitAt, Cond.selects RX3 yX3_bitAt yX3_bitAt, Cond.code yX3_bitAt cX3_bitAt 2 (some .int), Cond.methodLink RX4 83 yX3_period, Cond.instanceMethod yX3_period, Cond.selects RX3 yX3_period yX3_period, Cond.code yX3_period cX3_period 2 (some .int), Cond.constant RX3 54 (-2000000001), Cond.methodLink RX3 55 yX3_turnTo, Cond.instanceMethod yX3_turnTo, Cond.selects RX3 yX3_turnTo yX3_turnTo, Cond.code yX3_turnTo cX3_turnTo 4 (some .int), Cond.methodLink RX3 51 yX3_rotation]
def wsX4_turn : List Cond := .code yX4_turn cX4_turn 4 (some .int) :: ((wsX4_turn_r1 ++ wsX4_turn_r2) ++ wsX30 ++ wsX40)
def wsX4_change_r1 : List Cond := [Cond.constant RX4 74 (-2000000101), Cond.constant RX4 36 (-2000000102), Cond.fieldLink RX4 75 "RiverWords$Word" "size" "I", Cond.methodLink RX4 70 yX4_roadAt, Cond.instanceMethod yX4_roadAt, Cond.selects RX4 yX4_roadAt yX4_roadAt, Cond.initialized RX4, Cond.code yX4_roadAt cX4_roadAt 2 (some (.object "RiverWords$Word")), Cond.fieldLink RX4 148 "RiverWords" "roadCount" "I", Cond.fieldLink RX4 18 "RiverWords" "roads" "[LRiverWords$Word;", Cond.methodLink RX4 142 yX3_changed, Cond.instanceMethod yX3_changed, Cond.selects RX3 yX3_changed yX3_changed, Cond.initialized RX3, Cond.code yX3_changed cX3_changed 2 (some .int), Cond.fieldLink RX3 15 "RiverWords$Word" "bits" "I", Cond.methodLink RX3 41 yX3_reversal, Cond.instanceMethod yX3_reversal, Cond.selects RX3 yX3_reversal yX3_reversal, Cond.code yX3_reversal cX3_reversal 3 (some .int), Cond.fieldLink RX3 19 "RiverWords$Word" "size" "I", Cond.methodLink RX3 37 yX3_bitAt, Cond.instanceMethod yX3_bitAt, Cond.selects RX3 yX3_bitAt yX3_bitAt]
def wsX4_change_r2 : List Cond := [Cond.code yX3_bitAt cX3_bitAt 2 (some .int), Cond.methodLink RX3 45 yX3_complement, Cond.instanceMethod yX3_complement, Cond.selects RX3 yX3_complement yX3_complement, Cond.code yX3_complement cX3_complement 2 (some .int), Cond.fieldLink RX3 22 "RiverWords$Word" "allBits" "I", Cond.methodLink RX3 48 yX3_leastTurn, Cond.instanceMethod yX3_leastTurn, Cond.selects RX3 yX3_leastTurn yX3_leastTurn, Cond.code yX3_leastTurn cX3_leastTurn 3 (some .int), Cond.methodLink RX3 51 yX3_rotation, Cond.instanceMethod yX3_rotation, Cond.selects RX3 yX3_rotation yX3_rotation, Cond.code yX3_rotation cX3_rotation 2 (some .int), Cond.methodLink RX4 138 yX3_become, Cond.instanceMethod yX3_become, Cond.selects RX3 yX3_become yX3_become, Cond.code yX3_become cX3_become 4 none, Cond.fieldLink RX3 25 "RiverWords$Word" "a" "I", Cond.fieldLink RX3 28 "RiverWords$Word" "b" "I", Cond.fieldLink RX3 31 "RiverWords$Word" "c" "I", Cond.fieldLink RX3 34 "RiverWords$Word" "d" "I", Cond.methodLink RX4 90 yX3_traceSum, Cond.instanceMethod yX3_traceSum]
def wsX4_change_r3 : List Cond := [Cond.selects RX3 yX3_traceSum yX3_traceSum, Cond.code yX3_traceSum cX3_traceSum 1 (some .int)]
def wsX4_change : List Cond := .code yX4_change cX4_change 4 (some .int) :: ((wsX4_change_r1 ++ (wsX4_change_r2 ++ wsX4_change_r3)) ++ wsX30 ++ wsX40)
def wsX4_join_r1 : List Cond := [Cond.constant RX4 74 (-2000000101), Cond.fieldLink RX4 76 "RiverWords$Word" "bits" "I", Cond.fieldLink RX4 75 "RiverWords$Word" "size" "I", Cond.methodLink RX4 70 yX4_roadAt, Cond.instanceMethod yX4_roadAt, Cond.selects RX4 yX4_roadAt yX4_roadAt, Cond.initialized RX4, Cond.code yX4_roadAt cX4_roadAt 2 (some (.object "RiverWords$Word")), Cond.fieldLink RX4 148 "RiverWords" "roadCount" "I", Cond.fieldLink RX4 18 "RiverWords" "roads" "[LRiverWords$Word;", Cond.methodLink RX4 63 yX4_addRoad, Cond.instanceMethod yX4_addRoad, Cond.selects RX4 yX4_addRoad yX4_addRoad, Cond.code yX4_addRoad cX4_addRoad 4 (some .int), Cond.constant RX4 56 (-2000000103), Cond.constant RX4 41 (-2000000104), Cond.classLink RX4 16 RX3, Cond.instantiable RX3 7, Cond.initialized RX3, Cond.methodLink RX4 282 yX3_init, Cond.instanceMethod yX3_init, Cond.code yX3_init cX3_init 3 none, Cond.methodLink RX3 3 objectInit, Cond.instanceMethod objectInit]
def wsX4_join_r2 : List Cond := [Cond.code objectInit ⟨#[0xb1]⟩ 1 none, Cond.methodLink RX3 9 yX3_become, Cond.instanceMethod yX3_become, Cond.selects RX3 yX3_become yX3_become, Cond.code yX3_become cX3_become 4 none, Cond.fieldLink RX3 15 "RiverWords$Word" "bits" "I", Cond.fieldLink RX3 19 "RiverWords$Word" "size" "I", Cond.fieldLink RX3 22 "RiverWords$Word" "allBits" "I", Cond.fieldLink RX3 25 "RiverWords$Word" "a" "I", Cond.fieldLink RX3 28 "RiverWords$Word" "b" "I", Cond.fieldLink RX3 31 "RiverWords$Word" "c" "I", Cond.fieldLink RX3 34 "RiverWords$Word" "d" "I", Cond.methodLink RX3 37 yX3_bitAt, Cond.instanceMethod yX3_bitAt, Cond.selects RX3 yX3_bitAt yX3_bitAt, Cond.code yX3_bitAt cX3_bitAt 2 (some .int)]
def wsX4_join : List Cond := .code yX4_join cX4_join 5 (some .int) :: ((wsX4_join_r1 ++ wsX4_join_r2) ++ wsX30 ++ wsX40)
def wsX4_times_r1 : List Cond := [Cond.constant RX4 74 (-2000000101), Cond.constant RX4 36 (-2000000102), Cond.fieldLink RX4 75 "RiverWords$Word" "size" "I", Cond.fieldLink RX4 76 "RiverWords$Word" "bits" "I", Cond.methodLink RX4 70 yX4_roadAt, Cond.instanceMethod yX4_roadAt, Cond.selects RX4 yX4_roadAt yX4_roadAt, Cond.initialized RX4, Cond.code yX4_roadAt cX4_roadAt 2 (some (.object "RiverWords$Word")), Cond.fieldLink RX4 148 "RiverWords" "roadCount" "I", Cond.fieldLink RX4 18 "RiverWords" "roads" "[LRiverWords$Word;", Cond.methodLink RX4 63 yX4_addRoad, Cond.instanceMethod yX4_addRoad, Cond.selects RX4 yX4_addRoad yX4_addRoad, Cond.code yX4_addRoad cX4_addRoad 4 (some .int), Cond.constant RX4 56 (-2000000103), Cond.constant RX4 41 (-2000000104), Cond.classLink RX4 16 RX3, Cond.instantiable RX3 7, Cond.initialized RX3, Cond.methodLink RX4 282 yX3_init, Cond.instanceMethod yX3_init, Cond.code yX3_init cX3_init 3 none, Cond.methodLink RX3 3 objectInit]
def wsX4_times_r2 : List Cond := [Cond.instanceMethod objectInit, Cond.code objectInit ⟨#[0xb1]⟩ 1 none, Cond.methodLink RX3 9 yX3_become, Cond.instanceMethod yX3_become, Cond.selects RX3 yX3_become yX3_become, Cond.code yX3_become cX3_become 4 none, Cond.fieldLink RX3 15 "RiverWords$Word" "bits" "I", Cond.fieldLink RX3 19 "RiverWords$Word" "size" "I", Cond.fieldLink RX3 22 "RiverWords$Word" "allBits" "I", Cond.fieldLink RX3 25 "RiverWords$Word" "a" "I", Cond.fieldLink RX3 28 "RiverWords$Word" "b" "I", Cond.fieldLink RX3 31 "RiverWords$Word" "c" "I", Cond.fieldLink RX3 34 "RiverWords$Word" "d" "I", Cond.methodLink RX3 37 yX3_bitAt, Cond.instanceMethod yX3_bitAt, Cond.selects RX3 yX3_bitAt yX3_bitAt, Cond.code yX3_bitAt cX3_bitAt 2 (some .int)]
def wsX4_times : List Cond := .code yX4_times cX4_times 6 (some .int) :: ((wsX4_times_r1 ++ wsX4_times_r2) ++ wsX30 ++ wsX40)
def wsX4_cut_r1 : List Cond := [Cond.constant RX4 36 (-2000000102), Cond.methodLink RX4 145 yX4_commonDivisor, Cond.static yX4_commonDivisor, Cond.initialized RX4, Cond.code yX4_commonDivisor cX4_commonDivisor 6 (some .int), Cond.methodLink RX4 290 Lib.Math.abs.name, Cond.static Lib.Math.abs.name, Cond.initialized "java/lang/Math", Cond.code Lib.Math.abs.name Lib.Math.abs.code 1 (some .int), Cond.methodLink RX4 295 Lib.Math.max.name, Cond.static Lib.Math.max.name, Cond.code Lib.Math.max.name Lib.Math.max.code 2 (some .int), Cond.methodLink RX4 63 yX4_addRoad, Cond.instanceMethod yX4_addRoad, Cond.selects RX4 yX4_addRoad yX4_addRoad, Cond.code yX4_addRoad cX4_addRoad 4 (some .int), Cond.constant RX4 56 (-2000000103), Cond.fieldLink RX4 148 "RiverWords" "roadCount" "I", Cond.fieldLink RX4 18 "RiverWords" "roads" "[LRiverWords$Word;", Cond.constant RX4 41 (-2000000104), Cond.classLink RX4 16 RX3, Cond.instantiable RX3 7, Cond.initialized RX3, Cond.methodLink RX4 282 yX3_init]
def wsX4_cut_r2 : List Cond := [Cond.instanceMethod yX3_init, Cond.code yX3_init cX3_init 3 none, Cond.methodLink RX3 3 objectInit, Cond.instanceMethod objectInit, Cond.code objectInit ⟨#[0xb1]⟩ 1 none, Cond.methodLink RX3 9 yX3_become, Cond.instanceMethod yX3_become, Cond.selects RX3 yX3_become yX3_become, Cond.code yX3_become cX3_become 4 none, Cond.fieldLink RX3 15 "RiverWords$Word" "bits" "I", Cond.fieldLink RX3 19 "RiverWords$Word" "size" "I", Cond.fieldLink RX3 22 "RiverWords$Word" "allBits" "I", Cond.fieldLink RX3 25 "RiverWords$Word" "a" "I", Cond.fieldLink RX3 28 "RiverWords$Word" "b" "I", Cond.fieldLink RX3 31 "RiverWords$Word" "c" "I", Cond.fieldLink RX3 34 "RiverWords$Word" "d" "I", Cond.methodLink RX3 37 yX3_bitAt, Cond.instanceMethod yX3_bitAt, Cond.selects RX3 yX3_bitAt yX3_bitAt, Cond.code yX3_bitAt cX3_bitAt 2 (some .int)]
def wsX4_cut : List Cond := .code yX4_cut cX4_cut 7 (some .int) :: ((wsX4_cut_r1 ++ wsX4_cut_r2) ++ wsX40 ++ wsX30)
def wsX4_drop : List Cond := .code yX4_drop cX4_drop 1 (some .int) :: ([.fieldLink RX4 148 "RiverWords" "roadCount" "I", .constant RX4 56 (-2000000103)] ++ wsX40)
def wsX4_drawn_r1 : List Cond := [Cond.constant RX4 36 (-2000000102), Cond.fieldLink RX4 32 "RiverWords" "draw" "LRiverWords$Draw;", Cond.fieldLink RX4 201 "RiverWords$Draw" "closed" "I", Cond.fieldLink RX4 204 "RiverWords$Draw" "traces" "I", Cond.fieldLink RX4 207 "RiverWords$Draw" "crossings" "I", Cond.fieldLink RX4 209 "RiverWords$Draw" "s" "J", Cond.methodLink RX4 198 yX0_run, Cond.instanceMethod yX0_run, Cond.selects RX0 yX0_run yX0_run, Cond.initialized RX0, Cond.code yX0_run cX0_run 4 none, Cond.fieldLink RX0 21 "RiverWords$Draw" "s" "J", Cond.fieldLink RX0 25 "RiverWords$Draw" "closed" "I", Cond.fieldLink RX0 29 "RiverWords$Draw" "traces" "I", Cond.fieldLink RX0 32 "RiverWords$Draw" "crossings" "I", Cond.fieldLink RX0 18 "RiverWords$Draw" "now" "LRiverWords$Word;", Cond.fieldLink RX0 14 "RiverWords$Draw" "before" "LRiverWords$Word;", Cond.fieldLink RX0 38 "RiverWords$Word" "bits" "I", Cond.methodLink RX0 35 yX3_become, Cond.instanceMethod yX3_become, Cond.selects RX3 yX3_become yX3_become, Cond.initialized RX3, Cond.code yX3_become cX3_become 4 none, Cond.fieldLink RX3 15 "RiverWords$Word" "bits" "I"]
def wsX4_drawn_r2 : List Cond := [Cond.fieldLink RX3 19 "RiverWords$Word" "size" "I", Cond.fieldLink RX3 22 "RiverWords$Word" "allBits" "I", Cond.fieldLink RX3 25 "RiverWords$Word" "a" "I", Cond.fieldLink RX3 28 "RiverWords$Word" "b" "I", Cond.fieldLink RX3 31 "RiverWords$Word" "c" "I", Cond.fieldLink RX3 34 "RiverWords$Word" "d" "I", Cond.methodLink RX3 37 yX3_bitAt, Cond.instanceMethod yX3_bitAt, Cond.selects RX3 yX3_bitAt yX3_bitAt, Cond.code yX3_bitAt cX3_bitAt 2 (some .int), Cond.methodLink RX0 41 yX0_nextBits, Cond.instanceMethod yX0_nextBits, Cond.selects RX0 yX0_nextBits yX0_nextBits, Cond.code yX0_nextBits cX0_nextBits 3 (some .int), Cond.constantLong RX0 48 (1103515245), Cond.constantLong RX0 50 (12345), Cond.constantLong RX0 52 (2147483648), Cond.constantLong RX0 54 (65536), Cond.constantLong RX0 56 (2), Cond.methodLink RX0 45 yX0_tell, Cond.instanceMethod yX0_tell, Cond.selects RX0 yX0_tell yX0_tell, Cond.code yX0_tell cX0_tell 1 none, Cond.methodLink RX0 58 yX3_isClosed]
def wsX4_drawn_r3 : List Cond := [Cond.instanceMethod yX3_isClosed, Cond.selects RX3 yX3_isClosed yX3_isClosed, Cond.code yX3_isClosed cX3_isClosed 1 (some .boolean), Cond.methodLink RX0 62 yX3_traceSum, Cond.instanceMethod yX3_traceSum, Cond.selects RX3 yX3_traceSum yX3_traceSum, Cond.code yX3_traceSum cX3_traceSum 1 (some .int), Cond.methodLink RX0 65 yX3_crossings, Cond.instanceMethod yX3_crossings, Cond.selects RX3 yX3_crossings yX3_crossings, Cond.code yX3_crossings cX3_crossings 5 (some .int), Cond.methodLink RX3 66 yX3_crosses, Cond.instanceMethod yX3_crosses, Cond.selects RX3 yX3_crosses yX3_crosses, Cond.code yX3_crosses cX3_crosses 7 (some .boolean)]
def wsX4_drawn : List Cond := .code yX4_drawn cX4_drawn 4 (some .int) :: ((wsX4_drawn_r1 ++ (wsX4_drawn_r2 ++ wsX4_drawn_r3)) ++ wsX40 ++ wsX00 ++ wsX30)
def wsX4_isClosedRoad : List Cond := .code yX4_isClosedRoad cX4_isClosedRoad 3 (some .boolean) :: ([.methodLink RX4 70 yX4_roadAt, .instanceMethod yX4_roadAt, .selects RX4 yX4_roadAt yX4_roadAt, .initialized RX4, .code yX4_roadAt cX4_roadAt 2 (some (.object "RiverWords$Word")), .fieldLink RX4 148 "RiverWords" "roadCount" "I", .fieldLink RX4 18 "RiverWords" "roads" "[LRiverWords$Word;", .methodLink RX4 93 yX3_isClosed, .instanceMethod yX3_isClosed, .selects RX3 yX3_isClosed yX3_isClosed, .initialized RX3, .code yX3_isClosed cX3_isClosed 1 (some .boolean), .fieldLink RX3 15 "RiverWords$Word" "bits" "I", .fieldLink RX3 22 "RiverWords$Word" "allBits" "I"] ++ wsX40 ++ wsX30)
def wsX4_closedRoads : List Cond := .code yX4_closedRoads cX4_closedRoads 3 (some .int) :: ([.fieldLink RX4 148 "RiverWords" "roadCount" "I", .methodLink RX4 262 yX4_isClosedRoad, .instanceMethod yX4_isClosedRoad, .selects RX4 yX4_isClosedRoad yX4_isClosedRoad, .initialized RX4, .code yX4_isClosedRoad cX4_isClosedRoad 3 (some .boolean), .methodLink RX4 70 yX4_roadAt, .instanceMethod yX4_roadAt, .selects RX4 yX4_roadAt yX4_roadAt, .code yX4_roadAt cX4_roadAt 2 (some (.object "RiverWords$Word")), .fieldLink RX4 18 "RiverWords" "roads" "[LRiverWords$Word;", .methodLink RX4 93 yX3_isClosed, .instanceMethod yX3_isClosed, .selects RX3 yX3_isClosed yX3_isClosed, .initialized RX3, .code yX3_isClosed cX3_isClosed 1 (some .boolean), .fieldLink RX3 15 "RiverWords$Word" "bits" "I", .fieldLink RX3 22 "RiverWords$Word" "allBits" "I"] ++ wsX40 ++ wsX30)
def wsX4_isFirstOfClass_r1 : List Cond := [Cond.methodLink RX4 287 yX4_alike, Cond.instanceMethod yX4_alike, Cond.selects RX4 yX4_alike yX4_alike, Cond.initialized RX4, Cond.code yX4_alike cX4_alike 5 (some .int), Cond.constant RX4 74 (-2000000101), Cond.fieldLink RX4 75 "RiverWords$Word" "size" "I", Cond.fieldLink RX4 76 "RiverWords$Word" "bits" "I", Cond.constant RX4 130 (-2000000001), Cond.methodLink RX4 70 yX4_roadAt, Cond.instanceMethod yX4_roadAt, Cond.selects RX4 yX4_roadAt yX4_roadAt, Cond.code yX4_roadAt cX4_roadAt 2 (some (.object "RiverWords$Word")), Cond.fieldLink RX4 148 "RiverWords" "roadCount" "I", Cond.fieldLink RX4 18 "RiverWords" "roads" "[LRiverWords$Word;", Cond.methodLink RX4 127 yX3_turnTo, Cond.instanceMethod yX3_turnTo, Cond.selects RX3 yX3_turnTo yX3_turnTo, Cond.initialized RX3, Cond.code yX3_turnTo cX3_turnTo 4 (some .int), Cond.fieldLink RX3 19 "RiverWords$Word" "size" "I", Cond.constant RX3 54 (-2000000001), Cond.methodLink RX3 51 yX3_rotation, Cond.instanceMethod yX3_rotation]
def wsX4_isFirstOfClass_r2 : List Cond := [Cond.selects RX3 yX3_rotation yX3_rotation, Cond.code yX3_rotation cX3_rotation 2 (some .int), Cond.fieldLink RX3 15 "RiverWords$Word" "bits" "I", Cond.fieldLink RX3 22 "RiverWords$Word" "allBits" "I"]
def wsX4_isFirstOfClass : List Cond := .code yX4_isFirstOfClass cX4_isFirstOfClass 3 (some .boolean) :: ((wsX4_isFirstOfClass_r1 ++ wsX4_isFirstOfClass_r2) ++ wsX30 ++ wsX40)
def wsX4_roadClasses_r1 : List Cond := [Cond.fieldLink RX4 148 "RiverWords" "roadCount" "I", Cond.methodLink RX4 284 yX4_isFirstOfClass, Cond.instanceMethod yX4_isFirstOfClass, Cond.selects RX4 yX4_isFirstOfClass yX4_isFirstOfClass, Cond.initialized RX4, Cond.code yX4_isFirstOfClass cX4_isFirstOfClass 3 (some .boolean), Cond.methodLink RX4 287 yX4_alike, Cond.instanceMethod yX4_alike, Cond.selects RX4 yX4_alike yX4_alike, Cond.code yX4_alike cX4_alike 5 (some .int), Cond.constant RX4 74 (-2000000101), Cond.fieldLink RX4 75 "RiverWords$Word" "size" "I", Cond.fieldLink RX4 76 "RiverWords$Word" "bits" "I", Cond.constant RX4 130 (-2000000001), Cond.methodLink RX4 70 yX4_roadAt, Cond.instanceMethod yX4_roadAt, Cond.selects RX4 yX4_roadAt yX4_roadAt, Cond.code yX4_roadAt cX4_roadAt 2 (some (.object "RiverWords$Word")), Cond.fieldLink RX4 18 "RiverWords" "roads" "[LRiverWords$Word;", Cond.methodLink RX4 127 yX3_turnTo, Cond.instanceMethod yX3_turnTo, Cond.selects RX3 yX3_turnTo yX3_turnTo, Cond.initialized RX3, Cond.code yX3_turnTo cX3_turnTo 4 (some .int)]
def wsX4_roadClasses_r2 : List Cond := [Cond.fieldLink RX3 19 "RiverWords$Word" "size" "I", Cond.constant RX3 54 (-2000000001), Cond.methodLink RX3 51 yX3_rotation, Cond.instanceMethod yX3_rotation, Cond.selects RX3 yX3_rotation yX3_rotation, Cond.code yX3_rotation cX3_rotation 2 (some .int), Cond.fieldLink RX3 15 "RiverWords$Word" "bits" "I", Cond.fieldLink RX3 22 "RiverWords$Word" "allBits" "I"]
def wsX4_roadClasses : List Cond := .code yX4_roadClasses cX4_roadClasses 3 (some .int) :: ((wsX4_roadClasses_r1 ++ wsX4_roadClasses_r2) ++ wsX40 ++ wsX30)
def wsX4_count_r1 : List Cond := [Cond.fieldLink RX4 148 "RiverWords" "roadCount" "I", Cond.fieldLink RX4 10 "RiverWords" "page" "LRiverWords$Page;", Cond.fieldLink RX4 37 "RiverWords$Page" "size" "I", Cond.fieldLink RX4 67 "RiverWords" "readings" "I", Cond.fieldLink RX4 25 "RiverWords" "river" "LRiverWords$River;", Cond.fieldLink RX4 156 "RiverWords$River" "size" "I", Cond.fieldLink RX4 219 "RiverWords$River" "cycleCount" "I", Cond.constant RX4 36 (-2000000102), Cond.methodLink RX4 213 yX4_closedRoads, Cond.instanceMethod yX4_closedRoads, Cond.selects RX4 yX4_closedRoads yX4_closedRoads, Cond.initialized RX4, Cond.code yX4_closedRoads cX4_closedRoads 3 (some .int), Cond.methodLink RX4 262 yX4_isClosedRoad, Cond.instanceMethod yX4_isClosedRoad, Cond.selects RX4 yX4_isClosedRoad yX4_isClosedRoad, Cond.code yX4_isClosedRoad cX4_isClosedRoad 3 (some .boolean), Cond.methodLink RX4 70 yX4_roadAt, Cond.instanceMethod yX4_roadAt, Cond.selects RX4 yX4_roadAt yX4_roadAt, Cond.code yX4_roadAt cX4_roadAt 2 (some (.object "RiverWords$Word")), Cond.fieldLink RX4 18 "RiverWords" "roads" "[LRiverWords$Word;", Cond.methodLink RX4 93 yX3_isClosed, Cond.instanceMethod yX3_isClosed]
def wsX4_count_r2 : List Cond := [Cond.selects RX3 yX3_isClosed yX3_isClosed, Cond.initialized RX3, Cond.code yX3_isClosed cX3_isClosed 1 (some .boolean), Cond.fieldLink RX3 15 "RiverWords$Word" "bits" "I", Cond.fieldLink RX3 22 "RiverWords$Word" "allBits" "I", Cond.methodLink RX4 216 yX4_roadClasses, Cond.instanceMethod yX4_roadClasses, Cond.selects RX4 yX4_roadClasses yX4_roadClasses, Cond.code yX4_roadClasses cX4_roadClasses 3 (some .int), Cond.methodLink RX4 284 yX4_isFirstOfClass, Cond.instanceMethod yX4_isFirstOfClass, Cond.selects RX4 yX4_isFirstOfClass yX4_isFirstOfClass, Cond.code yX4_isFirstOfClass cX4_isFirstOfClass 3 (some .boolean), Cond.methodLink RX4 287 yX4_alike, Cond.instanceMethod yX4_alike, Cond.selects RX4 yX4_alike yX4_alike, Cond.code yX4_alike cX4_alike 5 (some .int), Cond.constant RX4 74 (-2000000101), Cond.fieldLink RX4 75 "RiverWords$Word" "size" "I", Cond.fieldLink RX4 76 "RiverWords$Word" "bits" "I", Cond.constant RX4 130 (-2000000001), Cond.methodLink RX4 127 yX3_turnTo, Cond.instanceMethod yX3_turnTo, Cond.selects RX3 yX3_turnTo yX3_turnTo]
def wsX4_count_r3 : List Cond := [Cond.code yX3_turnTo cX3_turnTo 4 (some .int), Cond.fieldLink RX3 19 "RiverWords$Word" "size" "I", Cond.constant RX3 54 (-2000000001), Cond.methodLink RX3 51 yX3_rotation, Cond.instanceMethod yX3_rotation, Cond.selects RX3 yX3_rotation yX3_rotation, Cond.code yX3_rotation cX3_rotation 2 (some .int)]
def wsX4_count : List Cond := .code yX4_count cX4_count 2 (some .int) :: ((wsX4_count_r1 ++ (wsX4_count_r2 ++ wsX4_count_r3)) ++ wsX40 ++ wsX10 ++ wsX20 ++ wsX30)
def wsJ9_abs_0f7a4 : List Cond := .code yJ9_abs_0f7a4 cJ9_abs_0f7a4 1 (some .int) :: ([])
def wsJ9_max_7cf53 : List Cond := .code yJ9_max_7cf53 cJ9_max_7cf53 2 (some .int) :: ([])
def wsL_cell : List Cond := .code yL_cell cL_cell 2 (some .int) :: ([.constant RL 7 (264347078)])
def wsL_at : List Cond := .code yL_at cL_at 2 (some .int) :: ([])
def wsL_size : List Cond := .code yL_size cL_size 1 (some .int) :: ([])
def wsL_bit : List Cond := .code yL_bit cL_bit 2 (some .int) :: ([])
def wsL_round : List Cond := .code yL_round cL_round 3 (some .int) :: ([.methodLink RL 8 yL_size, .static yL_size, .initialized RL, .code yL_size cL_size 1 (some .int), .methodLink RL 14 yL_bit, .static yL_bit, .code yL_bit cL_bit 2 (some .int)])
def wsL_with : List Cond := .code yL_with cL_with 2 (some .int) :: ([.methodLink RL 8 yL_size, .static yL_size, .initialized RL, .code yL_size cL_size 1 (some .int)])
def wsL_turned : List Cond := .code yL_turned cL_turned 4 (some .int) :: ([.methodLink RL 8 yL_size, .static yL_size, .initialized RL, .code yL_size cL_size 1 (some .int), .methodLink RL 18 yL_round, .static yL_round, .code yL_round cL_round 3 (some .int), .methodLink RL 14 yL_bit, .static yL_bit, .code yL_bit cL_bit 2 (some .int), .methodLink RL 21 yL_with, .static yL_with, .code yL_with cL_with 2 (some .int)])
def wsL_back : List Cond := .code yL_back cL_back 3 (some .int) :: ([.methodLink RL 8 yL_size, .static yL_size, .initialized RL, .code yL_size cL_size 1 (some .int), .methodLink RL 14 yL_bit, .static yL_bit, .code yL_bit cL_bit 2 (some .int), .methodLink RL 21 yL_with, .static yL_with, .code yL_with cL_with 2 (some .int)])
def wsL_mirror : List Cond := .code yL_mirror cL_mirror 3 (some .int) :: ([.methodLink RL 8 yL_size, .static yL_size, .initialized RL, .code yL_size cL_size 1 (some .int), .methodLink RL 14 yL_bit, .static yL_bit, .code yL_bit cL_bit 2 (some .int), .methodLink RL 21 yL_with, .static yL_with, .code yL_with cL_with 2 (some .int)])
def wsL_join : List Cond := .code yL_join cL_join 4 (some .int) :: ([.methodLink RL 8 yL_size, .static yL_size, .initialized RL, .code yL_size cL_size 1 (some .int), .methodLink RL 14 yL_bit, .static yL_bit, .code yL_bit cL_bit 2 (some .int), .methodLink RL 21 yL_with, .static yL_with, .code yL_with cL_with 2 (some .int)])
def wsL_rights : List Cond := .code yL_rights cL_rights 3 (some .int) :: ([.methodLink RL 8 yL_size, .static yL_size, .initialized RL, .code yL_size cL_size 1 (some .int), .methodLink RL 14 yL_bit, .static yL_bit, .code yL_bit cL_bit 2 (some .int)])
def wsL_isClosed : List Cond := .code yL_isClosed cL_isClosed 1 (some .boolean) :: ([.methodLink RL 24 yL_rights, .static yL_rights, .initialized RL, .code yL_rights cL_rights 3 (some .int), .methodLink RL 8 yL_size, .static yL_size, .code yL_size cL_size 1 (some .int), .methodLink RL 14 yL_bit, .static yL_bit, .code yL_bit cL_bit 2 (some .int)])
def wsL_rank : List Cond := .code yL_rank cL_rank 3 (some .int) :: ([.methodLink RL 8 yL_size, .static yL_size, .initialized RL, .code yL_size cL_size 1 (some .int), .methodLink RL 14 yL_bit, .static yL_bit, .code yL_bit cL_bit 2 (some .int)])
def wsL_least : List Cond := .code yL_least cL_least 3 (some .int) :: ([.methodLink RL 8 yL_size, .static yL_size, .initialized RL, .code yL_size cL_size 1 (some .int), .methodLink RL 27 yL_turned, .static yL_turned, .code yL_turned cL_turned 4 (some .int), .methodLink RL 18 yL_round, .static yL_round, .code yL_round cL_round 3 (some .int), .methodLink RL 14 yL_bit, .static yL_bit, .code yL_bit cL_bit 2 (some .int), .methodLink RL 21 yL_with, .static yL_with, .code yL_with cL_with 2 (some .int), .methodLink RL 30 yL_rank, .static yL_rank, .code yL_rank cL_rank 3 (some .int)])
def wsL_alike : List Cond := .code yL_alike cL_alike 2 (some .boolean) :: ([.methodLink RL 8 yL_size, .static yL_size, .initialized RL, .code yL_size cL_size 1 (some .int), .methodLink RL 33 yL_least, .static yL_least, .code yL_least cL_least 3 (some .int), .methodLink RL 27 yL_turned, .static yL_turned, .code yL_turned cL_turned 4 (some .int), .methodLink RL 18 yL_round, .static yL_round, .code yL_round cL_round 3 (some .int), .methodLink RL 14 yL_bit, .static yL_bit, .code yL_bit cL_bit 2 (some .int), .methodLink RL 21 yL_with, .static yL_with, .code yL_with cL_with 2 (some .int), .methodLink RL 30 yL_rank, .static yL_rank, .code yL_rank cL_rank 3 (some .int)])
def wsL_table : List Cond := .code yL_table cL_table 4 none :: ([.methodLink RL 8 yL_size, .static yL_size, .initialized RL, .code yL_size cL_size 1 (some .int), .methodLink RL 14 yL_bit, .static yL_bit, .code yL_bit cL_bit 2 (some .int)])
def wsL_gcd : List Cond := .code yL_gcd cL_gcd 5 (some .int) :: ([])
def wsL_wordBy : List Cond := .code yL_wordBy cL_wordBy 5 (some .int) :: ([.methodLink RL 36 yL_at, .static yL_at, .initialized RL, .code yL_at cL_at 2 (some .int), .methodLink RL 14 yL_bit, .static yL_bit, .code yL_bit cL_bit 2 (some .int), .methodLink RL 21 yL_with, .static yL_with, .code yL_with cL_with 2 (some .int), .methodLink RL 8 yL_size, .static yL_size, .code yL_size cL_size 1 (some .int)])
def wsL_write : List Cond := .code yL_write cL_write 6 (some .int) :: ([.methodLink RL 8 yL_size, .static yL_size, .initialized RL, .code yL_size cL_size 1 (some .int), .methodLink RL 14 yL_bit, .static yL_bit, .code yL_bit cL_bit 2 (some .int), .methodLink RL 36 yL_at, .static yL_at, .code yL_at cL_at 2 (some .int)])
def wsL_spell : List Cond := .code yL_spell cL_spell 4 (some .boolean) :: ([.methodLink RL 39 yX4_letter, .instanceMethod yX4_letter, .selects RX4 yX4_letter yX4_letter, .initialized RX4, .code yX4_letter cX4_letter 2 (some .int), .constant RX4 36 (-2000000102), .fieldLink RX4 10 "RiverWords" "page" "LRiverWords$Page;", .fieldLink RX4 37 "RiverWords$Page" "size" "I", .constant RX4 41 (-2000000104), .methodLink RX4 42 yX1_append, .instanceMethod yX1_append, .selects RX1 yX1_append yX1_append, .initialized RX1, .code yX1_append cX1_append 2 none, .fieldLink RX1 15 "RiverWords$Page" "size" "I", .fieldLink RX1 9 "RiverWords$Page" "codes" "[I", .fieldLink RX1 19 "RiverWords$Page" "good" "I", .methodLink RX1 32 yX1_continues, .instanceMethod yX1_continues, .selects RX1 yX1_continues yX1_continues, .code yX1_continues cX1_continues 7 (some .boolean), .fieldLink RX1 28 "RiverWords$Page" "afterLetter" "Z", .fieldLink RX1 25 "RiverWords$Page" "letters" "I", .fieldLink RX1 22 "RiverWords$Page" "bits" "I"] ++ wsX40 ++ wsX10)
def wsL_crossings : List Cond := .code yL_crossings cL_crossings 6 (some .int) :: ([.methodLink RL 8 yL_size, .static yL_size, .initialized RL, .code yL_size cL_size 1 (some .int), .methodLink RL 14 yL_bit, .static yL_bit, .code yL_bit cL_bit 2 (some .int), .methodLink RL 18 yL_round, .static yL_round, .code yL_round cL_round 3 (some .int)])
def wsL_period : List Cond := .code yL_period cL_period 2 (some .int) :: ([.methodLink RL 27 yL_turned, .static yL_turned, .initialized RL, .code yL_turned cL_turned 4 (some .int), .methodLink RL 8 yL_size, .static yL_size, .code yL_size cL_size 1 (some .int), .methodLink RL 18 yL_round, .static yL_round, .code yL_round cL_round 3 (some .int), .methodLink RL 14 yL_bit, .static yL_bit, .code yL_bit cL_bit 2 (some .int), .methodLink RL 21 yL_with, .static yL_with, .code yL_with cL_with 2 (some .int)])
def wsL_road_r1 : List Cond := [Cond.constant RL 68 (-2000000102), Cond.constant RL 83 (-2000000103), Cond.constant RL 84 (-2000000101), Cond.constantLong RL 85 (4), Cond.methodLink RL 8 yL_size, Cond.static yL_size, Cond.initialized RL, Cond.code yL_size cL_size 1 (some .int), Cond.methodLink RL 27 yL_turned, Cond.static yL_turned, Cond.code yL_turned cL_turned 4 (some .int), Cond.methodLink RL 18 yL_round, Cond.static yL_round, Cond.code yL_round cL_round 3 (some .int), Cond.methodLink RL 14 yL_bit, Cond.static yL_bit, Cond.code yL_bit cL_bit 2 (some .int), Cond.methodLink RL 21 yL_with, Cond.static yL_with, Cond.code yL_with cL_with 2 (some .int), Cond.methodLink RL 33 yL_least, Cond.static yL_least, Cond.code yL_least cL_least 3 (some .int), Cond.methodLink RL 30 yL_rank]
def wsL_road_r2 : List Cond := [Cond.static yL_rank, Cond.code yL_rank cL_rank 3 (some .int), Cond.methodLink RL 44 yL_table, Cond.static yL_table, Cond.code yL_table cL_table 4 none, Cond.methodLink RL 48 yX4_road, Cond.instanceMethod yX4_road, Cond.selects RX4 yX4_road yX4_road, Cond.initialized RX4, Cond.code yX4_road cX4_road 4 (some .int), Cond.constant RX4 74 (-2000000101), Cond.fieldLink RX4 75 "RiverWords$Word" "size" "I", Cond.fieldLink RX4 76 "RiverWords$Word" "bits" "I", Cond.constant RX4 36 (-2000000102), Cond.methodLink RX4 70 yX4_roadAt, Cond.instanceMethod yX4_roadAt, Cond.selects RX4 yX4_roadAt yX4_roadAt, Cond.code yX4_roadAt cX4_roadAt 2 (some (.object "RiverWords$Word")), Cond.fieldLink RX4 148 "RiverWords" "roadCount" "I", Cond.fieldLink RX4 18 "RiverWords" "roads" "[LRiverWords$Word;", Cond.methodLink RX4 77 yJ6_bitCount_0f7a4, Cond.static yJ6_bitCount_0f7a4, Cond.initialized RJ6, Cond.code yJ6_bitCount_0f7a4 cJ6_bitCount_0f7a4 1 (some .int)]
def wsL_road_r3 : List Cond := [Cond.constant RJ6 265 (1431655765), Cond.constant RJ6 266 (858993459), Cond.constant RJ6 267 (252645135), Cond.methodLink RX4 83 yX3_period, Cond.instanceMethod yX3_period, Cond.selects RX3 yX3_period yX3_period, Cond.initialized RX3, Cond.code yX3_period cX3_period 2 (some .int), Cond.fieldLink RX3 15 "RiverWords$Word" "bits" "I", Cond.constant RX3 54 (-2000000001), Cond.fieldLink RX3 19 "RiverWords$Word" "size" "I", Cond.methodLink RX3 55 yX3_turnTo, Cond.instanceMethod yX3_turnTo, Cond.selects RX3 yX3_turnTo yX3_turnTo, Cond.code yX3_turnTo cX3_turnTo 4 (some .int), Cond.methodLink RX3 51 yX3_rotation, Cond.instanceMethod yX3_rotation, Cond.selects RX3 yX3_rotation yX3_rotation, Cond.code yX3_rotation cX3_rotation 2 (some .int), Cond.fieldLink RX3 22 "RiverWords$Word" "allBits" "I", Cond.methodLink RX4 87 yX3_leastTurn, Cond.instanceMethod yX3_leastTurn, Cond.selects RX3 yX3_leastTurn yX3_leastTurn, Cond.code yX3_leastTurn cX3_leastTurn 3 (some .int)]
def wsL_road_r4 : List Cond := [Cond.methodLink RX4 90 yX3_traceSum, Cond.instanceMethod yX3_traceSum, Cond.selects RX3 yX3_traceSum yX3_traceSum, Cond.code yX3_traceSum cX3_traceSum 1 (some .int), Cond.fieldLink RX3 25 "RiverWords$Word" "a" "I", Cond.fieldLink RX3 34 "RiverWords$Word" "d" "I", Cond.methodLink RX4 93 yX3_isClosed, Cond.instanceMethod yX3_isClosed, Cond.selects RX3 yX3_isClosed yX3_isClosed, Cond.code yX3_isClosed cX3_isClosed 1 (some .boolean), Cond.methodLink RX4 96 yX3_reversal, Cond.instanceMethod yX3_reversal, Cond.selects RX3 yX3_reversal yX3_reversal, Cond.code yX3_reversal cX3_reversal 3 (some .int), Cond.methodLink RX3 37 yX3_bitAt, Cond.instanceMethod yX3_bitAt, Cond.selects RX3 yX3_bitAt yX3_bitAt, Cond.code yX3_bitAt cX3_bitAt 2 (some .int), Cond.methodLink RX4 99 yX3_isConjugate, Cond.instanceMethod yX3_isConjugate, Cond.selects RX3 yX3_isConjugate yX3_isConjugate, Cond.code yX3_isConjugate cX3_isConjugate 2 (some .boolean), Cond.methodLink RX4 103 yX3_complement, Cond.instanceMethod yX3_complement]
def wsL_road_r5 : List Cond := [Cond.selects RX3 yX3_complement yX3_complement, Cond.code yX3_complement cX3_complement 2 (some .int), Cond.methodLink RL 24 yL_rights, Cond.static yL_rights, Cond.code yL_rights cL_rights 3 (some .int), Cond.methodLink RL 51 yL_period, Cond.static yL_period, Cond.code yL_period cL_period 2 (some .int), Cond.methodLink RL 54 yL_isClosed, Cond.static yL_isClosed, Cond.code yL_isClosed cL_isClosed 1 (some .boolean), Cond.methodLink RL 58 yL_back, Cond.static yL_back, Cond.code yL_back cL_back 3 (some .int), Cond.methodLink RL 61 yL_alike, Cond.static yL_alike, Cond.code yL_alike cL_alike 2 (some .boolean), Cond.methodLink RL 65 yL_mirror, Cond.static yL_mirror, Cond.code yL_mirror cL_mirror 3 (some .int), Cond.methodLink RL 69 yX4_sign, Cond.instanceMethod yX4_sign, Cond.selects RX4 yX4_sign yX4_sign, Cond.code yX4_sign cX4_sign 4 (some .int)]
def wsL_road_r6 : List Cond := [Cond.methodLink RX4 106 yX3_bitAt, Cond.methodLink RX4 109 yX4_code, Cond.static yX4_code, Cond.code yX4_code cX4_code 1 (some .int), Cond.methodLink RL 72 yX4_table, Cond.instanceMethod yX4_table, Cond.selects RX4 yX4_table yX4_table, Cond.code yX4_table cX4_table 4 (some .int), Cond.fieldLink RX4 112 "RiverWords$Word" "a" "I", Cond.fieldLink RX4 115 "RiverWords$Word" "b" "I", Cond.fieldLink RX4 118 "RiverWords$Word" "c" "I", Cond.fieldLink RX4 121 "RiverWords$Word" "d" "I", Cond.methodLink RL 74 yX4_end, Cond.instanceMethod yX4_end, Cond.selects RX4 yX4_end yX4_end, Cond.code yX4_end cX4_end 4 (some .int), Cond.methodLink RL 77 yL_gcd, Cond.static yL_gcd, Cond.code yL_gcd cL_gcd 5 (some .int), Cond.methodLink RL 80 yX4_form, Cond.instanceMethod yX4_form, Cond.selects RX4 yX4_form yX4_form, Cond.code yX4_form cX4_form 4 (some .int), Cond.constant RX4 56 (-2000000103)]
def wsL_road_r7 : List Cond := [Cond.methodLink RX4 124 yX3_formNumber, Cond.instanceMethod yX3_formNumber, Cond.selects RX3 yX3_formNumber yX3_formNumber, Cond.code yX3_formNumber cX3_formNumber 6 (some .int), Cond.fieldLink RX3 31 "RiverWords$Word" "c" "I", Cond.fieldLink RX3 28 "RiverWords$Word" "b" "I", Cond.static yX4_commonDivisor, Cond.code yX4_commonDivisor cX4_commonDivisor 6 (some .int), Cond.methodLink RX4 290 Lib.Math.abs.name, Cond.static Lib.Math.abs.name, Cond.initialized "java/lang/Math", Cond.code Lib.Math.abs.name Lib.Math.abs.code 1 (some .int), Cond.methodLink RX4 295 Lib.Math.max.name, Cond.static Lib.Math.max.name, Cond.code Lib.Math.max.name Lib.Math.max.code 2 (some .int), Cond.static yX4_discriminantOf, Cond.code yX4_discriminantOf cX4_discriminantOf 3 (some .int)]
def wsL_road : List Cond := .code yL_road cL_road 12 (some .boolean) :: ((wsL_road_r1 ++ (wsL_road_r2 ++ (wsL_road_r3 ++ (wsL_road_r4 ++ (wsL_road_r5 ++ (wsL_road_r6 ++ wsL_road_r7)))))) ++ wsX30 ++ wsX40)
def wsL_stands_r1 : List Cond := [Cond.constant RL 90 (-2000000001), Cond.constant RL 84 (-2000000101), Cond.constant RL 68 (-2000000102), Cond.methodLink RL 87 yL_road, Cond.static yL_road, Cond.initialized RL, Cond.code yL_road cL_road 12 (some .boolean), Cond.constant RL 83 (-2000000103), Cond.constantLong RL 85 (4), Cond.methodLink RL 8 yL_size, Cond.static yL_size, Cond.code yL_size cL_size 1 (some .int), Cond.methodLink RL 27 yL_turned, Cond.static yL_turned, Cond.code yL_turned cL_turned 4 (some .int), Cond.methodLink RL 18 yL_round, Cond.static yL_round, Cond.code yL_round cL_round 3 (some .int), Cond.methodLink RL 14 yL_bit, Cond.static yL_bit, Cond.code yL_bit cL_bit 2 (some .int), Cond.methodLink RL 21 yL_with, Cond.static yL_with, Cond.code yL_with cL_with 2 (some .int)]
def wsL_stands_r2 : List Cond := [Cond.methodLink RL 33 yL_least, Cond.static yL_least, Cond.code yL_least cL_least 3 (some .int), Cond.methodLink RL 30 yL_rank, Cond.static yL_rank, Cond.code yL_rank cL_rank 3 (some .int), Cond.methodLink RL 44 yL_table, Cond.static yL_table, Cond.code yL_table cL_table 4 none, Cond.methodLink RL 48 yX4_road, Cond.instanceMethod yX4_road, Cond.selects RX4 yX4_road yX4_road, Cond.initialized RX4, Cond.code yX4_road cX4_road 4 (some .int), Cond.constant RX4 74 (-2000000101), Cond.fieldLink RX4 75 "RiverWords$Word" "size" "I", Cond.fieldLink RX4 76 "RiverWords$Word" "bits" "I", Cond.constant RX4 36 (-2000000102), Cond.methodLink RX4 70 yX4_roadAt, Cond.instanceMethod yX4_roadAt, Cond.selects RX4 yX4_roadAt yX4_roadAt, Cond.code yX4_roadAt cX4_roadAt 2 (some (.object "RiverWords$Word")), Cond.fieldLink RX4 148 "RiverWords" "roadCount" "I", Cond.fieldLink RX4 18 "RiverWords" "roads" "[LRiverWords$Word;"]
def wsL_stands_r3 : List Cond := [Cond.methodLink RX4 77 yJ6_bitCount_0f7a4, Cond.static yJ6_bitCount_0f7a4, Cond.initialized RJ6, Cond.code yJ6_bitCount_0f7a4 cJ6_bitCount_0f7a4 1 (some .int), Cond.constant RJ6 265 (1431655765), Cond.constant RJ6 266 (858993459), Cond.constant RJ6 267 (252645135), Cond.methodLink RX4 83 yX3_period, Cond.instanceMethod yX3_period, Cond.selects RX3 yX3_period yX3_period, Cond.initialized RX3, Cond.code yX3_period cX3_period 2 (some .int), Cond.fieldLink RX3 15 "RiverWords$Word" "bits" "I", Cond.constant RX3 54 (-2000000001), Cond.fieldLink RX3 19 "RiverWords$Word" "size" "I", Cond.methodLink RX3 55 yX3_turnTo, Cond.instanceMethod yX3_turnTo, Cond.selects RX3 yX3_turnTo yX3_turnTo, Cond.code yX3_turnTo cX3_turnTo 4 (some .int), Cond.methodLink RX3 51 yX3_rotation, Cond.instanceMethod yX3_rotation, Cond.selects RX3 yX3_rotation yX3_rotation, Cond.code yX3_rotation cX3_rotation 2 (some .int), Cond.fieldLink RX3 22 "RiverWords$Word" "allBits" "I"]
def wsL_stands_r4 : List Cond := [Cond.methodLink RX4 87 yX3_leastTurn, Cond.instanceMethod yX3_leastTurn, Cond.selects RX3 yX3_leastTurn yX3_leastTurn, Cond.code yX3_leastTurn cX3_leastTurn 3 (some .int), Cond.methodLink RX4 90 yX3_traceSum, Cond.instanceMethod yX3_traceSum, Cond.selects RX3 yX3_traceSum yX3_traceSum, Cond.code yX3_traceSum cX3_traceSum 1 (some .int), Cond.fieldLink RX3 25 "RiverWords$Word" "a" "I", Cond.fieldLink RX3 34 "RiverWords$Word" "d" "I", Cond.methodLink RX4 93 yX3_isClosed, Cond.instanceMethod yX3_isClosed, Cond.selects RX3 yX3_isClosed yX3_isClosed, Cond.code yX3_isClosed cX3_isClosed 1 (some .boolean), Cond.methodLink RX4 96 yX3_reversal, Cond.instanceMethod yX3_reversal, Cond.selects RX3 yX3_reversal yX3_reversal, Cond.code yX3_reversal cX3_reversal 3 (some .int), Cond.methodLink RX3 37 yX3_bitAt, Cond.instanceMethod yX3_bitAt, Cond.selects RX3 yX3_bitAt yX3_bitAt, Cond.code yX3_bitAt cX3_bitAt 2 (some .int), Cond.methodLink RX4 99 yX3_isConjugate, Cond.instanceMethod yX3_isConjugate]
def wsL_stands_r5 : List Cond := [Cond.selects RX3 yX3_isConjugate yX3_isConjugate, Cond.code yX3_isConjugate cX3_isConjugate 2 (some .boolean), Cond.methodLink RX4 103 yX3_complement, Cond.instanceMethod yX3_complement, Cond.selects RX3 yX3_complement yX3_complement, Cond.code yX3_complement cX3_complement 2 (some .int), Cond.methodLink RL 24 yL_rights, Cond.static yL_rights, Cond.code yL_rights cL_rights 3 (some .int), Cond.methodLink RL 51 yL_period, Cond.static yL_period, Cond.code yL_period cL_period 2 (some .int), Cond.methodLink RL 54 yL_isClosed, Cond.static yL_isClosed, Cond.code yL_isClosed cL_isClosed 1 (some .boolean), Cond.methodLink RL 58 yL_back, Cond.static yL_back, Cond.code yL_back cL_back 3 (some .int), Cond.methodLink RL 61 yL_alike, Cond.static yL_alike, Cond.code yL_alike cL_alike 2 (some .boolean), Cond.methodLink RL 65 yL_mirror, Cond.static yL_mirror, Cond.code yL_mirror cL_mirror 3 (some .int)]
def wsL_stands_r6 : List Cond := [Cond.methodLink RL 69 yX4_sign, Cond.instanceMethod yX4_sign, Cond.selects RX4 yX4_sign yX4_sign, Cond.code yX4_sign cX4_sign 4 (some .int), Cond.methodLink RX4 106 yX3_bitAt, Cond.methodLink RX4 109 yX4_code, Cond.static yX4_code, Cond.code yX4_code cX4_code 1 (some .int), Cond.methodLink RL 72 yX4_table, Cond.instanceMethod yX4_table, Cond.selects RX4 yX4_table yX4_table, Cond.code yX4_table cX4_table 4 (some .int), Cond.fieldLink RX4 112 "RiverWords$Word" "a" "I", Cond.fieldLink RX4 115 "RiverWords$Word" "b" "I", Cond.fieldLink RX4 118 "RiverWords$Word" "c" "I", Cond.fieldLink RX4 121 "RiverWords$Word" "d" "I", Cond.methodLink RL 74 yX4_end, Cond.instanceMethod yX4_end, Cond.selects RX4 yX4_end yX4_end, Cond.code yX4_end cX4_end 4 (some .int), Cond.methodLink RL 77 yL_gcd, Cond.static yL_gcd, Cond.code yL_gcd cL_gcd 5 (some .int), Cond.methodLink RL 80 yX4_form]
def wsL_stands_r7 : List Cond := [Cond.instanceMethod yX4_form, Cond.selects RX4 yX4_form yX4_form, Cond.code yX4_form cX4_form 4 (some .int), Cond.constant RX4 56 (-2000000103), Cond.methodLink RX4 124 yX3_formNumber, Cond.instanceMethod yX3_formNumber, Cond.selects RX3 yX3_formNumber yX3_formNumber, Cond.code yX3_formNumber cX3_formNumber 6 (some .int), Cond.fieldLink RX3 31 "RiverWords$Word" "c" "I", Cond.fieldLink RX3 28 "RiverWords$Word" "b" "I", Cond.static yX4_commonDivisor, Cond.code yX4_commonDivisor cX4_commonDivisor 6 (some .int), Cond.methodLink RX4 290 Lib.Math.abs.name, Cond.static Lib.Math.abs.name, Cond.initialized "java/lang/Math", Cond.code Lib.Math.abs.name Lib.Math.abs.code 1 (some .int), Cond.methodLink RX4 295 Lib.Math.max.name, Cond.static Lib.Math.max.name, Cond.code Lib.Math.max.name Lib.Math.max.code 2 (some .int), Cond.static yX4_discriminantOf, Cond.code yX4_discriminantOf cX4_discriminantOf 3 (some .int), Cond.methodLink RL 91 yX4_alike, Cond.instanceMethod yX4_alike, Cond.selects RX4 yX4_alike yX4_alike]
def wsL_stands_r8 : List Cond := [Cond.code yX4_alike cX4_alike 5 (some .int), Cond.constant RX4 130 (-2000000001), Cond.methodLink RX4 127 yX3_turnTo, Cond.methodLink RL 93 yX4_count, Cond.instanceMethod yX4_count, Cond.selects RX4 yX4_count yX4_count, Cond.code yX4_count cX4_count 2 (some .int), Cond.fieldLink RX4 10 "RiverWords" "page" "LRiverWords$Page;", Cond.fieldLink RX4 37 "RiverWords$Page" "size" "I", Cond.fieldLink RX4 67 "RiverWords" "readings" "I", Cond.fieldLink RX4 25 "RiverWords" "river" "LRiverWords$River;", Cond.fieldLink RX4 156 "RiverWords$River" "size" "I", Cond.fieldLink RX4 219 "RiverWords$River" "cycleCount" "I", Cond.methodLink RX4 213 yX4_closedRoads, Cond.instanceMethod yX4_closedRoads, Cond.selects RX4 yX4_closedRoads yX4_closedRoads, Cond.code yX4_closedRoads cX4_closedRoads 3 (some .int), Cond.methodLink RX4 262 yX4_isClosedRoad, Cond.instanceMethod yX4_isClosedRoad, Cond.selects RX4 yX4_isClosedRoad yX4_isClosedRoad, Cond.code yX4_isClosedRoad cX4_isClosedRoad 3 (some .boolean), Cond.methodLink RX4 216 yX4_roadClasses, Cond.instanceMethod yX4_roadClasses, Cond.selects RX4 yX4_roadClasses yX4_roadClasses]
def wsL_stands_r9 : List Cond := [Cond.code yX4_roadClasses cX4_roadClasses 3 (some .int), Cond.methodLink RX4 284 yX4_isFirstOfClass, Cond.instanceMethod yX4_isFirstOfClass, Cond.selects RX4 yX4_isFirstOfClass yX4_isFirstOfClass, Cond.code yX4_isFirstOfClass cX4_isFirstOfClass 3 (some .boolean), Cond.methodLink RX4 287 yX4_alike, Cond.methodLink RL 96 yX4_cross, Cond.instanceMethod yX4_cross, Cond.selects RX4 yX4_cross yX4_cross, Cond.code yX4_cross cX4_cross 5 (some .int), Cond.methodLink RX4 131 yX3_crossings, Cond.instanceMethod yX3_crossings, Cond.selects RX3 yX3_crossings yX3_crossings, Cond.code yX3_crossings cX3_crossings 5 (some .int), Cond.methodLink RX3 66 yX3_crosses, Cond.instanceMethod yX3_crosses, Cond.selects RX3 yX3_crosses yX3_crosses, Cond.code yX3_crosses cX3_crosses 7 (some .boolean)]
def wsL_stands : List Cond := .code yL_stands cL_stands 11 (some .boolean) :: ((wsL_stands_r1 ++ (wsL_stands_r2 ++ (wsL_stands_r3 ++ (wsL_stands_r4 ++ (wsL_stands_r5 ++ (wsL_stands_r6 ++ (wsL_stands_r7 ++ (wsL_stands_r8 ++ wsL_stands_r9)))))))) ++ wsX30 ++ wsX40 ++ wsX10 ++ wsX20)
def wsL_crosses_r1 : List Cond := [Cond.constant RL 83 (-2000000103), Cond.methodLink RL 54 yL_isClosed, Cond.static yL_isClosed, Cond.initialized RL, Cond.code yL_isClosed cL_isClosed 1 (some .boolean), Cond.methodLink RL 24 yL_rights, Cond.static yL_rights, Cond.code yL_rights cL_rights 3 (some .int), Cond.methodLink RL 8 yL_size, Cond.static yL_size, Cond.code yL_size cL_size 1 (some .int), Cond.methodLink RL 14 yL_bit, Cond.static yL_bit, Cond.code yL_bit cL_bit 2 (some .int), Cond.methodLink RL 99 yL_crossings, Cond.static yL_crossings, Cond.code yL_crossings cL_crossings 6 (some .int), Cond.methodLink RL 18 yL_round, Cond.static yL_round, Cond.code yL_round cL_round 3 (some .int), Cond.methodLink RL 96 yX4_cross, Cond.instanceMethod yX4_cross, Cond.selects RX4 yX4_cross yX4_cross, Cond.initialized RX4]
def wsL_crosses_r2 : List Cond := [Cond.code yX4_cross cX4_cross 5 (some .int), Cond.constant RX4 74 (-2000000101), Cond.constant RX4 56 (-2000000103), Cond.methodLink RX4 70 yX4_roadAt, Cond.instanceMethod yX4_roadAt, Cond.selects RX4 yX4_roadAt yX4_roadAt, Cond.code yX4_roadAt cX4_roadAt 2 (some (.object "RiverWords$Word")), Cond.fieldLink RX4 148 "RiverWords" "roadCount" "I", Cond.fieldLink RX4 18 "RiverWords" "roads" "[LRiverWords$Word;", Cond.methodLink RX4 93 yX3_isClosed, Cond.instanceMethod yX3_isClosed, Cond.selects RX3 yX3_isClosed yX3_isClosed, Cond.initialized RX3, Cond.code yX3_isClosed cX3_isClosed 1 (some .boolean), Cond.fieldLink RX3 15 "RiverWords$Word" "bits" "I", Cond.fieldLink RX3 22 "RiverWords$Word" "allBits" "I", Cond.methodLink RX4 131 yX3_crossings, Cond.instanceMethod yX3_crossings, Cond.selects RX3 yX3_crossings yX3_crossings, Cond.code yX3_crossings cX3_crossings 5 (some .int), Cond.fieldLink RX3 19 "RiverWords$Word" "size" "I", Cond.methodLink RX3 37 yX3_bitAt, Cond.instanceMethod yX3_bitAt, Cond.selects RX3 yX3_bitAt yX3_bitAt]
def wsL_crosses_r3 : List Cond := [Cond.code yX3_bitAt cX3_bitAt 2 (some .int), Cond.methodLink RX3 66 yX3_crosses, Cond.instanceMethod yX3_crosses, Cond.selects RX3 yX3_crosses yX3_crosses, Cond.code yX3_crosses cX3_crosses 7 (some .boolean), Cond.methodLink RL 27 yL_turned, Cond.static yL_turned, Cond.code yL_turned cL_turned 4 (some .int), Cond.methodLink RL 21 yL_with, Cond.static yL_with, Cond.code yL_with cL_with 2 (some .int), Cond.methodLink RL 65 yL_mirror, Cond.static yL_mirror, Cond.code yL_mirror cL_mirror 3 (some .int), Cond.methodLink RL 58 yL_back, Cond.static yL_back, Cond.code yL_back cL_back 3 (some .int), Cond.methodLink RL 102 yL_join, Cond.static yL_join, Cond.code yL_join cL_join 4 (some .int), Cond.methodLink RL 61 yL_alike, Cond.static yL_alike, Cond.code yL_alike cL_alike 2 (some .boolean), Cond.methodLink RL 33 yL_least]
def wsL_crosses_r4 : List Cond := [Cond.static yL_least, Cond.code yL_least cL_least 3 (some .int), Cond.methodLink RL 30 yL_rank, Cond.static yL_rank, Cond.code yL_rank cL_rank 3 (some .int)]
def wsL_crosses : List Cond := .code yL_crosses cL_crosses 7 (some .boolean) :: ((wsL_crosses_r1 ++ (wsL_crosses_r2 ++ (wsL_crosses_r3 ++ wsL_crosses_r4))) ++ wsX40 ++ wsX30)
def wsL_comes : List Cond := .code yL_comes cL_comes 4 (some .int) :: ([.constant RL 83 (-2000000103), .constant RL 105 (-2000000104)])
def wsL_cutTo : List Cond := .code yL_cutTo cL_cutTo 5 (some .int) :: ([.methodLink RL 8 yL_size, .static yL_size, .initialized RL, .code yL_size cL_size 1 (some .int), .methodLink RL 21 yL_with, .static yL_with, .code yL_with cL_with 2 (some .int)])
def wsL_does_r1 : List Cond := [Cond.constant RL 105 (-2000000104), Cond.constant RL 68 (-2000000102), Cond.constant RL 84 (-2000000101), Cond.methodLink RL 36 yL_at, Cond.static yL_at, Cond.initialized RL, Cond.code yL_at cL_at 2 (some .int), Cond.methodLink RL 106 yL_wordBy, Cond.static yL_wordBy, Cond.code yL_wordBy cL_wordBy 5 (some .int), Cond.methodLink RL 14 yL_bit, Cond.static yL_bit, Cond.code yL_bit cL_bit 2 (some .int), Cond.methodLink RL 21 yL_with, Cond.static yL_with, Cond.code yL_with cL_with 2 (some .int), Cond.methodLink RL 8 yL_size, Cond.static yL_size, Cond.code yL_size cL_size 1 (some .int), Cond.methodLink RL 109 yL_write, Cond.static yL_write, Cond.code yL_write cL_write 6 (some .int), Cond.methodLink RL 113 yL_spell, Cond.static yL_spell]
def wsL_does_r2 : List Cond := [Cond.code yL_spell cL_spell 4 (some .boolean), Cond.methodLink RL 39 yX4_letter, Cond.instanceMethod yX4_letter, Cond.selects RX4 yX4_letter yX4_letter, Cond.initialized RX4, Cond.code yX4_letter cX4_letter 2 (some .int), Cond.constant RX4 36 (-2000000102), Cond.fieldLink RX4 10 "RiverWords" "page" "LRiverWords$Page;", Cond.fieldLink RX4 37 "RiverWords$Page" "size" "I", Cond.constant RX4 41 (-2000000104), Cond.methodLink RX4 42 yX1_append, Cond.instanceMethod yX1_append, Cond.selects RX1 yX1_append yX1_append, Cond.initialized RX1, Cond.code yX1_append cX1_append 2 none, Cond.fieldLink RX1 15 "RiverWords$Page" "size" "I", Cond.fieldLink RX1 9 "RiverWords$Page" "codes" "[I", Cond.fieldLink RX1 19 "RiverWords$Page" "good" "I", Cond.methodLink RX1 32 yX1_continues, Cond.instanceMethod yX1_continues, Cond.selects RX1 yX1_continues yX1_continues, Cond.code yX1_continues cX1_continues 7 (some .boolean), Cond.fieldLink RX1 28 "RiverWords$Page" "afterLetter" "Z", Cond.fieldLink RX1 25 "RiverWords$Page" "letters" "I"]
def wsL_does_r3 : List Cond := [Cond.fieldLink RX1 22 "RiverWords$Page" "bits" "I", Cond.methodLink RL 117 yX4_fault, Cond.instanceMethod yX4_fault, Cond.selects RX4 yX4_fault yX4_fault, Cond.code yX4_fault cX4_fault 1 (some .int), Cond.fieldLink RX4 49 "RiverWords$Page" "good" "I", Cond.methodLink RL 121 yX4_word, Cond.instanceMethod yX4_word, Cond.selects RX4 yX4_word yX4_word, Cond.code yX4_word cX4_word 2 (some .int), Cond.constant RX4 56 (-2000000103), Cond.fieldLink RX4 57 "RiverWords$Page" "bits" "I", Cond.fieldLink RX4 60 "RiverWords$Page" "letters" "I", Cond.fieldLink RX4 67 "RiverWords" "readings" "I", Cond.methodLink RX4 52 yX1_isWord, Cond.instanceMethod yX1_isWord, Cond.selects RX1 yX1_isWord yX1_isWord, Cond.code yX1_isWord cX1_isWord 1 (some .boolean), Cond.methodLink RX4 63 yX4_addRoad, Cond.instanceMethod yX4_addRoad, Cond.selects RX4 yX4_addRoad yX4_addRoad, Cond.code yX4_addRoad cX4_addRoad 4 (some .int), Cond.fieldLink RX4 148 "RiverWords" "roadCount" "I", Cond.fieldLink RX4 18 "RiverWords" "roads" "[LRiverWords$Word;"]
def wsL_does_r4 : List Cond := [Cond.classLink RX4 16 RX3, Cond.instantiable RX3 7, Cond.initialized RX3, Cond.methodLink RX4 282 yX3_init, Cond.instanceMethod yX3_init, Cond.code yX3_init cX3_init 3 none, Cond.methodLink RX3 3 objectInit, Cond.instanceMethod objectInit, Cond.code objectInit ⟨#[0xb1]⟩ 1 none, Cond.methodLink RX3 9 yX3_become, Cond.instanceMethod yX3_become, Cond.selects RX3 yX3_become yX3_become, Cond.code yX3_become cX3_become 4 none, Cond.fieldLink RX3 15 "RiverWords$Word" "bits" "I", Cond.fieldLink RX3 19 "RiverWords$Word" "size" "I", Cond.fieldLink RX3 22 "RiverWords$Word" "allBits" "I", Cond.fieldLink RX3 25 "RiverWords$Word" "a" "I", Cond.fieldLink RX3 28 "RiverWords$Word" "b" "I", Cond.fieldLink RX3 31 "RiverWords$Word" "c" "I", Cond.fieldLink RX3 34 "RiverWords$Word" "d" "I", Cond.methodLink RX3 37 yX3_bitAt, Cond.instanceMethod yX3_bitAt, Cond.selects RX3 yX3_bitAt yX3_bitAt, Cond.code yX3_bitAt cX3_bitAt 2 (some .int)]
def wsL_does_r5 : List Cond := [Cond.methodLink RX4 46 yX1_clear, Cond.instanceMethod yX1_clear, Cond.selects RX1 yX1_clear yX1_clear, Cond.code yX1_clear cX1_clear 1 none, Cond.methodLink RL 93 yX4_count, Cond.instanceMethod yX4_count, Cond.selects RX4 yX4_count yX4_count, Cond.code yX4_count cX4_count 2 (some .int), Cond.fieldLink RX4 25 "RiverWords" "river" "LRiverWords$River;", Cond.fieldLink RX4 156 "RiverWords$River" "size" "I", Cond.fieldLink RX4 219 "RiverWords$River" "cycleCount" "I", Cond.methodLink RX4 213 yX4_closedRoads, Cond.instanceMethod yX4_closedRoads, Cond.selects RX4 yX4_closedRoads yX4_closedRoads, Cond.code yX4_closedRoads cX4_closedRoads 3 (some .int), Cond.methodLink RX4 262 yX4_isClosedRoad, Cond.instanceMethod yX4_isClosedRoad, Cond.selects RX4 yX4_isClosedRoad yX4_isClosedRoad, Cond.code yX4_isClosedRoad cX4_isClosedRoad 3 (some .boolean), Cond.methodLink RX4 70 yX4_roadAt, Cond.instanceMethod yX4_roadAt, Cond.selects RX4 yX4_roadAt yX4_roadAt, Cond.code yX4_roadAt cX4_roadAt 2 (some (.object "RiverWords$Word")), Cond.methodLink RX4 93 yX3_isClosed]
def wsL_does_r6 : List Cond := [Cond.instanceMethod yX3_isClosed, Cond.selects RX3 yX3_isClosed yX3_isClosed, Cond.code yX3_isClosed cX3_isClosed 1 (some .boolean), Cond.methodLink RX4 216 yX4_roadClasses, Cond.instanceMethod yX4_roadClasses, Cond.selects RX4 yX4_roadClasses yX4_roadClasses, Cond.code yX4_roadClasses cX4_roadClasses 3 (some .int), Cond.methodLink RX4 284 yX4_isFirstOfClass, Cond.instanceMethod yX4_isFirstOfClass, Cond.selects RX4 yX4_isFirstOfClass yX4_isFirstOfClass, Cond.code yX4_isFirstOfClass cX4_isFirstOfClass 3 (some .boolean), Cond.methodLink RX4 287 yX4_alike, Cond.instanceMethod yX4_alike, Cond.selects RX4 yX4_alike yX4_alike, Cond.code yX4_alike cX4_alike 5 (some .int), Cond.constant RX4 74 (-2000000101), Cond.fieldLink RX4 75 "RiverWords$Word" "size" "I", Cond.fieldLink RX4 76 "RiverWords$Word" "bits" "I", Cond.constant RX4 130 (-2000000001), Cond.methodLink RX4 127 yX3_turnTo, Cond.instanceMethod yX3_turnTo, Cond.selects RX3 yX3_turnTo yX3_turnTo, Cond.code yX3_turnTo cX3_turnTo 4 (some .int), Cond.constant RX3 54 (-2000000001)]
def wsL_does_r7 : List Cond := [Cond.methodLink RX3 51 yX3_rotation, Cond.instanceMethod yX3_rotation, Cond.selects RX3 yX3_rotation yX3_rotation, Cond.code yX3_rotation cX3_rotation 2 (some .int), Cond.methodLink RL 124 yX4_blank, Cond.instanceMethod yX4_blank, Cond.selects RX4 yX4_blank yX4_blank, Cond.code yX4_blank cX4_blank 2 (some .int), Cond.methodLink RL 127 yX4_turn, Cond.instanceMethod yX4_turn, Cond.selects RX4 yX4_turn yX4_turn, Cond.code yX4_turn cX4_turn 4 (some .int), Cond.methodLink RX4 135 yX3_rotation, Cond.methodLink RX4 138 yX3_become, Cond.methodLink RX4 83 yX3_period, Cond.instanceMethod yX3_period, Cond.selects RX3 yX3_period yX3_period, Cond.code yX3_period cX3_period 2 (some .int), Cond.methodLink RX3 55 yX3_turnTo, Cond.methodLink RL 27 yL_turned, Cond.static yL_turned, Cond.code yL_turned cL_turned 4 (some .int), Cond.methodLink RL 18 yL_round, Cond.static yL_round]
def wsL_does_r8 : List Cond := [Cond.code yL_round cL_round 3 (some .int), Cond.methodLink RL 51 yL_period, Cond.static yL_period, Cond.code yL_period cL_period 2 (some .int), Cond.methodLink RL 58 yL_back, Cond.static yL_back, Cond.code yL_back cL_back 3 (some .int), Cond.methodLink RL 65 yL_mirror, Cond.static yL_mirror, Cond.code yL_mirror cL_mirror 3 (some .int), Cond.methodLink RL 33 yL_least, Cond.static yL_least, Cond.code yL_least cL_least 3 (some .int), Cond.methodLink RL 30 yL_rank, Cond.static yL_rank, Cond.code yL_rank cL_rank 3 (some .int), Cond.methodLink RL 44 yL_table, Cond.static yL_table, Cond.code yL_table cL_table 4 none, Cond.methodLink RL 130 yX4_change, Cond.instanceMethod yX4_change, Cond.selects RX4 yX4_change yX4_change, Cond.code yX4_change cX4_change 4 (some .int), Cond.methodLink RX4 142 yX3_changed]
def wsL_does_r9 : List Cond := [Cond.instanceMethod yX3_changed, Cond.selects RX3 yX3_changed yX3_changed, Cond.code yX3_changed cX3_changed 2 (some .int), Cond.methodLink RX3 41 yX3_reversal, Cond.instanceMethod yX3_reversal, Cond.selects RX3 yX3_reversal yX3_reversal, Cond.code yX3_reversal cX3_reversal 3 (some .int), Cond.methodLink RX3 45 yX3_complement, Cond.instanceMethod yX3_complement, Cond.selects RX3 yX3_complement yX3_complement, Cond.code yX3_complement cX3_complement 2 (some .int), Cond.methodLink RX3 48 yX3_leastTurn, Cond.instanceMethod yX3_leastTurn, Cond.selects RX3 yX3_leastTurn yX3_leastTurn, Cond.code yX3_leastTurn cX3_leastTurn 3 (some .int), Cond.methodLink RX4 90 yX3_traceSum, Cond.instanceMethod yX3_traceSum, Cond.selects RX3 yX3_traceSum yX3_traceSum, Cond.code yX3_traceSum cX3_traceSum 1 (some .int), Cond.methodLink RL 102 yL_join, Cond.static yL_join, Cond.code yL_join cL_join 4 (some .int), Cond.methodLink RL 133 yL_comes, Cond.static yL_comes]
def wsL_does_r10 : List Cond := [Cond.code yL_comes cL_comes 4 (some .int), Cond.constant RL 83 (-2000000103), Cond.methodLink RL 137 yX4_join, Cond.instanceMethod yX4_join, Cond.selects RX4 yX4_join yX4_join, Cond.code yX4_join cX4_join 5 (some .int), Cond.methodLink RL 138 yX4_times, Cond.instanceMethod yX4_times, Cond.selects RX4 yX4_times yX4_times, Cond.code yX4_times cX4_times 6 (some .int), Cond.methodLink RL 141 yX4_cut, Cond.instanceMethod yX4_cut, Cond.selects RX4 yX4_cut yX4_cut, Cond.code yX4_cut cX4_cut 7 (some .int), Cond.methodLink RX4 145 yX4_commonDivisor, Cond.static yX4_commonDivisor, Cond.code yX4_commonDivisor cX4_commonDivisor 6 (some .int), Cond.methodLink RX4 290 Lib.Math.abs.name, Cond.static Lib.Math.abs.name, Cond.initialized "java/lang/Math", Cond.code Lib.Math.abs.name Lib.Math.abs.code 1 (some .int), Cond.methodLink RX4 295 Lib.Math.max.name, Cond.static Lib.Math.max.name, Cond.code Lib.Math.max.name Lib.Math.max.code 2 (some .int)]
def wsL_does_r11 : List Cond := [Cond.methodLink RL 77 yL_gcd, Cond.static yL_gcd, Cond.code yL_gcd cL_gcd 5 (some .int), Cond.methodLink RL 144 yL_cutTo, Cond.static yL_cutTo, Cond.code yL_cutTo cL_cutTo 5 (some .int), Cond.methodLink RL 74 yX4_end, Cond.instanceMethod yX4_end, Cond.selects RX4 yX4_end yX4_end, Cond.code yX4_end cX4_end 4 (some .int), Cond.fieldLink RX4 112 "RiverWords$Word" "a" "I", Cond.fieldLink RX4 115 "RiverWords$Word" "b" "I", Cond.fieldLink RX4 118 "RiverWords$Word" "c" "I", Cond.fieldLink RX4 121 "RiverWords$Word" "d" "I", Cond.methodLink RL 147 yX4_drop, Cond.instanceMethod yX4_drop, Cond.selects RX4 yX4_drop yX4_drop, Cond.code yX4_drop cX4_drop 1 (some .int), Cond.methodLink RL 91 yX4_alike, Cond.methodLink RL 61 yL_alike, Cond.static yL_alike, Cond.code yL_alike cL_alike 2 (some .boolean)]
def wsL_does : List Cond := .code yL_does cL_does 14 (some .boolean) :: ((wsL_does_r1 ++ (wsL_does_r2 ++ (wsL_does_r3 ++ (wsL_does_r4 ++ (wsL_does_r5 ++ (wsL_does_r6 ++ (wsL_does_r7 ++ (wsL_does_r8 ++ (wsL_does_r9 ++ (wsL_does_r10 ++ wsL_does_r11)))))))))) ++ wsX40 ++ wsX10 ++ wsX30 ++ wsX20)
def wsL_drawn_r1 : List Cond := [Cond.constantLong RL 150 (1103515245), Cond.constantLong RL 152 (12345), Cond.constantLong RL 154 (2147483648), Cond.constantLong RL 156 (65536), Cond.constantLong RL 158 (2), Cond.constant RL 68 (-2000000102), Cond.methodLink RL 21 yL_with, Cond.static yL_with, Cond.initialized RL, Cond.code yL_with cL_with 2 (some .int), Cond.methodLink RL 8 yL_size, Cond.static yL_size, Cond.code yL_size cL_size 1 (some .int), Cond.methodLink RL 54 yL_isClosed, Cond.static yL_isClosed, Cond.code yL_isClosed cL_isClosed 1 (some .boolean), Cond.methodLink RL 24 yL_rights, Cond.static yL_rights, Cond.code yL_rights cL_rights 3 (some .int), Cond.methodLink RL 14 yL_bit, Cond.static yL_bit, Cond.code yL_bit cL_bit 2 (some .int), Cond.methodLink RL 44 yL_table, Cond.static yL_table]
def wsL_drawn_r2 : List Cond := [Cond.code yL_table cL_table 4 none, Cond.methodLink RL 99 yL_crossings, Cond.static yL_crossings, Cond.code yL_crossings cL_crossings 6 (some .int), Cond.methodLink RL 18 yL_round, Cond.static yL_round, Cond.code yL_round cL_round 3 (some .int), Cond.methodLink RL 160 yX4_drawn, Cond.instanceMethod yX4_drawn, Cond.selects RX4 yX4_drawn yX4_drawn, Cond.initialized RX4, Cond.code yX4_drawn cX4_drawn 4 (some .int), Cond.constant RX4 36 (-2000000102), Cond.fieldLink RX4 32 "RiverWords" "draw" "LRiverWords$Draw;", Cond.fieldLink RX4 201 "RiverWords$Draw" "closed" "I", Cond.fieldLink RX4 204 "RiverWords$Draw" "traces" "I", Cond.fieldLink RX4 207 "RiverWords$Draw" "crossings" "I", Cond.fieldLink RX4 209 "RiverWords$Draw" "s" "J", Cond.methodLink RX4 198 yX0_run, Cond.instanceMethod yX0_run, Cond.selects RX0 yX0_run yX0_run, Cond.initialized RX0, Cond.code yX0_run cX0_run 4 none, Cond.fieldLink RX0 21 "RiverWords$Draw" "s" "J"]
def wsL_drawn_r3 : List Cond := [Cond.fieldLink RX0 25 "RiverWords$Draw" "closed" "I", Cond.fieldLink RX0 29 "RiverWords$Draw" "traces" "I", Cond.fieldLink RX0 32 "RiverWords$Draw" "crossings" "I", Cond.fieldLink RX0 18 "RiverWords$Draw" "now" "LRiverWords$Word;", Cond.fieldLink RX0 14 "RiverWords$Draw" "before" "LRiverWords$Word;", Cond.fieldLink RX0 38 "RiverWords$Word" "bits" "I", Cond.methodLink RX0 35 yX3_become, Cond.instanceMethod yX3_become, Cond.selects RX3 yX3_become yX3_become, Cond.initialized RX3, Cond.code yX3_become cX3_become 4 none, Cond.fieldLink RX3 15 "RiverWords$Word" "bits" "I", Cond.fieldLink RX3 19 "RiverWords$Word" "size" "I", Cond.fieldLink RX3 22 "RiverWords$Word" "allBits" "I", Cond.fieldLink RX3 25 "RiverWords$Word" "a" "I", Cond.fieldLink RX3 28 "RiverWords$Word" "b" "I", Cond.fieldLink RX3 31 "RiverWords$Word" "c" "I", Cond.fieldLink RX3 34 "RiverWords$Word" "d" "I", Cond.methodLink RX3 37 yX3_bitAt, Cond.instanceMethod yX3_bitAt, Cond.selects RX3 yX3_bitAt yX3_bitAt, Cond.code yX3_bitAt cX3_bitAt 2 (some .int), Cond.methodLink RX0 41 yX0_nextBits, Cond.instanceMethod yX0_nextBits]
def wsL_drawn_r4 : List Cond := [Cond.selects RX0 yX0_nextBits yX0_nextBits, Cond.code yX0_nextBits cX0_nextBits 3 (some .int), Cond.constantLong RX0 48 (1103515245), Cond.constantLong RX0 50 (12345), Cond.constantLong RX0 52 (2147483648), Cond.constantLong RX0 54 (65536), Cond.constantLong RX0 56 (2), Cond.methodLink RX0 45 yX0_tell, Cond.instanceMethod yX0_tell, Cond.selects RX0 yX0_tell yX0_tell, Cond.code yX0_tell cX0_tell 1 none, Cond.methodLink RX0 58 yX3_isClosed, Cond.instanceMethod yX3_isClosed, Cond.selects RX3 yX3_isClosed yX3_isClosed, Cond.code yX3_isClosed cX3_isClosed 1 (some .boolean), Cond.methodLink RX0 62 yX3_traceSum, Cond.instanceMethod yX3_traceSum, Cond.selects RX3 yX3_traceSum yX3_traceSum, Cond.code yX3_traceSum cX3_traceSum 1 (some .int), Cond.methodLink RX0 65 yX3_crossings, Cond.instanceMethod yX3_crossings, Cond.selects RX3 yX3_crossings yX3_crossings, Cond.code yX3_crossings cX3_crossings 5 (some .int), Cond.methodLink RX3 66 yX3_crosses]
def wsL_drawn_r5 : List Cond := [Cond.instanceMethod yX3_crosses, Cond.selects RX3 yX3_crosses yX3_crosses, Cond.code yX3_crosses cX3_crosses 7 (some .boolean)]
def wsL_drawn : List Cond := .code yL_drawn cL_drawn 13 (some .boolean) :: ((wsL_drawn_r1 ++ (wsL_drawn_r2 ++ (wsL_drawn_r3 ++ (wsL_drawn_r4 ++ wsL_drawn_r5)))) ++ wsX40 ++ wsX00 ++ wsX30)
def wsL_law_r1 : List Cond := [Cond.classLink RL 40 RX4, Cond.instantiable RX4 6, Cond.initialized RX4, Cond.arrayClass .int, Cond.constant RL 180 (2147483647), Cond.constant RL 68 (-2000000102), Cond.methodLink RL 164 yX4_init, Cond.instanceMethod yX4_init, Cond.code yX4_init cX4_init 1 none, Cond.methodLink RX4 1 objectInit, Cond.instanceMethod objectInit, Cond.code objectInit ⟨#[0xb1]⟩ 1 none, Cond.classLink RX4 7 RX1, Cond.instantiable RX1 6, Cond.initialized RX1, Cond.fieldLink RX4 10 "RiverWords" "page" "LRiverWords$Page;", Cond.classLink RX4 16 RX3, Cond.fieldLink RX4 18 "RiverWords" "roads" "[LRiverWords$Word;", Cond.classLink RX4 22 RX2, Cond.instantiable RX2 5, Cond.initialized RX2, Cond.fieldLink RX4 25 "RiverWords" "river" "LRiverWords$River;", Cond.classLink RX4 29 RX0, Cond.instantiable RX0 6]
def wsL_law_r2 : List Cond := [Cond.initialized RX0, Cond.fieldLink RX4 32 "RiverWords" "draw" "LRiverWords$Draw;", Cond.instanceMethod yX1_init, Cond.code yX1_init cX1_init 1 none, Cond.methodLink RX1 3 objectInit, Cond.fieldLink RX1 9 "RiverWords$Page" "codes" "[I", Cond.instanceMethod yX2_init, Cond.code yX2_init cX2_init 1 none, Cond.methodLink RX2 3 objectInit, Cond.classLink RX2 11 "[[I", Cond.fieldLink RX2 13 "RiverWords$River" "forms" "[[I", Cond.fieldLink RX2 16 "RiverWords$River" "cycles" "[[I", Cond.instanceMethod yX0_init, Cond.code yX0_init cX0_init 1 none, Cond.methodLink RX0 1 objectInit, Cond.classLink RX0 7 RX3, Cond.instantiable RX3 7, Cond.initialized RX3, Cond.fieldLink RX0 14 "RiverWords$Draw" "before" "LRiverWords$Word;", Cond.fieldLink RX0 18 "RiverWords$Draw" "now" "LRiverWords$Word;", Cond.methodLink RX0 11 yX3_init, Cond.instanceMethod yX3_init, Cond.code yX3_init cX3_init 3 none, Cond.methodLink RX3 3 objectInit]
def wsL_law_r3 : List Cond := [Cond.methodLink RX3 9 yX3_become, Cond.instanceMethod yX3_become, Cond.selects RX3 yX3_become yX3_become, Cond.code yX3_become cX3_become 4 none, Cond.fieldLink RX3 15 "RiverWords$Word" "bits" "I", Cond.fieldLink RX3 19 "RiverWords$Word" "size" "I", Cond.fieldLink RX3 22 "RiverWords$Word" "allBits" "I", Cond.fieldLink RX3 25 "RiverWords$Word" "a" "I", Cond.fieldLink RX3 28 "RiverWords$Word" "b" "I", Cond.fieldLink RX3 31 "RiverWords$Word" "c" "I", Cond.fieldLink RX3 34 "RiverWords$Word" "d" "I", Cond.methodLink RX3 37 yX3_bitAt, Cond.instanceMethod yX3_bitAt, Cond.selects RX3 yX3_bitAt yX3_bitAt, Cond.code yX3_bitAt cX3_bitAt 2 (some .int), Cond.methodLink RL 165 yL_cell, Cond.static yL_cell, Cond.initialized RL, Cond.code yL_cell cL_cell 2 (some .int), Cond.constant RL 7 (264347078), Cond.methodLink RL 169 yL_does, Cond.static yL_does, Cond.code yL_does cL_does 14 (some .boolean), Cond.constant RL 105 (-2000000104)]
def wsL_law_r4 : List Cond := [Cond.constant RL 84 (-2000000101), Cond.methodLink RL 36 yL_at, Cond.static yL_at, Cond.code yL_at cL_at 2 (some .int), Cond.methodLink RL 106 yL_wordBy, Cond.static yL_wordBy, Cond.code yL_wordBy cL_wordBy 5 (some .int), Cond.methodLink RL 14 yL_bit, Cond.static yL_bit, Cond.code yL_bit cL_bit 2 (some .int), Cond.methodLink RL 21 yL_with, Cond.static yL_with, Cond.code yL_with cL_with 2 (some .int), Cond.methodLink RL 8 yL_size, Cond.static yL_size, Cond.code yL_size cL_size 1 (some .int), Cond.methodLink RL 109 yL_write, Cond.static yL_write, Cond.code yL_write cL_write 6 (some .int), Cond.methodLink RL 113 yL_spell, Cond.static yL_spell, Cond.code yL_spell cL_spell 4 (some .boolean), Cond.methodLink RL 39 yX4_letter, Cond.instanceMethod yX4_letter]
def wsL_law_r5 : List Cond := [Cond.selects RX4 yX4_letter yX4_letter, Cond.code yX4_letter cX4_letter 2 (some .int), Cond.constant RX4 36 (-2000000102), Cond.fieldLink RX4 37 "RiverWords$Page" "size" "I", Cond.constant RX4 41 (-2000000104), Cond.methodLink RX4 42 yX1_append, Cond.instanceMethod yX1_append, Cond.selects RX1 yX1_append yX1_append, Cond.code yX1_append cX1_append 2 none, Cond.fieldLink RX1 15 "RiverWords$Page" "size" "I", Cond.fieldLink RX1 19 "RiverWords$Page" "good" "I", Cond.methodLink RX1 32 yX1_continues, Cond.instanceMethod yX1_continues, Cond.selects RX1 yX1_continues yX1_continues, Cond.code yX1_continues cX1_continues 7 (some .boolean), Cond.fieldLink RX1 28 "RiverWords$Page" "afterLetter" "Z", Cond.fieldLink RX1 25 "RiverWords$Page" "letters" "I", Cond.fieldLink RX1 22 "RiverWords$Page" "bits" "I", Cond.methodLink RL 117 yX4_fault, Cond.instanceMethod yX4_fault, Cond.selects RX4 yX4_fault yX4_fault, Cond.code yX4_fault cX4_fault 1 (some .int), Cond.fieldLink RX4 49 "RiverWords$Page" "good" "I", Cond.methodLink RL 121 yX4_word]
def wsL_law_r6 : List Cond := [Cond.instanceMethod yX4_word, Cond.selects RX4 yX4_word yX4_word, Cond.code yX4_word cX4_word 2 (some .int), Cond.constant RX4 56 (-2000000103), Cond.fieldLink RX4 57 "RiverWords$Page" "bits" "I", Cond.fieldLink RX4 60 "RiverWords$Page" "letters" "I", Cond.fieldLink RX4 67 "RiverWords" "readings" "I", Cond.methodLink RX4 52 yX1_isWord, Cond.instanceMethod yX1_isWord, Cond.selects RX1 yX1_isWord yX1_isWord, Cond.code yX1_isWord cX1_isWord 1 (some .boolean), Cond.methodLink RX4 63 yX4_addRoad, Cond.instanceMethod yX4_addRoad, Cond.selects RX4 yX4_addRoad yX4_addRoad, Cond.code yX4_addRoad cX4_addRoad 4 (some .int), Cond.fieldLink RX4 148 "RiverWords" "roadCount" "I", Cond.methodLink RX4 282 yX3_init, Cond.methodLink RX4 46 yX1_clear, Cond.instanceMethod yX1_clear, Cond.selects RX1 yX1_clear yX1_clear, Cond.code yX1_clear cX1_clear 1 none, Cond.methodLink RL 93 yX4_count, Cond.instanceMethod yX4_count, Cond.selects RX4 yX4_count yX4_count]
def wsL_law_r7 : List Cond := [Cond.code yX4_count cX4_count 2 (some .int), Cond.fieldLink RX4 156 "RiverWords$River" "size" "I", Cond.fieldLink RX4 219 "RiverWords$River" "cycleCount" "I", Cond.methodLink RX4 213 yX4_closedRoads, Cond.instanceMethod yX4_closedRoads, Cond.selects RX4 yX4_closedRoads yX4_closedRoads, Cond.code yX4_closedRoads cX4_closedRoads 3 (some .int), Cond.methodLink RX4 262 yX4_isClosedRoad, Cond.instanceMethod yX4_isClosedRoad, Cond.selects RX4 yX4_isClosedRoad yX4_isClosedRoad, Cond.code yX4_isClosedRoad cX4_isClosedRoad 3 (some .boolean), Cond.methodLink RX4 70 yX4_roadAt, Cond.instanceMethod yX4_roadAt, Cond.selects RX4 yX4_roadAt yX4_roadAt, Cond.code yX4_roadAt cX4_roadAt 2 (some (.object "RiverWords$Word")), Cond.methodLink RX4 93 yX3_isClosed, Cond.instanceMethod yX3_isClosed, Cond.selects RX3 yX3_isClosed yX3_isClosed, Cond.code yX3_isClosed cX3_isClosed 1 (some .boolean), Cond.methodLink RX4 216 yX4_roadClasses, Cond.instanceMethod yX4_roadClasses, Cond.selects RX4 yX4_roadClasses yX4_roadClasses, Cond.code yX4_roadClasses cX4_roadClasses 3 (some .int), Cond.methodLink RX4 284 yX4_isFirstOfClass]
def wsL_law_r8 : List Cond := [Cond.instanceMethod yX4_isFirstOfClass, Cond.selects RX4 yX4_isFirstOfClass yX4_isFirstOfClass, Cond.code yX4_isFirstOfClass cX4_isFirstOfClass 3 (some .boolean), Cond.methodLink RX4 287 yX4_alike, Cond.instanceMethod yX4_alike, Cond.selects RX4 yX4_alike yX4_alike, Cond.code yX4_alike cX4_alike 5 (some .int), Cond.constant RX4 74 (-2000000101), Cond.fieldLink RX4 75 "RiverWords$Word" "size" "I", Cond.fieldLink RX4 76 "RiverWords$Word" "bits" "I", Cond.constant RX4 130 (-2000000001), Cond.methodLink RX4 127 yX3_turnTo, Cond.instanceMethod yX3_turnTo, Cond.selects RX3 yX3_turnTo yX3_turnTo, Cond.code yX3_turnTo cX3_turnTo 4 (some .int), Cond.constant RX3 54 (-2000000001), Cond.methodLink RX3 51 yX3_rotation, Cond.instanceMethod yX3_rotation, Cond.selects RX3 yX3_rotation yX3_rotation, Cond.code yX3_rotation cX3_rotation 2 (some .int), Cond.methodLink RL 124 yX4_blank, Cond.instanceMethod yX4_blank, Cond.selects RX4 yX4_blank yX4_blank, Cond.code yX4_blank cX4_blank 2 (some .int)]
def wsL_law_r9 : List Cond := [Cond.methodLink RL 127 yX4_turn, Cond.instanceMethod yX4_turn, Cond.selects RX4 yX4_turn yX4_turn, Cond.code yX4_turn cX4_turn 4 (some .int), Cond.methodLink RX4 135 yX3_rotation, Cond.methodLink RX4 138 yX3_become, Cond.methodLink RX4 83 yX3_period, Cond.instanceMethod yX3_period, Cond.selects RX3 yX3_period yX3_period, Cond.code yX3_period cX3_period 2 (some .int), Cond.methodLink RX3 55 yX3_turnTo, Cond.methodLink RL 27 yL_turned, Cond.static yL_turned, Cond.code yL_turned cL_turned 4 (some .int), Cond.methodLink RL 18 yL_round, Cond.static yL_round, Cond.code yL_round cL_round 3 (some .int), Cond.methodLink RL 51 yL_period, Cond.static yL_period, Cond.code yL_period cL_period 2 (some .int), Cond.methodLink RL 58 yL_back, Cond.static yL_back, Cond.code yL_back cL_back 3 (some .int), Cond.methodLink RL 65 yL_mirror]
def wsL_law_r10 : List Cond := [Cond.static yL_mirror, Cond.code yL_mirror cL_mirror 3 (some .int), Cond.methodLink RL 33 yL_least, Cond.static yL_least, Cond.code yL_least cL_least 3 (some .int), Cond.methodLink RL 30 yL_rank, Cond.static yL_rank, Cond.code yL_rank cL_rank 3 (some .int), Cond.methodLink RL 44 yL_table, Cond.static yL_table, Cond.code yL_table cL_table 4 none, Cond.methodLink RL 130 yX4_change, Cond.instanceMethod yX4_change, Cond.selects RX4 yX4_change yX4_change, Cond.code yX4_change cX4_change 4 (some .int), Cond.methodLink RX4 142 yX3_changed, Cond.instanceMethod yX3_changed, Cond.selects RX3 yX3_changed yX3_changed, Cond.code yX3_changed cX3_changed 2 (some .int), Cond.methodLink RX3 41 yX3_reversal, Cond.instanceMethod yX3_reversal, Cond.selects RX3 yX3_reversal yX3_reversal, Cond.code yX3_reversal cX3_reversal 3 (some .int), Cond.methodLink RX3 45 yX3_complement]
def wsL_law_r11 : List Cond := [Cond.instanceMethod yX3_complement, Cond.selects RX3 yX3_complement yX3_complement, Cond.code yX3_complement cX3_complement 2 (some .int), Cond.methodLink RX3 48 yX3_leastTurn, Cond.instanceMethod yX3_leastTurn, Cond.selects RX3 yX3_leastTurn yX3_leastTurn, Cond.code yX3_leastTurn cX3_leastTurn 3 (some .int), Cond.methodLink RX4 90 yX3_traceSum, Cond.instanceMethod yX3_traceSum, Cond.selects RX3 yX3_traceSum yX3_traceSum, Cond.code yX3_traceSum cX3_traceSum 1 (some .int), Cond.methodLink RL 102 yL_join, Cond.static yL_join, Cond.code yL_join cL_join 4 (some .int), Cond.methodLink RL 133 yL_comes, Cond.static yL_comes, Cond.code yL_comes cL_comes 4 (some .int), Cond.constant RL 83 (-2000000103), Cond.methodLink RL 137 yX4_join, Cond.instanceMethod yX4_join, Cond.selects RX4 yX4_join yX4_join, Cond.code yX4_join cX4_join 5 (some .int), Cond.methodLink RL 138 yX4_times, Cond.instanceMethod yX4_times]
def wsL_law_r12 : List Cond := [Cond.selects RX4 yX4_times yX4_times, Cond.code yX4_times cX4_times 6 (some .int), Cond.methodLink RL 141 yX4_cut, Cond.instanceMethod yX4_cut, Cond.selects RX4 yX4_cut yX4_cut, Cond.code yX4_cut cX4_cut 7 (some .int), Cond.methodLink RX4 145 yX4_commonDivisor, Cond.static yX4_commonDivisor, Cond.code yX4_commonDivisor cX4_commonDivisor 6 (some .int), Cond.methodLink RX4 290 Lib.Math.abs.name, Cond.static Lib.Math.abs.name, Cond.initialized "java/lang/Math", Cond.code Lib.Math.abs.name Lib.Math.abs.code 1 (some .int), Cond.methodLink RX4 295 Lib.Math.max.name, Cond.static Lib.Math.max.name, Cond.code Lib.Math.max.name Lib.Math.max.code 2 (some .int), Cond.methodLink RL 77 yL_gcd, Cond.static yL_gcd, Cond.code yL_gcd cL_gcd 5 (some .int), Cond.methodLink RL 144 yL_cutTo, Cond.static yL_cutTo, Cond.code yL_cutTo cL_cutTo 5 (some .int), Cond.methodLink RL 74 yX4_end, Cond.instanceMethod yX4_end]
def wsL_law_r13 : List Cond := [Cond.selects RX4 yX4_end yX4_end, Cond.code yX4_end cX4_end 4 (some .int), Cond.fieldLink RX4 112 "RiverWords$Word" "a" "I", Cond.fieldLink RX4 115 "RiverWords$Word" "b" "I", Cond.fieldLink RX4 118 "RiverWords$Word" "c" "I", Cond.fieldLink RX4 121 "RiverWords$Word" "d" "I", Cond.methodLink RL 147 yX4_drop, Cond.instanceMethod yX4_drop, Cond.selects RX4 yX4_drop yX4_drop, Cond.code yX4_drop cX4_drop 1 (some .int), Cond.methodLink RL 91 yX4_alike, Cond.methodLink RL 61 yL_alike, Cond.static yL_alike, Cond.code yL_alike cL_alike 2 (some .boolean), Cond.methodLink RL 173 yL_stands, Cond.static yL_stands, Cond.code yL_stands cL_stands 11 (some .boolean), Cond.constant RL 90 (-2000000001), Cond.methodLink RL 87 yL_road, Cond.static yL_road, Cond.code yL_road cL_road 12 (some .boolean), Cond.constantLong RL 85 (4), Cond.methodLink RL 48 yX4_road, Cond.instanceMethod yX4_road]
def wsL_law_r14 : List Cond := [Cond.selects RX4 yX4_road yX4_road, Cond.code yX4_road cX4_road 4 (some .int), Cond.methodLink RX4 77 yJ6_bitCount_0f7a4, Cond.static yJ6_bitCount_0f7a4, Cond.initialized RJ6, Cond.code yJ6_bitCount_0f7a4 cJ6_bitCount_0f7a4 1 (some .int), Cond.constant RJ6 265 (1431655765), Cond.constant RJ6 266 (858993459), Cond.constant RJ6 267 (252645135), Cond.methodLink RX4 87 yX3_leastTurn, Cond.methodLink RX4 96 yX3_reversal, Cond.methodLink RX4 99 yX3_isConjugate, Cond.instanceMethod yX3_isConjugate, Cond.selects RX3 yX3_isConjugate yX3_isConjugate, Cond.code yX3_isConjugate cX3_isConjugate 2 (some .boolean), Cond.methodLink RX4 103 yX3_complement, Cond.methodLink RL 24 yL_rights, Cond.static yL_rights, Cond.code yL_rights cL_rights 3 (some .int), Cond.methodLink RL 54 yL_isClosed, Cond.static yL_isClosed, Cond.code yL_isClosed cL_isClosed 1 (some .boolean), Cond.methodLink RL 69 yX4_sign, Cond.instanceMethod yX4_sign]
def wsL_law_r15 : List Cond := [Cond.selects RX4 yX4_sign yX4_sign, Cond.code yX4_sign cX4_sign 4 (some .int), Cond.methodLink RX4 106 yX3_bitAt, Cond.methodLink RX4 109 yX4_code, Cond.static yX4_code, Cond.code yX4_code cX4_code 1 (some .int), Cond.methodLink RL 72 yX4_table, Cond.instanceMethod yX4_table, Cond.selects RX4 yX4_table yX4_table, Cond.code yX4_table cX4_table 4 (some .int), Cond.methodLink RL 80 yX4_form, Cond.instanceMethod yX4_form, Cond.selects RX4 yX4_form yX4_form, Cond.code yX4_form cX4_form 4 (some .int), Cond.methodLink RX4 124 yX3_formNumber, Cond.instanceMethod yX3_formNumber, Cond.selects RX3 yX3_formNumber yX3_formNumber, Cond.code yX3_formNumber cX3_formNumber 6 (some .int), Cond.static yX4_discriminantOf, Cond.code yX4_discriminantOf cX4_discriminantOf 3 (some .int), Cond.methodLink RL 96 yX4_cross, Cond.instanceMethod yX4_cross, Cond.selects RX4 yX4_cross yX4_cross, Cond.code yX4_cross cX4_cross 5 (some .int)]
def wsL_law_r16 : List Cond := [Cond.methodLink RX4 131 yX3_crossings, Cond.instanceMethod yX3_crossings, Cond.selects RX3 yX3_crossings yX3_crossings, Cond.code yX3_crossings cX3_crossings 5 (some .int), Cond.methodLink RX3 66 yX3_crosses, Cond.instanceMethod yX3_crosses, Cond.selects RX3 yX3_crosses yX3_crosses, Cond.code yX3_crosses cX3_crosses 7 (some .boolean), Cond.methodLink RL 177 yL_crosses, Cond.static yL_crosses, Cond.code yL_crosses cL_crosses 7 (some .boolean), Cond.methodLink RL 99 yL_crossings, Cond.static yL_crossings, Cond.code yL_crossings cL_crossings 6 (some .int), Cond.methodLink RL 181 yL_drawn, Cond.static yL_drawn, Cond.code yL_drawn cL_drawn 13 (some .boolean), Cond.constantLong RL 150 (1103515245), Cond.constantLong RL 152 (12345), Cond.constantLong RL 154 (2147483648), Cond.constantLong RL 156 (65536), Cond.constantLong RL 158 (2), Cond.methodLink RL 160 yX4_drawn, Cond.instanceMethod yX4_drawn]
def wsL_law_r17 : List Cond := [Cond.selects RX4 yX4_drawn yX4_drawn, Cond.code yX4_drawn cX4_drawn 4 (some .int), Cond.fieldLink RX4 201 "RiverWords$Draw" "closed" "I", Cond.fieldLink RX4 204 "RiverWords$Draw" "traces" "I", Cond.fieldLink RX4 207 "RiverWords$Draw" "crossings" "I", Cond.fieldLink RX4 209 "RiverWords$Draw" "s" "J", Cond.methodLink RX4 198 yX0_run, Cond.instanceMethod yX0_run, Cond.selects RX0 yX0_run yX0_run, Cond.code yX0_run cX0_run 4 none, Cond.fieldLink RX0 21 "RiverWords$Draw" "s" "J", Cond.fieldLink RX0 25 "RiverWords$Draw" "closed" "I", Cond.fieldLink RX0 29 "RiverWords$Draw" "traces" "I", Cond.fieldLink RX0 32 "RiverWords$Draw" "crossings" "I", Cond.fieldLink RX0 38 "RiverWords$Word" "bits" "I", Cond.methodLink RX0 35 yX3_become, Cond.methodLink RX0 41 yX0_nextBits, Cond.instanceMethod yX0_nextBits, Cond.selects RX0 yX0_nextBits yX0_nextBits, Cond.code yX0_nextBits cX0_nextBits 3 (some .int), Cond.constantLong RX0 48 (1103515245), Cond.constantLong RX0 50 (12345), Cond.constantLong RX0 52 (2147483648), Cond.constantLong RX0 54 (65536)]
def wsL_law_r18 : List Cond := [Cond.constantLong RX0 56 (2), Cond.methodLink RX0 45 yX0_tell, Cond.instanceMethod yX0_tell, Cond.selects RX0 yX0_tell yX0_tell, Cond.code yX0_tell cX0_tell 1 none, Cond.methodLink RX0 58 yX3_isClosed, Cond.methodLink RX0 62 yX3_traceSum, Cond.methodLink RX0 65 yX3_crossings]
def wsL_law : List Cond := (wsL_law_r1 ++ (wsL_law_r2 ++ (wsL_law_r3 ++ (wsL_law_r4 ++ (wsL_law_r5 ++ (wsL_law_r6 ++ (wsL_law_r7 ++ (wsL_law_r8 ++ (wsL_law_r9 ++ (wsL_law_r10 ++ (wsL_law_r11 ++ (wsL_law_r12 ++ (wsL_law_r13 ++ (wsL_law_r14 ++ (wsL_law_r15 ++ (wsL_law_r16 ++ (wsL_law_r17 ++ wsL_law_r18))))))))))))))))) ++ wsX40 ++ wsX10 ++ wsX20 ++ wsX00 ++ wsX30 ++ ([] : List Cond)
end
section
-- words that are alike, their bytes compared place by place
def qb_q (a b : ByteArray) : Bool := decide (a.data.toList = b.data.toList)
theorem qb_eq {a b : ByteArray} (h : qb_q a b = true) : a = b := by
  have h1 := of_decide_eq_true h
  cases a with
  | mk x =>
    cases b with
    | mk y =>
      congr 1
      exact Array.toList_inj.mp h1
def qb_c (a b : Cond) : Bool := match a with
  | .code y z n r => (match b with
    | .code y2 z2 n2 r2 => decide (y = y2) && (qb_q z z2 && (decide (n = n2) && decide (r = r2)))
    | _ => false)
  | _ => decide (a = b)
theorem qb_ceq {a b : Cond} (h : qb_c a b = true) : a = b := by
  cases a with
  | code y z n r =>
    cases b with
    | code y2 z2 n2 r2 =>
      have h0 : (decide (y = y2) && (qb_q z z2 && (decide (n = n2) && decide (r = r2)))) = true := h
      obtain ⟨h1, h0⟩ := Bool.and_eq_true_iff.mp h0
      obtain ⟨h2, h0⟩ := Bool.and_eq_true_iff.mp h0
      obtain ⟨h3, h4⟩ := Bool.and_eq_true_iff.mp h0
      rw [of_decide_eq_true h1, qb_eq h2, of_decide_eq_true h3, of_decide_eq_true h4]
    | _ => exact absurd h (by intro q; cases q)
  | _ => exact of_decide_eq_true h
def qb_l : List Cond → List Cond → Bool
  | [], [] => true
  | a :: as, b :: bs => qb_c a b && qb_l as bs
  | _, _ => false
theorem qb_leq : ∀ {a b : List Cond}, qb_l a b = true → a = b
  | [], [], _ => rfl
  | x :: a, y :: b, h => by
    obtain ⟨h1, h2⟩ := Bool.and_eq_true_iff.mp (show (qb_c x y && qb_l a b) = true from h)
    rw [qb_ceq h1, qb_leq h2]
  | [], _ :: _, h => by cases h
  | _ :: _, [], h => by cases h
theorem goodIn_rq {big : List Cond} (ws : List Cond) (ps : List Nat) (hp : qb_l ws (ps.filterMap (fun i => big[i]?)) = true) (h : ws.all goodWord = true) : GoodIn big ws := goodIn_r ws ps (qb_leq hp) h
theorem goodIn_pq {big : List Cond} (ws : List Cond) (ps : List Nat) (hp : qb_l (ws.filter k2_isCode) (ps.filterMap (fun i => big[i]?)) = true) (h : (ws.filter (fun w => !k2_isCode w)).all (fun w => decide (w ∈ big) && goodWord w) = true) : GoodIn big ws := goodIn_p ws ps (qb_leq hp) h
end
section
set_option maxRecDepth 20000 in
theorem wL_r1 : ∀ w ∈ wsL_law_r1, w ∈ lw_tbl := fun w h => (goodIn_pq wsL_law_r1 [22, 25] (by decide +kernel) (by decide +kernel) w h).1
set_option maxRecDepth 20000 in
theorem wL_r2 : ∀ w ∈ wsL_law_r2, w ∈ lw_tbl := fun w h => (goodIn_pq wsL_law_r2 [30, 62, 85, 91] (by decide +kernel) (by decide +kernel) w h).1
set_option maxRecDepth 20000 in
theorem wL_r3 : ∀ w ∈ wsL_law_r3, w ∈ lw_tbl := fun w h => (goodIn_pq wsL_law_r3 [96, 100, 218, 375] (by decide +kernel) (by decide +kernel) w h).1
set_option maxRecDepth 20000 in
theorem wL_r4 : ∀ w ∈ wsL_law_r4, w ∈ lw_tbl := fun w h => (goodIn_pq wsL_law_r4 [222, 378, 240, 243, 231, 381, 384] (by decide +kernel) (by decide +kernel) w h).1
set_option maxRecDepth 20000 in
theorem wL_r5 : ∀ w ∈ wsL_law_r5, w ∈ lw_tbl := fun w h => (goodIn_pq wsL_law_r5 [388, 393, 397, 401] (by decide +kernel) (by decide +kernel) w h).1
set_option maxRecDepth 20000 in
theorem wL_r6 : ∀ w ∈ wsL_law_r6, w ∈ lw_tbl := fun w h => (goodIn_pq wsL_law_r6 [405, 409, 413, 418] (by decide +kernel) (by decide +kernel) w h).1
set_option maxRecDepth 20000 in
theorem wL_r7 : ∀ w ∈ wsL_law_r7, w ∈ lw_tbl := fun w h => (goodIn_pq wsL_law_r7 [175, 179, 183, 187, 191, 195] (by decide +kernel) (by decide +kernel) w h).1
set_option maxRecDepth 20000 in
theorem wL_r8 : ∀ w ∈ wsL_law_r8, w ∈ lw_tbl := fun w h => (goodIn_pq wsL_law_r8 [199, 203, 208, 212, 423] (by decide +kernel) (by decide +kernel) w h).1
set_option maxRecDepth 20000 in
theorem wL_r9 : ∀ w ∈ wsL_law_r9, w ∈ lw_tbl := fun w h => (goodIn_pq wsL_law_r9 [427, 266, 234, 237, 293, 299] (by decide +kernel) (by decide +kernel) w h).1
set_option maxRecDepth 20000 in
theorem wL_r10 : ∀ w ∈ wsL_law_r10, w ∈ lw_tbl := fun w h => (goodIn_pq wsL_law_r10 [305, 246, 249, 252, 433, 437, 279] (by decide +kernel) (by decide +kernel) w h).1
set_option maxRecDepth 20000 in
theorem wL_r11 : ∀ w ∈ wsL_law_r11, w ∈ lw_tbl := fun w h => (goodIn_pq wsL_law_r11 [287, 271, 275, 372, 443, 447] (by decide +kernel) (by decide +kernel) w h).1
set_option maxRecDepth 20000 in
theorem wL_r12 : ∀ w ∈ wsL_law_r12, w ∈ lw_tbl := fun w h => (goodIn_pq wsL_law_r12 [451, 455, 336, 339, 342, 325, 459] (by decide +kernel) (by decide +kernel) w h).1
set_option maxRecDepth 20000 in
theorem wL_r13 : ∀ w ∈ wsL_law_r13, w ∈ lw_tbl := fun w h => (goodIn_pq wsL_law_r13 [322, 463, 302, 225, 228] (by decide +kernel) (by decide +kernel) w h).1
set_option maxRecDepth 20000 in
theorem wL_r14 : ∀ w ∈ wsL_law_r14, w ∈ lw_tbl := fun w h => (goodIn_pq wsL_law_r14 [256, 259, 283, 290, 296] (by decide +kernel) (by decide +kernel) w h).1
set_option maxRecDepth 20000 in
theorem wL_r15 : ∀ w ∈ wsL_law_r15, w ∈ lw_tbl := fun w h => (goodIn_pq wsL_law_r15 [310, 314, 318, 329, 333, 345, 355] (by decide +kernel) (by decide +kernel) w h).1
set_option maxRecDepth 20000 in
theorem wL_r16 : ∀ w ∈ wsL_law_r16, w ∈ lw_tbl := fun w h => (goodIn_pq wsL_law_r16 [359, 363, 366, 369, 466] (by decide +kernel) (by decide +kernel) w h).1
set_option maxRecDepth 20000 in
theorem wL_r17 : ∀ w ∈ wsL_law_r17, w ∈ lw_tbl := fun w h => (goodIn_pq wsL_law_r17 [475, 479, 484] (by decide +kernel) (by decide +kernel) w h).1
set_option maxRecDepth 20000 in
theorem wL_r18 : ∀ w ∈ wsL_law_r18, w ∈ lw_tbl := fun w h => (goodIn_pq wsL_law_r18 [493] (by decide +kernel) (by decide +kernel) w h).1
set_option maxRecDepth 20000 in
theorem wL_X4 : ∀ w ∈ wsX40, w ∈ lw_tbl := fun w h => (goodIn_pq wsX40 [] (by decide +kernel) (by decide +kernel) w h).1
set_option maxRecDepth 20000 in
theorem wL_X1 : ∀ w ∈ wsX10, w ∈ lw_tbl := fun w h => (goodIn_pq wsX10 [] (by decide +kernel) (by decide +kernel) w h).1
set_option maxRecDepth 20000 in
theorem wL_X2 : ∀ w ∈ wsX20, w ∈ lw_tbl := fun w h => (goodIn_pq wsX20 [] (by decide +kernel) (by decide +kernel) w h).1
set_option maxRecDepth 20000 in
theorem wL_X0 : ∀ w ∈ wsX00, w ∈ lw_tbl := fun w h => (goodIn_pq wsX00 [] (by decide +kernel) (by decide +kernel) w h).1
set_option maxRecDepth 20000 in
theorem wL_X3 : ∀ w ∈ wsX30, w ∈ lw_tbl := fun w h => (goodIn_pq wsX30 [] (by decide +kernel) (by decide +kernel) w h).1
theorem wsL_law_in : ∀ w ∈ wsL_law, w ∈ lw_tbl := fun w h => by
  unfold wsL_law at h
  rcases List.mem_append.mp h with h | h
  · rcases List.mem_append.mp h with h | h
    · rcases List.mem_append.mp h with h | h
      · rcases List.mem_append.mp h with h | h
        · rcases List.mem_append.mp h with h | h
          · rcases List.mem_append.mp h with h | h
            · exact (fun h => (List.mem_append.mp h).elim (wL_r1 w) (fun h => (List.mem_append.mp h).elim (wL_r2 w) (fun h => (List.mem_append.mp h).elim (wL_r3 w) (fun h => (List.mem_append.mp h).elim (wL_r4 w) (fun h => (List.mem_append.mp h).elim (wL_r5 w) (fun h => (List.mem_append.mp h).elim (wL_r6 w) (fun h => (List.mem_append.mp h).elim (wL_r7 w) (fun h => (List.mem_append.mp h).elim (wL_r8 w) (fun h => (List.mem_append.mp h).elim (wL_r9 w) (fun h => (List.mem_append.mp h).elim (wL_r10 w) (fun h => (List.mem_append.mp h).elim (wL_r11 w) (fun h => (List.mem_append.mp h).elim (wL_r12 w) (fun h => (List.mem_append.mp h).elim (wL_r13 w) (fun h => (List.mem_append.mp h).elim (wL_r14 w) (fun h => (List.mem_append.mp h).elim (wL_r15 w) (fun h => (List.mem_append.mp h).elim (wL_r16 w) (fun h => (List.mem_append.mp h).elim (wL_r17 w) (wL_r18 w)))))))))))))))))) h
            · exact wL_X4 w h
          · exact wL_X1 w h
        · exact wL_X2 w h
      · exact wL_X0 w h
    · exact wL_X3 w h
  · exact absurd h List.not_mem_nil
theorem inlX0 : ∀ w ∈ wsX00, w ∈ wsL_law := fun _ h => List.mem_append_left _ (List.mem_append_left _ (List.mem_append_right _ h))
theorem inX0 : ∀ w ∈ wsX00, w ∈ lw_tbl := fun w h => wsL_law_in w (inlX0 w h)
theorem inlX1 : ∀ w ∈ wsX10, w ∈ wsL_law := fun _ h => List.mem_append_left _ (List.mem_append_left _ (List.mem_append_left _ (List.mem_append_left _ (List.mem_append_right _ h))))
theorem inX1 : ∀ w ∈ wsX10, w ∈ lw_tbl := fun w h => wsL_law_in w (inlX1 w h)
theorem inlX2 : ∀ w ∈ wsX20, w ∈ wsL_law := fun _ h => List.mem_append_left _ (List.mem_append_left _ (List.mem_append_left _ (List.mem_append_right _ h)))
theorem inX2 : ∀ w ∈ wsX20, w ∈ lw_tbl := fun w h => wsL_law_in w (inlX2 w h)
theorem inlX3 : ∀ w ∈ wsX30, w ∈ wsL_law := fun _ h => List.mem_append_left _ (List.mem_append_right _ h)
theorem inX3 : ∀ w ∈ wsX30, w ∈ lw_tbl := fun w h => wsL_law_in w (inlX3 w h)
theorem inlX4 : ∀ w ∈ wsX40, w ∈ wsL_law := fun _ h => List.mem_append_left _ (List.mem_append_left _ (List.mem_append_left _ (List.mem_append_left _ (List.mem_append_left _ (List.mem_append_right _ h)))))
theorem inX4 : ∀ w ∈ wsX40, w ∈ lw_tbl := fun w h => wsL_law_in w (inlX4 w h)
theorem inX5 : ∀ w ∈ wsX50, w ∈ lw_tbl := by decide +kernel
theorem inJ6 : ∀ w ∈ wsJ60, w ∈ lw_tbl := by decide +kernel
theorem inJ9 : ∀ w ∈ wsJ90, w ∈ lw_tbl := by decide +kernel
set_option maxRecDepth 20000 in
theorem ggX0_init_X3_init : GoodIn wsX0_init wsX3_init := goodIn_rq _ [11, 12, 2, 3, 13, 14, 15, 6, 16, 17, 18, 19, 20, 21, 22, 23, 24, 25, 26, 27, 28, 29, 30, 31, 32, 33, 34] (by decide +kernel) (by decide +kernel)
set_option maxRecDepth 20000 in
theorem gX0_init_X3_init : GoodIn wsX0_init (wsX3_init) := ggX0_init_X3_init
theorem dX0_init_0 : decode cX0_init 0 = .ok (.aload_n 0, 1) := by decide +kernel
theorem dX0_init_1 : decode cX0_init 1 = .ok (.invokespecial 1, 3) := by decide +kernel
theorem dX0_init_4 : decode cX0_init 4 = .ok (.aload_n 0, 1) := by decide +kernel
theorem dX0_init_5 : decode cX0_init 5 = .ok (.new 7, 3) := by decide +kernel
theorem dX0_init_8 : decode cX0_init 8 = .ok (.dup, 1) := by decide +kernel
theorem dX0_init_9 : decode cX0_init 9 = .ok (.iconst 0, 1) := by decide +kernel
theorem dX0_init_10 : decode cX0_init 10 = .ok (.bipush 8, 2) := by decide +kernel
theorem dX0_init_12 : decode cX0_init 12 = .ok (.invokespecial 11, 3) := by decide +kernel
theorem dX0_init_15 : decode cX0_init 15 = .ok (.putfield 14, 3) := by decide +kernel
theorem dX0_init_18 : decode cX0_init 18 = .ok (.aload_n 0, 1) := by decide +kernel
theorem dX0_init_19 : decode cX0_init 19 = .ok (.new 7, 3) := by decide +kernel
theorem dX0_init_22 : decode cX0_init 22 = .ok (.dup, 1) := by decide +kernel
theorem dX0_init_23 : decode cX0_init 23 = .ok (.iconst 0, 1) := by decide +kernel
theorem dX0_init_24 : decode cX0_init 24 = .ok (.bipush 8, 2) := by decide +kernel
theorem dX0_init_26 : decode cX0_init 26 = .ok (.invokespecial 11, 3) := by decide +kernel
theorem dX0_init_29 : decode cX0_init 29 = .ok (.putfield 18, 3) := by decide +kernel
theorem dX0_init_32 : decode cX0_init 32 = .ok (.return_, 1) := by decide +kernel
set_option maxRecDepth 20000 in
theorem ggX0_run_X3_become : GoodIn wsX0_run wsX3_become := goodIn_rq _ [12, 13, 14, 15, 16, 17, 18, 19, 20, 21, 22, 11, 23, 60, 61, 62, 63, 64, 65, 66] (by decide +kernel) (by decide +kernel)
set_option maxRecDepth 20000 in
theorem gX0_run_X3_become : GoodIn wsX0_run (wsV RX0 35 RX3 yX3_become wsX3_become) := goodIn_app (goodIn_of _ (by decide +kernel)) ggX0_run_X3_become
set_option maxRecDepth 20000 in
theorem ggX0_run_X0_nextBits : GoodIn wsX0_run wsX0_nextBits := goodIn_rq _ [28, 29, 1, 30, 31, 32, 33, 54, 55, 56, 57, 58, 59] (by decide +kernel) (by decide +kernel)
set_option maxRecDepth 20000 in
theorem gX0_run_X0_nextBits : GoodIn wsX0_run (wsV RX0 41 RX0 yX0_nextBits wsX0_nextBits) := goodIn_app (goodIn_of _ (by decide +kernel)) ggX0_run_X0_nextBits
set_option maxRecDepth 20000 in
theorem ggX0_run_X0_tell : GoodIn wsX0_run wsX0_tell := goodIn_rq _ [37, 5, 2, 3, 6, 4, 38, 39, 40, 11, 41, 13, 15, 42, 43, 44, 45, 16, 19, 46, 47, 48, 49, 14, 20, 21, 22, 23, 50, 51, 52, 53, 54, 55, 56, 57, 58, 59, 60, 61, 62, 63, 64, 65, 66] (by decide +kernel) (by decide +kernel)
set_option maxRecDepth 20000 in
theorem gX0_run_X0_tell : GoodIn wsX0_run (wsV RX0 45 RX0 yX0_tell wsX0_tell) := goodIn_app (goodIn_of _ (by decide +kernel)) ggX0_run_X0_tell
theorem dX0_run_0 : decode cX0_run 0 = .ok (.aload_n 0, 1) := by decide +kernel
theorem dX0_run_1 : decode cX0_run 1 = .ok (.iload_n 2, 1) := by decide +kernel
theorem dX0_run_2 : decode cX0_run 2 = .ok (.i2l, 1) := by decide +kernel
theorem dX0_run_3 : decode cX0_run 3 = .ok (.putfield 21, 3) := by decide +kernel
theorem dX0_run_6 : decode cX0_run 6 = .ok (.aload_n 0, 1) := by decide +kernel
theorem dX0_run_7 : decode cX0_run 7 = .ok (.iconst 0, 1) := by decide +kernel
theorem dX0_run_8 : decode cX0_run 8 = .ok (.putfield 25, 3) := by decide +kernel
theorem dX0_run_11 : decode cX0_run 11 = .ok (.aload_n 0, 1) := by decide +kernel
theorem dX0_run_12 : decode cX0_run 12 = .ok (.iconst 0, 1) := by decide +kernel
theorem dX0_run_13 : decode cX0_run 13 = .ok (.putfield 29, 3) := by decide +kernel
theorem dX0_run_16 : decode cX0_run 16 = .ok (.aload_n 0, 1) := by decide +kernel
theorem dX0_run_17 : decode cX0_run 17 = .ok (.iconst 0, 1) := by decide +kernel
theorem dX0_run_18 : decode cX0_run 18 = .ok (.putfield 32, 3) := by decide +kernel
theorem dX0_run_21 : decode cX0_run 21 = .ok (.aload_n 0, 1) := by decide +kernel
theorem dX0_run_22 : decode cX0_run 22 = .ok (.getfield 18, 3) := by decide +kernel
theorem dX0_run_25 : decode cX0_run 25 = .ok (.iconst 0, 1) := by decide +kernel
theorem dX0_run_26 : decode cX0_run 26 = .ok (.bipush 8, 2) := by decide +kernel
theorem dX0_run_28 : decode cX0_run 28 = .ok (.invokevirtual 35, 3) := by decide +kernel
theorem dX0_run_31 : decode cX0_run 31 = .ok (.iconst 0, 1) := by decide +kernel
theorem dX0_run_32 : decode cX0_run 32 = .ok (.istore_n 3, 1) := by decide +kernel
theorem dX0_run_33 : decode cX0_run 33 = .ok (.iload_n 3, 1) := by decide +kernel
theorem dX0_run_34 : decode cX0_run 34 = .ok (.iload_n 1, 1) := by decide +kernel
theorem dX0_run_35 : decode cX0_run 35 = .ok (.if_icmp .ge 42, 3) := by decide +kernel
theorem dX0_run_38 : decode cX0_run 38 = .ok (.aload_n 0, 1) := by decide +kernel
theorem dX0_run_39 : decode cX0_run 39 = .ok (.getfield 14, 3) := by decide +kernel
theorem dX0_run_42 : decode cX0_run 42 = .ok (.aload_n 0, 1) := by decide +kernel
theorem dX0_run_43 : decode cX0_run 43 = .ok (.getfield 18, 3) := by decide +kernel
theorem dX0_run_46 : decode cX0_run 46 = .ok (.getfield 38, 3) := by decide +kernel
theorem dX0_run_49 : decode cX0_run 49 = .ok (.bipush 8, 2) := by decide +kernel
theorem dX0_run_51 : decode cX0_run 51 = .ok (.invokevirtual 35, 3) := by decide +kernel
theorem dX0_run_54 : decode cX0_run 54 = .ok (.aload_n 0, 1) := by decide +kernel
theorem dX0_run_55 : decode cX0_run 55 = .ok (.getfield 18, 3) := by decide +kernel
theorem dX0_run_58 : decode cX0_run 58 = .ok (.aload_n 0, 1) := by decide +kernel
theorem dX0_run_59 : decode cX0_run 59 = .ok (.invokevirtual 41, 3) := by decide +kernel
theorem dX0_run_62 : decode cX0_run 62 = .ok (.bipush 8, 2) := by decide +kernel
theorem dX0_run_64 : decode cX0_run 64 = .ok (.invokevirtual 35, 3) := by decide +kernel
theorem dX0_run_67 : decode cX0_run 67 = .ok (.aload_n 0, 1) := by decide +kernel
theorem dX0_run_68 : decode cX0_run 68 = .ok (.invokevirtual 45, 3) := by decide +kernel
theorem dX0_run_71 : decode cX0_run 71 = .ok (.iinc 3 1, 3) := by decide +kernel
theorem dX0_run_74 : decode cX0_run 74 = .ok (.goto (-41), 3) := by decide +kernel
theorem dX0_run_77 : decode cX0_run 77 = .ok (.return_, 1) := by decide +kernel
theorem dX0_nextBits_0 : decode cX0_nextBits 0 = .ok (.iconst 0, 1) := by decide +kernel
theorem dX0_nextBits_1 : decode cX0_nextBits 1 = .ok (.istore_n 1, 1) := by decide +kernel
theorem dX0_nextBits_2 : decode cX0_nextBits 2 = .ok (.iconst 0, 1) := by decide +kernel
theorem dX0_nextBits_3 : decode cX0_nextBits 3 = .ok (.istore_n 2, 1) := by decide +kernel
theorem dX0_nextBits_4 : decode cX0_nextBits 4 = .ok (.iload_n 2, 1) := by decide +kernel
theorem dX0_nextBits_5 : decode cX0_nextBits 5 = .ok (.bipush 8, 2) := by decide +kernel
theorem dX0_nextBits_7 : decode cX0_nextBits 7 = .ok (.if_icmp .ge 47, 3) := by decide +kernel
theorem dX0_nextBits_10 : decode cX0_nextBits 10 = .ok (.aload_n 0, 1) := by decide +kernel
theorem dX0_nextBits_11 : decode cX0_nextBits 11 = .ok (.ldc2_w 48, 3) := by decide +kernel
theorem dX0_nextBits_14 : decode cX0_nextBits 14 = .ok (.aload_n 0, 1) := by decide +kernel
theorem dX0_nextBits_15 : decode cX0_nextBits 15 = .ok (.getfield 21, 3) := by decide +kernel
theorem dX0_nextBits_18 : decode cX0_nextBits 18 = .ok (.lmul, 1) := by decide +kernel
theorem dX0_nextBits_19 : decode cX0_nextBits 19 = .ok (.ldc2_w 50, 3) := by decide +kernel
theorem dX0_nextBits_22 : decode cX0_nextBits 22 = .ok (.ladd, 1) := by decide +kernel
theorem dX0_nextBits_23 : decode cX0_nextBits 23 = .ok (.ldc2_w 52, 3) := by decide +kernel
theorem dX0_nextBits_26 : decode cX0_nextBits 26 = .ok (.lrem, 1) := by decide +kernel
theorem dX0_nextBits_27 : decode cX0_nextBits 27 = .ok (.putfield 21, 3) := by decide +kernel
theorem dX0_nextBits_30 : decode cX0_nextBits 30 = .ok (.iload_n 1, 1) := by decide +kernel
theorem dX0_nextBits_31 : decode cX0_nextBits 31 = .ok (.iconst 1, 1) := by decide +kernel
theorem dX0_nextBits_32 : decode cX0_nextBits 32 = .ok (.ishl, 1) := by decide +kernel
theorem dX0_nextBits_33 : decode cX0_nextBits 33 = .ok (.aload_n 0, 1) := by decide +kernel
theorem dX0_nextBits_34 : decode cX0_nextBits 34 = .ok (.getfield 21, 3) := by decide +kernel
theorem dX0_nextBits_37 : decode cX0_nextBits 37 = .ok (.ldc2_w 54, 3) := by decide +kernel
theorem dX0_nextBits_40 : decode cX0_nextBits 40 = .ok (.ldiv, 1) := by decide +kernel
theorem dX0_nextBits_41 : decode cX0_nextBits 41 = .ok (.ldc2_w 56, 3) := by decide +kernel
theorem dX0_nextBits_44 : decode cX0_nextBits 44 = .ok (.lrem, 1) := by decide +kernel
theorem dX0_nextBits_45 : decode cX0_nextBits 45 = .ok (.l2i, 1) := by decide +kernel
theorem dX0_nextBits_46 : decode cX0_nextBits 46 = .ok (.ior, 1) := by decide +kernel
theorem dX0_nextBits_47 : decode cX0_nextBits 47 = .ok (.istore_n 1, 1) := by decide +kernel
theorem dX0_nextBits_48 : decode cX0_nextBits 48 = .ok (.iinc 2 1, 3) := by decide +kernel
theorem dX0_nextBits_51 : decode cX0_nextBits 51 = .ok (.goto (-47), 3) := by decide +kernel
theorem dX0_nextBits_54 : decode cX0_nextBits 54 = .ok (.iload_n 1, 1) := by decide +kernel
theorem dX0_nextBits_55 : decode cX0_nextBits 55 = .ok (.ireturn, 1) := by decide +kernel
set_option maxRecDepth 20000 in
theorem ggX0_tell_X3_isClosed : GoodIn wsX0_tell wsX3_isClosed := goodIn_rq _ [10, 11, 12, 38, 39, 40, 41, 42, 43, 44] (by decide +kernel) (by decide +kernel)
set_option maxRecDepth 20000 in
theorem gX0_tell_X3_isClosed : GoodIn wsX0_tell (wsV RX0 58 RX3 yX3_isClosed wsX3_isClosed) := goodIn_app (goodIn_of _ (by decide +kernel)) ggX0_tell_X3_isClosed
set_option maxRecDepth 20000 in
theorem ggX0_tell_X3_traceSum : GoodIn wsX0_tell wsX3_traceSum := goodIn_rq _ [16, 17, 18, 38, 39, 40, 41, 42, 43, 44] (by decide +kernel) (by decide +kernel)
set_option maxRecDepth 20000 in
theorem gX0_tell_X3_traceSum : GoodIn wsX0_tell (wsV RX0 62 RX3 yX3_traceSum wsX3_traceSum) := goodIn_app (goodIn_of _ (by decide +kernel)) ggX0_tell_X3_traceSum
set_option maxRecDepth 20000 in
theorem ggX0_tell_X3_crossings : GoodIn wsX0_tell wsX3_crossings := goodIn_rq _ [22, 23, 24, 25, 26, 9, 27, 11, 28, 29, 30, 31, 38, 39, 40, 41, 42, 43, 44] (by decide +kernel) (by decide +kernel)
set_option maxRecDepth 20000 in
theorem gX0_tell_X3_crossings : GoodIn wsX0_tell (wsV RX0 65 RX3 yX3_crossings wsX3_crossings) := goodIn_app (goodIn_of _ (by decide +kernel)) ggX0_tell_X3_crossings
theorem dX0_tell_0 : decode cX0_tell 0 = .ok (.aload_n 0, 1) := by decide +kernel
theorem dX0_tell_1 : decode cX0_tell 1 = .ok (.getfield 18, 3) := by decide +kernel
theorem dX0_tell_4 : decode cX0_tell 4 = .ok (.invokevirtual 58, 3) := by decide +kernel
theorem dX0_tell_7 : decode cX0_tell 7 = .ok (.ifCond .ne 4, 3) := by decide +kernel
theorem dX0_tell_10 : decode cX0_tell 10 = .ok (.return_, 1) := by decide +kernel
theorem dX0_tell_11 : decode cX0_tell 11 = .ok (.aload_n 0, 1) := by decide +kernel
theorem dX0_tell_12 : decode cX0_tell 12 = .ok (.dup, 1) := by decide +kernel
theorem dX0_tell_13 : decode cX0_tell 13 = .ok (.getfield 25, 3) := by decide +kernel
theorem dX0_tell_16 : decode cX0_tell 16 = .ok (.iconst 1, 1) := by decide +kernel
theorem dX0_tell_17 : decode cX0_tell 17 = .ok (.iadd, 1) := by decide +kernel
theorem dX0_tell_18 : decode cX0_tell 18 = .ok (.putfield 25, 3) := by decide +kernel
theorem dX0_tell_21 : decode cX0_tell 21 = .ok (.aload_n 0, 1) := by decide +kernel
theorem dX0_tell_22 : decode cX0_tell 22 = .ok (.dup, 1) := by decide +kernel
theorem dX0_tell_23 : decode cX0_tell 23 = .ok (.getfield 29, 3) := by decide +kernel
theorem dX0_tell_26 : decode cX0_tell 26 = .ok (.aload_n 0, 1) := by decide +kernel
theorem dX0_tell_27 : decode cX0_tell 27 = .ok (.getfield 18, 3) := by decide +kernel
theorem dX0_tell_30 : decode cX0_tell 30 = .ok (.invokevirtual 62, 3) := by decide +kernel
theorem dX0_tell_33 : decode cX0_tell 33 = .ok (.iadd, 1) := by decide +kernel
theorem dX0_tell_34 : decode cX0_tell 34 = .ok (.putfield 29, 3) := by decide +kernel
theorem dX0_tell_37 : decode cX0_tell 37 = .ok (.aload_n 0, 1) := by decide +kernel
theorem dX0_tell_38 : decode cX0_tell 38 = .ok (.getfield 14, 3) := by decide +kernel
theorem dX0_tell_41 : decode cX0_tell 41 = .ok (.invokevirtual 58, 3) := by decide +kernel
theorem dX0_tell_44 : decode cX0_tell 44 = .ok (.ifCond .eq 23, 3) := by decide +kernel
theorem dX0_tell_47 : decode cX0_tell 47 = .ok (.aload_n 0, 1) := by decide +kernel
theorem dX0_tell_48 : decode cX0_tell 48 = .ok (.dup, 1) := by decide +kernel
theorem dX0_tell_49 : decode cX0_tell 49 = .ok (.getfield 32, 3) := by decide +kernel
theorem dX0_tell_52 : decode cX0_tell 52 = .ok (.aload_n 0, 1) := by decide +kernel
theorem dX0_tell_53 : decode cX0_tell 53 = .ok (.getfield 18, 3) := by decide +kernel
theorem dX0_tell_56 : decode cX0_tell 56 = .ok (.aload_n 0, 1) := by decide +kernel
theorem dX0_tell_57 : decode cX0_tell 57 = .ok (.getfield 14, 3) := by decide +kernel
theorem dX0_tell_60 : decode cX0_tell 60 = .ok (.invokevirtual 65, 3) := by decide +kernel
theorem dX0_tell_63 : decode cX0_tell 63 = .ok (.iadd, 1) := by decide +kernel
theorem dX0_tell_64 : decode cX0_tell 64 = .ok (.putfield 32, 3) := by decide +kernel
theorem dX0_tell_67 : decode cX0_tell 67 = .ok (.return_, 1) := by decide +kernel
theorem dX1_init_0 : decode cX1_init 0 = .ok (.aload_n 0, 1) := by decide +kernel
theorem dX1_init_1 : decode cX1_init 1 = .ok (.invokespecial 3, 3) := by decide +kernel
theorem dX1_init_4 : decode cX1_init 4 = .ok (.aload_n 0, 1) := by decide +kernel
theorem dX1_init_5 : decode cX1_init 5 = .ok (.bipush 20, 2) := by decide +kernel
theorem dX1_init_7 : decode cX1_init 7 = .ok (.newarray .int, 2) := by decide +kernel
theorem dX1_init_9 : decode cX1_init 9 = .ok (.putfield 9, 3) := by decide +kernel
theorem dX1_init_12 : decode cX1_init 12 = .ok (.return_, 1) := by decide +kernel
theorem dX1_clear_0 : decode cX1_clear 0 = .ok (.aload_n 0, 1) := by decide +kernel
theorem dX1_clear_1 : decode cX1_clear 1 = .ok (.iconst 0, 1) := by decide +kernel
theorem dX1_clear_2 : decode cX1_clear 2 = .ok (.putfield 15, 3) := by decide +kernel
theorem dX1_clear_5 : decode cX1_clear 5 = .ok (.aload_n 0, 1) := by decide +kernel
theorem dX1_clear_6 : decode cX1_clear 6 = .ok (.iconst 0, 1) := by decide +kernel
theorem dX1_clear_7 : decode cX1_clear 7 = .ok (.putfield 19, 3) := by decide +kernel
theorem dX1_clear_10 : decode cX1_clear 10 = .ok (.aload_n 0, 1) := by decide +kernel
theorem dX1_clear_11 : decode cX1_clear 11 = .ok (.iconst 0, 1) := by decide +kernel
theorem dX1_clear_12 : decode cX1_clear 12 = .ok (.putfield 22, 3) := by decide +kernel
theorem dX1_clear_15 : decode cX1_clear 15 = .ok (.aload_n 0, 1) := by decide +kernel
theorem dX1_clear_16 : decode cX1_clear 16 = .ok (.iconst 0, 1) := by decide +kernel
theorem dX1_clear_17 : decode cX1_clear 17 = .ok (.putfield 25, 3) := by decide +kernel
theorem dX1_clear_20 : decode cX1_clear 20 = .ok (.aload_n 0, 1) := by decide +kernel
theorem dX1_clear_21 : decode cX1_clear 21 = .ok (.iconst 0, 1) := by decide +kernel
theorem dX1_clear_22 : decode cX1_clear 22 = .ok (.putfield 28, 3) := by decide +kernel
theorem dX1_clear_25 : decode cX1_clear 25 = .ok (.return_, 1) := by decide +kernel
set_option maxRecDepth 20000 in
theorem ggX1_append_X1_continues : GoodIn wsX1_append wsX1_continues := goodIn_rq _ [8, 9, 10, 11, 12, 13, 14, 15, 16, 17] (by decide +kernel) (by decide +kernel)
set_option maxRecDepth 20000 in
theorem gX1_append_X1_continues : GoodIn wsX1_append (wsV RX1 32 RX1 yX1_continues wsX1_continues) := goodIn_app (goodIn_of _ (by decide +kernel)) ggX1_append_X1_continues
theorem dX1_append_0 : decode cX1_append 0 = .ok (.aload_n 0, 1) := by decide +kernel
theorem dX1_append_1 : decode cX1_append 1 = .ok (.getfield 15, 3) := by decide +kernel
theorem dX1_append_4 : decode cX1_append 4 = .ok (.ifCond .lt 15, 3) := by decide +kernel
theorem dX1_append_7 : decode cX1_append 7 = .ok (.aload_n 0, 1) := by decide +kernel
theorem dX1_append_8 : decode cX1_append 8 = .ok (.getfield 15, 3) := by decide +kernel
theorem dX1_append_11 : decode cX1_append 11 = .ok (.aload_n 0, 1) := by decide +kernel
theorem dX1_append_12 : decode cX1_append 12 = .ok (.getfield 9, 3) := by decide +kernel
theorem dX1_append_15 : decode cX1_append 15 = .ok (.arraylength, 1) := by decide +kernel
theorem dX1_append_16 : decode cX1_append 16 = .ok (.if_icmp .lt 4, 3) := by decide +kernel
theorem dX1_append_19 : decode cX1_append 19 = .ok (.return_, 1) := by decide +kernel
theorem dX1_append_20 : decode cX1_append 20 = .ok (.aload_n 0, 1) := by decide +kernel
theorem dX1_append_21 : decode cX1_append 21 = .ok (.getfield 19, 3) := by decide +kernel
theorem dX1_append_24 : decode cX1_append 24 = .ok (.aload_n 0, 1) := by decide +kernel
theorem dX1_append_25 : decode cX1_append 25 = .ok (.getfield 15, 3) := by decide +kernel
theorem dX1_append_28 : decode cX1_append 28 = .ok (.if_icmp .ne 21, 3) := by decide +kernel
theorem dX1_append_31 : decode cX1_append 31 = .ok (.aload_n 0, 1) := by decide +kernel
theorem dX1_append_32 : decode cX1_append 32 = .ok (.iload_n 1, 1) := by decide +kernel
theorem dX1_append_33 : decode cX1_append 33 = .ok (.invokevirtual 32, 3) := by decide +kernel
theorem dX1_append_36 : decode cX1_append 36 = .ok (.ifCond .eq 13, 3) := by decide +kernel
theorem dX1_append_39 : decode cX1_append 39 = .ok (.aload_n 0, 1) := by decide +kernel
theorem dX1_append_40 : decode cX1_append 40 = .ok (.dup, 1) := by decide +kernel
theorem dX1_append_41 : decode cX1_append 41 = .ok (.getfield 19, 3) := by decide +kernel
theorem dX1_append_44 : decode cX1_append 44 = .ok (.iconst 1, 1) := by decide +kernel
theorem dX1_append_45 : decode cX1_append 45 = .ok (.iadd, 1) := by decide +kernel
theorem dX1_append_46 : decode cX1_append 46 = .ok (.putfield 19, 3) := by decide +kernel
theorem dX1_append_49 : decode cX1_append 49 = .ok (.aload_n 0, 1) := by decide +kernel
theorem dX1_append_50 : decode cX1_append 50 = .ok (.getfield 9, 3) := by decide +kernel
theorem dX1_append_53 : decode cX1_append 53 = .ok (.aload_n 0, 1) := by decide +kernel
theorem dX1_append_54 : decode cX1_append 54 = .ok (.getfield 15, 3) := by decide +kernel
theorem dX1_append_57 : decode cX1_append 57 = .ok (.iload_n 1, 1) := by decide +kernel
theorem dX1_append_58 : decode cX1_append 58 = .ok (.iastore, 1) := by decide +kernel
theorem dX1_append_59 : decode cX1_append 59 = .ok (.aload_n 0, 1) := by decide +kernel
theorem dX1_append_60 : decode cX1_append 60 = .ok (.dup, 1) := by decide +kernel
theorem dX1_append_61 : decode cX1_append 61 = .ok (.getfield 15, 3) := by decide +kernel
theorem dX1_append_64 : decode cX1_append 64 = .ok (.iconst 1, 1) := by decide +kernel
theorem dX1_append_65 : decode cX1_append 65 = .ok (.iadd, 1) := by decide +kernel
theorem dX1_append_66 : decode cX1_append 66 = .ok (.putfield 15, 3) := by decide +kernel
theorem dX1_append_69 : decode cX1_append 69 = .ok (.return_, 1) := by decide +kernel
theorem dX1_isWord_0 : decode cX1_isWord 0 = .ok (.aload_n 0, 1) := by decide +kernel
theorem dX1_isWord_1 : decode cX1_isWord 1 = .ok (.getfield 15, 3) := by decide +kernel
theorem dX1_isWord_4 : decode cX1_isWord 4 = .ok (.ifCond .le 18, 3) := by decide +kernel
theorem dX1_isWord_7 : decode cX1_isWord 7 = .ok (.aload_n 0, 1) := by decide +kernel
theorem dX1_isWord_8 : decode cX1_isWord 8 = .ok (.getfield 19, 3) := by decide +kernel
theorem dX1_isWord_11 : decode cX1_isWord 11 = .ok (.aload_n 0, 1) := by decide +kernel
theorem dX1_isWord_12 : decode cX1_isWord 12 = .ok (.getfield 15, 3) := by decide +kernel
theorem dX1_isWord_15 : decode cX1_isWord 15 = .ok (.if_icmp .ne 7, 3) := by decide +kernel
theorem dX1_isWord_18 : decode cX1_isWord 18 = .ok (.iconst 1, 1) := by decide +kernel
theorem dX1_isWord_19 : decode cX1_isWord 19 = .ok (.goto 4, 3) := by decide +kernel
theorem dX1_isWord_22 : decode cX1_isWord 22 = .ok (.iconst 0, 1) := by decide +kernel
theorem dX1_isWord_23 : decode cX1_isWord 23 = .ok (.ireturn, 1) := by decide +kernel
theorem dX1_continues_0 : decode cX1_continues 0 = .ok (.iload_n 1, 1) := by decide +kernel
theorem dX1_continues_1 : decode cX1_continues 1 = .ok (.bipush 76, 2) := by decide +kernel
theorem dX1_continues_3 : decode cX1_continues 3 = .ok (.if_icmp .eq 9, 3) := by decide +kernel
theorem dX1_continues_6 : decode cX1_continues 6 = .ok (.iload_n 1, 1) := by decide +kernel
theorem dX1_continues_7 : decode cX1_continues 7 = .ok (.bipush 82, 2) := by decide +kernel
theorem dX1_continues_9 : decode cX1_continues 9 = .ok (.if_icmp .ne 7, 3) := by decide +kernel
theorem dX1_continues_12 : decode cX1_continues 12 = .ok (.iconst 1, 1) := by decide +kernel
theorem dX1_continues_13 : decode cX1_continues 13 = .ok (.goto 4, 3) := by decide +kernel
theorem dX1_continues_16 : decode cX1_continues 16 = .ok (.iconst 0, 1) := by decide +kernel
theorem dX1_continues_17 : decode cX1_continues 17 = .ok (.istore_n 2, 1) := by decide +kernel
theorem dX1_continues_18 : decode cX1_continues 18 = .ok (.aload_n 0, 1) := by decide +kernel
theorem dX1_continues_19 : decode cX1_continues 19 = .ok (.getfield 28, 3) := by decide +kernel
theorem dX1_continues_22 : decode cX1_continues 22 = .ok (.ifCond .eq 19, 3) := by decide +kernel
theorem dX1_continues_25 : decode cX1_continues 25 = .ok (.iload_n 1, 1) := by decide +kernel
theorem dX1_continues_26 : decode cX1_continues 26 = .ok (.bipush 50, 2) := by decide +kernel
theorem dX1_continues_28 : decode cX1_continues 28 = .ok (.if_icmp .lt 13, 3) := by decide +kernel
theorem dX1_continues_31 : decode cX1_continues 31 = .ok (.iload_n 1, 1) := by decide +kernel
theorem dX1_continues_32 : decode cX1_continues 32 = .ok (.bipush 57, 2) := by decide +kernel
theorem dX1_continues_34 : decode cX1_continues 34 = .ok (.if_icmp .gt 7, 3) := by decide +kernel
theorem dX1_continues_37 : decode cX1_continues 37 = .ok (.iconst 1, 1) := by decide +kernel
theorem dX1_continues_38 : decode cX1_continues 38 = .ok (.goto 4, 3) := by decide +kernel
theorem dX1_continues_41 : decode cX1_continues 41 = .ok (.iconst 0, 1) := by decide +kernel
theorem dX1_continues_42 : decode cX1_continues 42 = .ok (.istore_n 3, 1) := by decide +kernel
theorem dX1_continues_43 : decode cX1_continues 43 = .ok (.iload_n 2, 1) := by decide +kernel
theorem dX1_continues_44 : decode cX1_continues 44 = .ok (.ifCond .ne 9, 3) := by decide +kernel
theorem dX1_continues_47 : decode cX1_continues 47 = .ok (.iload_n 3, 1) := by decide +kernel
theorem dX1_continues_48 : decode cX1_continues 48 = .ok (.ifCond .ne 5, 3) := by decide +kernel
theorem dX1_continues_51 : decode cX1_continues 51 = .ok (.iconst 0, 1) := by decide +kernel
theorem dX1_continues_52 : decode cX1_continues 52 = .ok (.ireturn, 1) := by decide +kernel
theorem dX1_continues_53 : decode cX1_continues 53 = .ok (.iload_n 2, 1) := by decide +kernel
theorem dX1_continues_54 : decode cX1_continues 54 = .ok (.ifCond .eq 7, 3) := by decide +kernel
theorem dX1_continues_57 : decode cX1_continues 57 = .ok (.iconst 1, 1) := by decide +kernel
theorem dX1_continues_58 : decode cX1_continues 58 = .ok (.goto 7, 3) := by decide +kernel
theorem dX1_continues_61 : decode cX1_continues 61 = .ok (.iload_n 1, 1) := by decide +kernel
theorem dX1_continues_62 : decode cX1_continues 62 = .ok (.bipush 49, 2) := by decide +kernel
theorem dX1_continues_64 : decode cX1_continues 64 = .ok (.isub, 1) := by decide +kernel
theorem dX1_continues_65 : decode cX1_continues 65 = .ok (.istore 4, 2) := by decide +kernel
theorem dX1_continues_67 : decode cX1_continues 67 = .ok (.aload_n 0, 1) := by decide +kernel
theorem dX1_continues_68 : decode cX1_continues 68 = .ok (.getfield 25, 3) := by decide +kernel
theorem dX1_continues_71 : decode cX1_continues 71 = .ok (.iload 4, 2) := by decide +kernel
theorem dX1_continues_73 : decode cX1_continues 73 = .ok (.iadd, 1) := by decide +kernel
theorem dX1_continues_74 : decode cX1_continues 74 = .ok (.bipush 20, 2) := by decide +kernel
theorem dX1_continues_76 : decode cX1_continues 76 = .ok (.if_icmp .le 5, 3) := by decide +kernel
theorem dX1_continues_79 : decode cX1_continues 79 = .ok (.iconst 0, 1) := by decide +kernel
theorem dX1_continues_80 : decode cX1_continues 80 = .ok (.ireturn, 1) := by decide +kernel
theorem dX1_continues_81 : decode cX1_continues 81 = .ok (.iload_n 2, 1) := by decide +kernel
theorem dX1_continues_82 : decode cX1_continues 82 = .ok (.ifCond .eq 17, 3) := by decide +kernel
theorem dX1_continues_85 : decode cX1_continues 85 = .ok (.iload_n 1, 1) := by decide +kernel
theorem dX1_continues_86 : decode cX1_continues 86 = .ok (.bipush 82, 2) := by decide +kernel
theorem dX1_continues_88 : decode cX1_continues 88 = .ok (.if_icmp .ne 7, 3) := by decide +kernel
theorem dX1_continues_91 : decode cX1_continues 91 = .ok (.iconst 1, 1) := by decide +kernel
theorem dX1_continues_92 : decode cX1_continues 92 = .ok (.goto 13, 3) := by decide +kernel
theorem dX1_continues_95 : decode cX1_continues 95 = .ok (.iconst 0, 1) := by decide +kernel
theorem dX1_continues_96 : decode cX1_continues 96 = .ok (.goto 9, 3) := by decide +kernel
theorem dX1_continues_99 : decode cX1_continues 99 = .ok (.aload_n 0, 1) := by decide +kernel
theorem dX1_continues_100 : decode cX1_continues 100 = .ok (.getfield 22, 3) := by decide +kernel
theorem dX1_continues_103 : decode cX1_continues 103 = .ok (.iconst 1, 1) := by decide +kernel
theorem dX1_continues_104 : decode cX1_continues 104 = .ok (.iand, 1) := by decide +kernel
theorem dX1_continues_105 : decode cX1_continues 105 = .ok (.istore 5, 2) := by decide +kernel
theorem dX1_continues_107 : decode cX1_continues 107 = .ok (.iconst 0, 1) := by decide +kernel
theorem dX1_continues_108 : decode cX1_continues 108 = .ok (.istore 6, 2) := by decide +kernel
theorem dX1_continues_110 : decode cX1_continues 110 = .ok (.iload 6, 2) := by decide +kernel
theorem dX1_continues_112 : decode cX1_continues 112 = .ok (.iload 4, 2) := by decide +kernel
theorem dX1_continues_114 : decode cX1_continues 114 = .ok (.if_icmp .ge 22, 3) := by decide +kernel
theorem dX1_continues_117 : decode cX1_continues 117 = .ok (.aload_n 0, 1) := by decide +kernel
theorem dX1_continues_118 : decode cX1_continues 118 = .ok (.aload_n 0, 1) := by decide +kernel
theorem dX1_continues_119 : decode cX1_continues 119 = .ok (.getfield 22, 3) := by decide +kernel
theorem dX1_continues_122 : decode cX1_continues 122 = .ok (.iconst 1, 1) := by decide +kernel
theorem dX1_continues_123 : decode cX1_continues 123 = .ok (.ishl, 1) := by decide +kernel
theorem dX1_continues_124 : decode cX1_continues 124 = .ok (.iload 5, 2) := by decide +kernel
theorem dX1_continues_126 : decode cX1_continues 126 = .ok (.ior, 1) := by decide +kernel
theorem dX1_continues_127 : decode cX1_continues 127 = .ok (.putfield 22, 3) := by decide +kernel
theorem dX1_continues_130 : decode cX1_continues 130 = .ok (.iinc 6 1, 3) := by decide +kernel
theorem dX1_continues_133 : decode cX1_continues 133 = .ok (.goto (-23), 3) := by decide +kernel
theorem dX1_continues_136 : decode cX1_continues 136 = .ok (.aload_n 0, 1) := by decide +kernel
theorem dX1_continues_137 : decode cX1_continues 137 = .ok (.dup, 1) := by decide +kernel
theorem dX1_continues_138 : decode cX1_continues 138 = .ok (.getfield 25, 3) := by decide +kernel
theorem dX1_continues_141 : decode cX1_continues 141 = .ok (.iload 4, 2) := by decide +kernel
theorem dX1_continues_143 : decode cX1_continues 143 = .ok (.iadd, 1) := by decide +kernel
theorem dX1_continues_144 : decode cX1_continues 144 = .ok (.putfield 25, 3) := by decide +kernel
theorem dX1_continues_147 : decode cX1_continues 147 = .ok (.aload_n 0, 1) := by decide +kernel
theorem dX1_continues_148 : decode cX1_continues 148 = .ok (.iload_n 2, 1) := by decide +kernel
theorem dX1_continues_149 : decode cX1_continues 149 = .ok (.putfield 28, 3) := by decide +kernel
theorem dX1_continues_152 : decode cX1_continues 152 = .ok (.iconst 1, 1) := by decide +kernel
theorem dX1_continues_153 : decode cX1_continues 153 = .ok (.ireturn, 1) := by decide +kernel
theorem dX2_init_0 : decode cX2_init 0 = .ok (.aload_n 0, 1) := by decide +kernel
theorem dX2_init_1 : decode cX2_init 1 = .ok (.invokespecial 3, 3) := by decide +kernel
theorem dX2_init_4 : decode cX2_init 4 = .ok (.aload_n 0, 1) := by decide +kernel
theorem dX2_init_5 : decode cX2_init 5 = .ok (.bipush 8, 2) := by decide +kernel
theorem dX2_init_7 : decode cX2_init 7 = .ok (.sipush 320, 3) := by decide +kernel
theorem dX2_init_10 : decode cX2_init 10 = .ok (.multianewarray 11 2, 4) := by decide +kernel
theorem dX2_init_14 : decode cX2_init 14 = .ok (.putfield 13, 3) := by decide +kernel
theorem dX2_init_17 : decode cX2_init 17 = .ok (.aload_n 0, 1) := by decide +kernel
theorem dX2_init_18 : decode cX2_init 18 = .ok (.iconst 5, 1) := by decide +kernel
theorem dX2_init_19 : decode cX2_init 19 = .ok (.bipush 10, 2) := by decide +kernel
theorem dX2_init_21 : decode cX2_init 21 = .ok (.multianewarray 11 2, 4) := by decide +kernel
theorem dX2_init_25 : decode cX2_init 25 = .ok (.putfield 16, 3) := by decide +kernel
theorem dX2_init_28 : decode cX2_init 28 = .ok (.return_, 1) := by decide +kernel
set_option maxRecDepth 20000 in
theorem ggX3_init_X3_become : GoodIn wsX3_init wsX3_become := goodIn_rq _ [8, 9, 10, 11, 12, 13, 14, 15, 16, 17, 18, 7, 19, 20, 21, 22, 23, 24, 25, 26] (by decide +kernel) (by decide +kernel)
set_option maxRecDepth 20000 in
theorem gX3_init_X3_become : GoodIn wsX3_init (wsV RX3 9 RX3 yX3_become wsX3_become) := goodIn_app (goodIn_of _ (by decide +kernel)) ggX3_init_X3_become
theorem dX3_init_0 : decode cX3_init 0 = .ok (.aload_n 0, 1) := by decide +kernel
theorem dX3_init_1 : decode cX3_init 1 = .ok (.invokespecial 3, 3) := by decide +kernel
theorem dX3_init_4 : decode cX3_init 4 = .ok (.aload_n 0, 1) := by decide +kernel
theorem dX3_init_5 : decode cX3_init 5 = .ok (.iload_n 1, 1) := by decide +kernel
theorem dX3_init_6 : decode cX3_init 6 = .ok (.iload_n 2, 1) := by decide +kernel
theorem dX3_init_7 : decode cX3_init 7 = .ok (.invokevirtual 9, 3) := by decide +kernel
theorem dX3_init_10 : decode cX3_init 10 = .ok (.return_, 1) := by decide +kernel
set_option maxRecDepth 20000 in
theorem ggX3_become_X3_bitAt : GoodIn wsX3_become wsX3_bitAt := goodIn_rq _ [12, 1, 2, 13, 14, 15, 16, 17, 18, 19] (by decide +kernel) (by decide +kernel)
set_option maxRecDepth 20000 in
theorem gX3_become_X3_bitAt : GoodIn wsX3_become (wsV RX3 37 RX3 yX3_bitAt wsX3_bitAt) := goodIn_app (goodIn_of _ (by decide +kernel)) ggX3_become_X3_bitAt
theorem dX3_become_0 : decode cX3_become 0 = .ok (.aload_n 0, 1) := by decide +kernel
theorem dX3_become_1 : decode cX3_become 1 = .ok (.iload_n 1, 1) := by decide +kernel
theorem dX3_become_2 : decode cX3_become 2 = .ok (.putfield 15, 3) := by decide +kernel
theorem dX3_become_5 : decode cX3_become 5 = .ok (.aload_n 0, 1) := by decide +kernel
theorem dX3_become_6 : decode cX3_become 6 = .ok (.iload_n 2, 1) := by decide +kernel
theorem dX3_become_7 : decode cX3_become 7 = .ok (.putfield 19, 3) := by decide +kernel
theorem dX3_become_10 : decode cX3_become 10 = .ok (.aload_n 0, 1) := by decide +kernel
theorem dX3_become_11 : decode cX3_become 11 = .ok (.iconst 1, 1) := by decide +kernel
theorem dX3_become_12 : decode cX3_become 12 = .ok (.iload_n 2, 1) := by decide +kernel
theorem dX3_become_13 : decode cX3_become 13 = .ok (.ishl, 1) := by decide +kernel
theorem dX3_become_14 : decode cX3_become 14 = .ok (.iconst 1, 1) := by decide +kernel
theorem dX3_become_15 : decode cX3_become 15 = .ok (.isub, 1) := by decide +kernel
theorem dX3_become_16 : decode cX3_become 16 = .ok (.putfield 22, 3) := by decide +kernel
theorem dX3_become_19 : decode cX3_become 19 = .ok (.aload_n 0, 1) := by decide +kernel
theorem dX3_become_20 : decode cX3_become 20 = .ok (.iconst 1, 1) := by decide +kernel
theorem dX3_become_21 : decode cX3_become 21 = .ok (.putfield 25, 3) := by decide +kernel
theorem dX3_become_24 : decode cX3_become 24 = .ok (.aload_n 0, 1) := by decide +kernel
theorem dX3_become_25 : decode cX3_become 25 = .ok (.iconst 0, 1) := by decide +kernel
theorem dX3_become_26 : decode cX3_become 26 = .ok (.putfield 28, 3) := by decide +kernel
theorem dX3_become_29 : decode cX3_become 29 = .ok (.aload_n 0, 1) := by decide +kernel
theorem dX3_become_30 : decode cX3_become 30 = .ok (.iconst 0, 1) := by decide +kernel
theorem dX3_become_31 : decode cX3_become 31 = .ok (.putfield 31, 3) := by decide +kernel
theorem dX3_become_34 : decode cX3_become 34 = .ok (.aload_n 0, 1) := by decide +kernel
theorem dX3_become_35 : decode cX3_become 35 = .ok (.iconst 1, 1) := by decide +kernel
theorem dX3_become_36 : decode cX3_become 36 = .ok (.putfield 34, 3) := by decide +kernel
theorem dX3_become_39 : decode cX3_become 39 = .ok (.iconst 0, 1) := by decide +kernel
theorem dX3_become_40 : decode cX3_become 40 = .ok (.istore_n 3, 1) := by decide +kernel
theorem dX3_become_41 : decode cX3_become 41 = .ok (.iload_n 3, 1) := by decide +kernel
theorem dX3_become_42 : decode cX3_become 42 = .ok (.aload_n 0, 1) := by decide +kernel
theorem dX3_become_43 : decode cX3_become 43 = .ok (.getfield 19, 3) := by decide +kernel
theorem dX3_become_46 : decode cX3_become 46 = .ok (.if_icmp .ge 73, 3) := by decide +kernel
theorem dX3_become_49 : decode cX3_become 49 = .ok (.aload_n 0, 1) := by decide +kernel
theorem dX3_become_50 : decode cX3_become 50 = .ok (.iload_n 3, 1) := by decide +kernel
theorem dX3_become_51 : decode cX3_become 51 = .ok (.invokevirtual 37, 3) := by decide +kernel
theorem dX3_become_54 : decode cX3_become 54 = .ok (.iconst 1, 1) := by decide +kernel
theorem dX3_become_55 : decode cX3_become 55 = .ok (.if_icmp .ne 32, 3) := by decide +kernel
theorem dX3_become_58 : decode cX3_become 58 = .ok (.aload_n 0, 1) := by decide +kernel
theorem dX3_become_59 : decode cX3_become 59 = .ok (.dup, 1) := by decide +kernel
theorem dX3_become_60 : decode cX3_become 60 = .ok (.getfield 28, 3) := by decide +kernel
theorem dX3_become_63 : decode cX3_become 63 = .ok (.aload_n 0, 1) := by decide +kernel
theorem dX3_become_64 : decode cX3_become 64 = .ok (.getfield 25, 3) := by decide +kernel
theorem dX3_become_67 : decode cX3_become 67 = .ok (.iadd, 1) := by decide +kernel
theorem dX3_become_68 : decode cX3_become 68 = .ok (.putfield 28, 3) := by decide +kernel
theorem dX3_become_71 : decode cX3_become 71 = .ok (.aload_n 0, 1) := by decide +kernel
theorem dX3_become_72 : decode cX3_become 72 = .ok (.dup, 1) := by decide +kernel
theorem dX3_become_73 : decode cX3_become 73 = .ok (.getfield 34, 3) := by decide +kernel
theorem dX3_become_76 : decode cX3_become 76 = .ok (.aload_n 0, 1) := by decide +kernel
theorem dX3_become_77 : decode cX3_become 77 = .ok (.getfield 31, 3) := by decide +kernel
theorem dX3_become_80 : decode cX3_become 80 = .ok (.iadd, 1) := by decide +kernel
theorem dX3_become_81 : decode cX3_become 81 = .ok (.putfield 34, 3) := by decide +kernel
theorem dX3_become_84 : decode cX3_become 84 = .ok (.goto 29, 3) := by decide +kernel
theorem dX3_become_87 : decode cX3_become 87 = .ok (.aload_n 0, 1) := by decide +kernel
theorem dX3_become_88 : decode cX3_become 88 = .ok (.dup, 1) := by decide +kernel
theorem dX3_become_89 : decode cX3_become 89 = .ok (.getfield 25, 3) := by decide +kernel
theorem dX3_become_92 : decode cX3_become 92 = .ok (.aload_n 0, 1) := by decide +kernel
theorem dX3_become_93 : decode cX3_become 93 = .ok (.getfield 28, 3) := by decide +kernel
theorem dX3_become_96 : decode cX3_become 96 = .ok (.iadd, 1) := by decide +kernel
theorem dX3_become_97 : decode cX3_become 97 = .ok (.putfield 25, 3) := by decide +kernel
theorem dX3_become_100 : decode cX3_become 100 = .ok (.aload_n 0, 1) := by decide +kernel
theorem dX3_become_101 : decode cX3_become 101 = .ok (.dup, 1) := by decide +kernel
theorem dX3_become_102 : decode cX3_become 102 = .ok (.getfield 31, 3) := by decide +kernel
theorem dX3_become_105 : decode cX3_become 105 = .ok (.aload_n 0, 1) := by decide +kernel
theorem dX3_become_106 : decode cX3_become 106 = .ok (.getfield 34, 3) := by decide +kernel
theorem dX3_become_109 : decode cX3_become 109 = .ok (.iadd, 1) := by decide +kernel
theorem dX3_become_110 : decode cX3_become 110 = .ok (.putfield 31, 3) := by decide +kernel
theorem dX3_become_113 : decode cX3_become 113 = .ok (.iinc 3 1, 3) := by decide +kernel
theorem dX3_become_116 : decode cX3_become 116 = .ok (.goto (-75), 3) := by decide +kernel
theorem dX3_become_119 : decode cX3_become 119 = .ok (.return_, 1) := by decide +kernel
theorem dX3_bitAt_0 : decode cX3_bitAt 0 = .ok (.aload_n 0, 1) := by decide +kernel
theorem dX3_bitAt_1 : decode cX3_bitAt 1 = .ok (.getfield 15, 3) := by decide +kernel
theorem dX3_bitAt_4 : decode cX3_bitAt 4 = .ok (.aload_n 0, 1) := by decide +kernel
theorem dX3_bitAt_5 : decode cX3_bitAt 5 = .ok (.getfield 19, 3) := by decide +kernel
theorem dX3_bitAt_8 : decode cX3_bitAt 8 = .ok (.iconst 1, 1) := by decide +kernel
theorem dX3_bitAt_9 : decode cX3_bitAt 9 = .ok (.isub, 1) := by decide +kernel
theorem dX3_bitAt_10 : decode cX3_bitAt 10 = .ok (.iload_n 1, 1) := by decide +kernel
theorem dX3_bitAt_11 : decode cX3_bitAt 11 = .ok (.isub, 1) := by decide +kernel
theorem dX3_bitAt_12 : decode cX3_bitAt 12 = .ok (.ishr, 1) := by decide +kernel
theorem dX3_bitAt_13 : decode cX3_bitAt 13 = .ok (.iconst 1, 1) := by decide +kernel
theorem dX3_bitAt_14 : decode cX3_bitAt 14 = .ok (.iand, 1) := by decide +kernel
theorem dX3_bitAt_15 : decode cX3_bitAt 15 = .ok (.ireturn, 1) := by decide +kernel
theorem dX3_isClosed_0 : decode cX3_isClosed 0 = .ok (.aload_n 0, 1) := by decide +kernel
theorem dX3_isClosed_1 : decode cX3_isClosed 1 = .ok (.getfield 15, 3) := by decide +kernel
theorem dX3_isClosed_4 : decode cX3_isClosed 4 = .ok (.ifCond .eq 18, 3) := by decide +kernel
theorem dX3_isClosed_7 : decode cX3_isClosed 7 = .ok (.aload_n 0, 1) := by decide +kernel
theorem dX3_isClosed_8 : decode cX3_isClosed 8 = .ok (.getfield 15, 3) := by decide +kernel
theorem dX3_isClosed_11 : decode cX3_isClosed 11 = .ok (.aload_n 0, 1) := by decide +kernel
theorem dX3_isClosed_12 : decode cX3_isClosed 12 = .ok (.getfield 22, 3) := by decide +kernel
theorem dX3_isClosed_15 : decode cX3_isClosed 15 = .ok (.if_icmp .eq 7, 3) := by decide +kernel
theorem dX3_isClosed_18 : decode cX3_isClosed 18 = .ok (.iconst 1, 1) := by decide +kernel
theorem dX3_isClosed_19 : decode cX3_isClosed 19 = .ok (.goto 4, 3) := by decide +kernel
theorem dX3_isClosed_22 : decode cX3_isClosed 22 = .ok (.iconst 0, 1) := by decide +kernel
theorem dX3_isClosed_23 : decode cX3_isClosed 23 = .ok (.ireturn, 1) := by decide +kernel
theorem dX3_traceSum_0 : decode cX3_traceSum 0 = .ok (.aload_n 0, 1) := by decide +kernel
theorem dX3_traceSum_1 : decode cX3_traceSum 1 = .ok (.getfield 25, 3) := by decide +kernel
theorem dX3_traceSum_4 : decode cX3_traceSum 4 = .ok (.aload_n 0, 1) := by decide +kernel
theorem dX3_traceSum_5 : decode cX3_traceSum 5 = .ok (.getfield 34, 3) := by decide +kernel
theorem dX3_traceSum_8 : decode cX3_traceSum 8 = .ok (.iadd, 1) := by decide +kernel
theorem dX3_traceSum_9 : decode cX3_traceSum 9 = .ok (.ireturn, 1) := by decide +kernel
theorem dX3_rotation_0 : decode cX3_rotation 0 = .ok (.aload_n 0, 1) := by decide +kernel
theorem dX3_rotation_1 : decode cX3_rotation 1 = .ok (.getfield 15, 3) := by decide +kernel
theorem dX3_rotation_4 : decode cX3_rotation 4 = .ok (.iload_n 1, 1) := by decide +kernel
theorem dX3_rotation_5 : decode cX3_rotation 5 = .ok (.ishl, 1) := by decide +kernel
theorem dX3_rotation_6 : decode cX3_rotation 6 = .ok (.aload_n 0, 1) := by decide +kernel
theorem dX3_rotation_7 : decode cX3_rotation 7 = .ok (.getfield 15, 3) := by decide +kernel
theorem dX3_rotation_10 : decode cX3_rotation 10 = .ok (.aload_n 0, 1) := by decide +kernel
theorem dX3_rotation_11 : decode cX3_rotation 11 = .ok (.getfield 19, 3) := by decide +kernel
theorem dX3_rotation_14 : decode cX3_rotation 14 = .ok (.iload_n 1, 1) := by decide +kernel
theorem dX3_rotation_15 : decode cX3_rotation 15 = .ok (.isub, 1) := by decide +kernel
theorem dX3_rotation_16 : decode cX3_rotation 16 = .ok (.ishr, 1) := by decide +kernel
theorem dX3_rotation_17 : decode cX3_rotation 17 = .ok (.ior, 1) := by decide +kernel
theorem dX3_rotation_18 : decode cX3_rotation 18 = .ok (.aload_n 0, 1) := by decide +kernel
theorem dX3_rotation_19 : decode cX3_rotation 19 = .ok (.getfield 22, 3) := by decide +kernel
theorem dX3_rotation_22 : decode cX3_rotation 22 = .ok (.iand, 1) := by decide +kernel
theorem dX3_rotation_23 : decode cX3_rotation 23 = .ok (.ireturn, 1) := by decide +kernel
set_option maxRecDepth 20000 in
theorem ggX3_reversal_X3_bitAt : GoodIn wsX3_reversal wsX3_bitAt := goodIn_rq _ [6, 7, 1, 8, 9, 10, 11, 12, 13, 14] (by decide +kernel) (by decide +kernel)
set_option maxRecDepth 20000 in
theorem gX3_reversal_X3_bitAt : GoodIn wsX3_reversal (wsV RX3 37 RX3 yX3_bitAt wsX3_bitAt) := goodIn_app (goodIn_of _ (by decide +kernel)) ggX3_reversal_X3_bitAt
theorem dX3_reversal_0 : decode cX3_reversal 0 = .ok (.iconst 0, 1) := by decide +kernel
theorem dX3_reversal_1 : decode cX3_reversal 1 = .ok (.istore_n 1, 1) := by decide +kernel
theorem dX3_reversal_2 : decode cX3_reversal 2 = .ok (.aload_n 0, 1) := by decide +kernel
theorem dX3_reversal_3 : decode cX3_reversal 3 = .ok (.getfield 19, 3) := by decide +kernel
theorem dX3_reversal_6 : decode cX3_reversal 6 = .ok (.iconst 1, 1) := by decide +kernel
theorem dX3_reversal_7 : decode cX3_reversal 7 = .ok (.isub, 1) := by decide +kernel
theorem dX3_reversal_8 : decode cX3_reversal 8 = .ok (.istore_n 2, 1) := by decide +kernel
theorem dX3_reversal_9 : decode cX3_reversal 9 = .ok (.iload_n 2, 1) := by decide +kernel
theorem dX3_reversal_10 : decode cX3_reversal 10 = .ok (.ifCond .lt 19, 3) := by decide +kernel
theorem dX3_reversal_13 : decode cX3_reversal 13 = .ok (.iload_n 1, 1) := by decide +kernel
theorem dX3_reversal_14 : decode cX3_reversal 14 = .ok (.iconst 1, 1) := by decide +kernel
theorem dX3_reversal_15 : decode cX3_reversal 15 = .ok (.ishl, 1) := by decide +kernel
theorem dX3_reversal_16 : decode cX3_reversal 16 = .ok (.aload_n 0, 1) := by decide +kernel
theorem dX3_reversal_17 : decode cX3_reversal 17 = .ok (.iload_n 2, 1) := by decide +kernel
theorem dX3_reversal_18 : decode cX3_reversal 18 = .ok (.invokevirtual 37, 3) := by decide +kernel
theorem dX3_reversal_21 : decode cX3_reversal 21 = .ok (.ior, 1) := by decide +kernel
theorem dX3_reversal_22 : decode cX3_reversal 22 = .ok (.istore_n 1, 1) := by decide +kernel
theorem dX3_reversal_23 : decode cX3_reversal 23 = .ok (.iinc 2 (-1), 3) := by decide +kernel
theorem dX3_reversal_26 : decode cX3_reversal 26 = .ok (.goto (-17), 3) := by decide +kernel
theorem dX3_reversal_29 : decode cX3_reversal 29 = .ok (.iload_n 1, 1) := by decide +kernel
theorem dX3_reversal_30 : decode cX3_reversal 30 = .ok (.ireturn, 1) := by decide +kernel
theorem dX3_complement_0 : decode cX3_complement 0 = .ok (.iload_n 1, 1) := by decide +kernel
theorem dX3_complement_1 : decode cX3_complement 1 = .ok (.aload_n 0, 1) := by decide +kernel
theorem dX3_complement_2 : decode cX3_complement 2 = .ok (.getfield 22, 3) := by decide +kernel
theorem dX3_complement_5 : decode cX3_complement 5 = .ok (.ixor, 1) := by decide +kernel
theorem dX3_complement_6 : decode cX3_complement 6 = .ok (.ireturn, 1) := by decide +kernel
set_option maxRecDepth 20000 in
theorem ggX3_changed_X3_reversal : GoodIn wsX3_changed wsX3_reversal := goodIn_rq _ [6, 7, 8, 9, 10, 5, 11, 1, 25, 26, 27, 28, 29, 30, 31] (by decide +kernel) (by decide +kernel)
set_option maxRecDepth 20000 in
theorem gX3_changed_X3_reversal : GoodIn wsX3_changed (wsV RX3 41 RX3 yX3_reversal wsX3_reversal) := goodIn_app (goodIn_of _ (by decide +kernel)) ggX3_changed_X3_reversal
set_option maxRecDepth 20000 in
theorem ggX3_changed_X3_complement : GoodIn wsX3_changed wsX3_complement := goodIn_rq _ [15, 16, 25, 26, 27, 28, 29, 30, 31] (by decide +kernel) (by decide +kernel)
set_option maxRecDepth 20000 in
theorem gX3_changed_X3_complement : GoodIn wsX3_changed (wsV RX3 45 RX3 yX3_complement wsX3_complement) := goodIn_app (goodIn_of _ (by decide +kernel)) ggX3_changed_X3_complement
set_option maxRecDepth 20000 in
theorem ggX3_changed_X3_leastTurn : GoodIn wsX3_changed wsX3_leastTurn := goodIn_rq _ [20, 7, 21, 22, 23, 5, 24, 1, 16, 25, 26, 27, 28, 29, 30, 31] (by decide +kernel) (by decide +kernel)
set_option maxRecDepth 20000 in
theorem gX3_changed_X3_leastTurn : GoodIn wsX3_changed (wsV RX3 48 RX3 yX3_leastTurn wsX3_leastTurn) := goodIn_app (goodIn_of _ (by decide +kernel)) ggX3_changed_X3_leastTurn
set_option maxRecDepth 20000 in
theorem ggX3_changed_X3_rotation : GoodIn wsX3_changed wsX3_rotation := goodIn_rq _ [24, 1, 7, 16, 25, 26, 27, 28, 29, 30, 31] (by decide +kernel) (by decide +kernel)
set_option maxRecDepth 20000 in
theorem gX3_changed_X3_rotation : GoodIn wsX3_changed (wsV RX3 51 RX3 yX3_rotation wsX3_rotation) := goodIn_app (goodIn_of _ (by decide +kernel)) ggX3_changed_X3_rotation
theorem dX3_changed_0 : decode cX3_changed 0 = .ok (.iload_n 1, 1) := by decide +kernel
theorem dX3_changed_1 : decode cX3_changed 1 = .ok (.lookupswitch 41 #[(0, 27), (1, 32)], 27) := by decide +kernel
theorem dX3_changed_28 : decode cX3_changed 28 = .ok (.aload_n 0, 1) := by decide +kernel
theorem dX3_changed_29 : decode cX3_changed 29 = .ok (.invokevirtual 41, 3) := by decide +kernel
theorem dX3_changed_32 : decode cX3_changed 32 = .ok (.ireturn, 1) := by decide +kernel
theorem dX3_changed_33 : decode cX3_changed 33 = .ok (.aload_n 0, 1) := by decide +kernel
theorem dX3_changed_34 : decode cX3_changed 34 = .ok (.aload_n 0, 1) := by decide +kernel
theorem dX3_changed_35 : decode cX3_changed 35 = .ok (.getfield 15, 3) := by decide +kernel
theorem dX3_changed_38 : decode cX3_changed 38 = .ok (.invokevirtual 45, 3) := by decide +kernel
theorem dX3_changed_41 : decode cX3_changed 41 = .ok (.ireturn, 1) := by decide +kernel
theorem dX3_changed_42 : decode cX3_changed 42 = .ok (.aload_n 0, 1) := by decide +kernel
theorem dX3_changed_43 : decode cX3_changed 43 = .ok (.aload_n 0, 1) := by decide +kernel
theorem dX3_changed_44 : decode cX3_changed 44 = .ok (.invokevirtual 48, 3) := by decide +kernel
theorem dX3_changed_47 : decode cX3_changed 47 = .ok (.invokevirtual 51, 3) := by decide +kernel
theorem dX3_changed_50 : decode cX3_changed 50 = .ok (.ireturn, 1) := by decide +kernel
set_option maxRecDepth 20000 in
theorem ggX3_turnTo_X3_rotation : GoodIn wsX3_turnTo wsX3_rotation := goodIn_rq _ [7, 8, 1, 9, 10, 11, 12, 13, 14, 15, 16] (by decide +kernel) (by decide +kernel)
set_option maxRecDepth 20000 in
theorem gX3_turnTo_X3_rotation : GoodIn wsX3_turnTo (wsV RX3 51 RX3 yX3_rotation wsX3_rotation) := goodIn_app (goodIn_of _ (by decide +kernel)) ggX3_turnTo_X3_rotation
theorem dX3_turnTo_0 : decode cX3_turnTo 0 = .ok (.iload_n 2, 1) := by decide +kernel
theorem dX3_turnTo_1 : decode cX3_turnTo 1 = .ok (.istore_n 3, 1) := by decide +kernel
theorem dX3_turnTo_2 : decode cX3_turnTo 2 = .ok (.iload_n 3, 1) := by decide +kernel
theorem dX3_turnTo_3 : decode cX3_turnTo 3 = .ok (.aload_n 0, 1) := by decide +kernel
theorem dX3_turnTo_4 : decode cX3_turnTo 4 = .ok (.getfield 19, 3) := by decide +kernel
theorem dX3_turnTo_7 : decode cX3_turnTo 7 = .ok (.if_icmp .ge 20, 3) := by decide +kernel
theorem dX3_turnTo_10 : decode cX3_turnTo 10 = .ok (.aload_n 0, 1) := by decide +kernel
theorem dX3_turnTo_11 : decode cX3_turnTo 11 = .ok (.iload_n 3, 1) := by decide +kernel
theorem dX3_turnTo_12 : decode cX3_turnTo 12 = .ok (.invokevirtual 51, 3) := by decide +kernel
theorem dX3_turnTo_15 : decode cX3_turnTo 15 = .ok (.iload_n 1, 1) := by decide +kernel
theorem dX3_turnTo_16 : decode cX3_turnTo 16 = .ok (.if_icmp .ne 5, 3) := by decide +kernel
theorem dX3_turnTo_19 : decode cX3_turnTo 19 = .ok (.iload_n 3, 1) := by decide +kernel
theorem dX3_turnTo_20 : decode cX3_turnTo 20 = .ok (.ireturn, 1) := by decide +kernel
theorem dX3_turnTo_21 : decode cX3_turnTo 21 = .ok (.iinc 3 1, 3) := by decide +kernel
theorem dX3_turnTo_24 : decode cX3_turnTo 24 = .ok (.goto (-22), 3) := by decide +kernel
theorem dX3_turnTo_27 : decode cX3_turnTo 27 = .ok (.ldc 54, 2) := by decide +kernel
theorem dX3_turnTo_29 : decode cX3_turnTo 29 = .ok (.ireturn, 1) := by decide +kernel
set_option maxRecDepth 20000 in
theorem ggX3_isConjugate_X3_turnTo : GoodIn wsX3_isConjugate wsX3_turnTo := goodIn_rq _ [6, 7, 1, 8, 9, 10, 5, 11, 12, 13, 14, 15, 16, 17, 18, 19, 20] (by decide +kernel) (by decide +kernel)
set_option maxRecDepth 20000 in
theorem gX3_isConjugate_X3_turnTo : GoodIn wsX3_isConjugate (wsV RX3 55 RX3 yX3_turnTo wsX3_turnTo) := goodIn_app (goodIn_of _ (by decide +kernel)) ggX3_isConjugate_X3_turnTo
theorem dX3_isConjugate_0 : decode cX3_isConjugate 0 = .ok (.aload_n 0, 1) := by decide +kernel
theorem dX3_isConjugate_1 : decode cX3_isConjugate 1 = .ok (.iload_n 1, 1) := by decide +kernel
theorem dX3_isConjugate_2 : decode cX3_isConjugate 2 = .ok (.iconst 0, 1) := by decide +kernel
theorem dX3_isConjugate_3 : decode cX3_isConjugate 3 = .ok (.invokevirtual 55, 3) := by decide +kernel
theorem dX3_isConjugate_6 : decode cX3_isConjugate 6 = .ok (.ldc 54, 2) := by decide +kernel
theorem dX3_isConjugate_8 : decode cX3_isConjugate 8 = .ok (.if_icmp .eq 7, 3) := by decide +kernel
theorem dX3_isConjugate_11 : decode cX3_isConjugate 11 = .ok (.iconst 1, 1) := by decide +kernel
theorem dX3_isConjugate_12 : decode cX3_isConjugate 12 = .ok (.goto 4, 3) := by decide +kernel
theorem dX3_isConjugate_15 : decode cX3_isConjugate 15 = .ok (.iconst 0, 1) := by decide +kernel
theorem dX3_isConjugate_16 : decode cX3_isConjugate 16 = .ok (.ireturn, 1) := by decide +kernel
set_option maxRecDepth 20000 in
theorem ggX3_period_X3_turnTo : GoodIn wsX3_period wsX3_turnTo := goodIn_rq _ [8, 3, 2, 9, 10, 11, 7, 12, 1, 13, 14, 15, 16, 17, 18, 19, 20] (by decide +kernel) (by decide +kernel)
set_option maxRecDepth 20000 in
theorem gX3_period_X3_turnTo : GoodIn wsX3_period (wsV RX3 55 RX3 yX3_turnTo wsX3_turnTo) := goodIn_app (goodIn_of _ (by decide +kernel)) ggX3_period_X3_turnTo
theorem dX3_period_0 : decode cX3_period 0 = .ok (.aload_n 0, 1) := by decide +kernel
theorem dX3_period_1 : decode cX3_period 1 = .ok (.aload_n 0, 1) := by decide +kernel
theorem dX3_period_2 : decode cX3_period 2 = .ok (.getfield 15, 3) := by decide +kernel
theorem dX3_period_5 : decode cX3_period 5 = .ok (.iconst 1, 1) := by decide +kernel
theorem dX3_period_6 : decode cX3_period 6 = .ok (.invokevirtual 55, 3) := by decide +kernel
theorem dX3_period_9 : decode cX3_period 9 = .ok (.istore_n 1, 1) := by decide +kernel
theorem dX3_period_10 : decode cX3_period 10 = .ok (.iload_n 1, 1) := by decide +kernel
theorem dX3_period_11 : decode cX3_period 11 = .ok (.ldc 54, 2) := by decide +kernel
theorem dX3_period_13 : decode cX3_period 13 = .ok (.if_icmp .ne 10, 3) := by decide +kernel
theorem dX3_period_16 : decode cX3_period 16 = .ok (.aload_n 0, 1) := by decide +kernel
theorem dX3_period_17 : decode cX3_period 17 = .ok (.getfield 19, 3) := by decide +kernel
theorem dX3_period_20 : decode cX3_period 20 = .ok (.goto 4, 3) := by decide +kernel
theorem dX3_period_23 : decode cX3_period 23 = .ok (.iload_n 1, 1) := by decide +kernel
theorem dX3_period_24 : decode cX3_period 24 = .ok (.ireturn, 1) := by decide +kernel
set_option maxRecDepth 20000 in
theorem ggX3_leastTurn_X3_rotation : GoodIn wsX3_leastTurn wsX3_rotation := goodIn_rq _ [6, 7, 1, 8, 9, 10, 11, 12, 13, 14, 15] (by decide +kernel) (by decide +kernel)
set_option maxRecDepth 20000 in
theorem gX3_leastTurn_X3_rotation : GoodIn wsX3_leastTurn (wsV RX3 51 RX3 yX3_rotation wsX3_rotation) := goodIn_app (goodIn_of _ (by decide +kernel)) ggX3_leastTurn_X3_rotation
theorem dX3_leastTurn_0 : decode cX3_leastTurn 0 = .ok (.iconst 0, 1) := by decide +kernel
theorem dX3_leastTurn_1 : decode cX3_leastTurn 1 = .ok (.istore_n 1, 1) := by decide +kernel
theorem dX3_leastTurn_2 : decode cX3_leastTurn 2 = .ok (.iconst 1, 1) := by decide +kernel
theorem dX3_leastTurn_3 : decode cX3_leastTurn 3 = .ok (.istore_n 2, 1) := by decide +kernel
theorem dX3_leastTurn_4 : decode cX3_leastTurn 4 = .ok (.iload_n 2, 1) := by decide +kernel
theorem dX3_leastTurn_5 : decode cX3_leastTurn 5 = .ok (.aload_n 0, 1) := by decide +kernel
theorem dX3_leastTurn_6 : decode cX3_leastTurn 6 = .ok (.getfield 19, 3) := by decide +kernel
theorem dX3_leastTurn_9 : decode cX3_leastTurn 9 = .ok (.if_icmp .ge 24, 3) := by decide +kernel
theorem dX3_leastTurn_12 : decode cX3_leastTurn 12 = .ok (.aload_n 0, 1) := by decide +kernel
theorem dX3_leastTurn_13 : decode cX3_leastTurn 13 = .ok (.iload_n 2, 1) := by decide +kernel
theorem dX3_leastTurn_14 : decode cX3_leastTurn 14 = .ok (.invokevirtual 51, 3) := by decide +kernel
theorem dX3_leastTurn_17 : decode cX3_leastTurn 17 = .ok (.aload_n 0, 1) := by decide +kernel
theorem dX3_leastTurn_18 : decode cX3_leastTurn 18 = .ok (.iload_n 1, 1) := by decide +kernel
theorem dX3_leastTurn_19 : decode cX3_leastTurn 19 = .ok (.invokevirtual 51, 3) := by decide +kernel
theorem dX3_leastTurn_22 : decode cX3_leastTurn 22 = .ok (.if_icmp .ge 5, 3) := by decide +kernel
theorem dX3_leastTurn_25 : decode cX3_leastTurn 25 = .ok (.iload_n 2, 1) := by decide +kernel
theorem dX3_leastTurn_26 : decode cX3_leastTurn 26 = .ok (.istore_n 1, 1) := by decide +kernel
theorem dX3_leastTurn_27 : decode cX3_leastTurn 27 = .ok (.iinc 2 1, 3) := by decide +kernel
theorem dX3_leastTurn_30 : decode cX3_leastTurn 30 = .ok (.goto (-26), 3) := by decide +kernel
theorem dX3_leastTurn_33 : decode cX3_leastTurn 33 = .ok (.iload_n 1, 1) := by decide +kernel
theorem dX3_leastTurn_34 : decode cX3_leastTurn 34 = .ok (.ireturn, 1) := by decide +kernel
set_option maxRecDepth 20000 in
theorem ggX3_formNumber_X4_commonDivisor : GoodIn wsX3_formNumber wsX4_commonDivisor := goodIn_rq _ [7, 8, 9, 10, 11, 12, 13, 14] (by decide +kernel) (by decide +kernel)
set_option maxRecDepth 20000 in
theorem gX3_formNumber_X4_commonDivisor_n59 : GoodIn wsX3_formNumber (wsX4_commonDivisor) := ggX3_formNumber_X4_commonDivisor
set_option maxRecDepth 20000 in
theorem ggX3_formNumber_X4_discriminantOf : GoodIn wsX3_formNumber wsX4_discriminantOf := goodIn_rq _ [16] (by decide +kernel) (by decide +kernel)
set_option maxRecDepth 20000 in
theorem gX3_formNumber_X4_discriminantOf_n62 : GoodIn wsX3_formNumber (wsX4_discriminantOf) := ggX3_formNumber_X4_discriminantOf
theorem dX3_formNumber_0 : decode cX3_formNumber 0 = .ok (.aload_n 0, 1) := by decide +kernel
theorem dX3_formNumber_1 : decode cX3_formNumber 1 = .ok (.getfield 31, 3) := by decide +kernel
theorem dX3_formNumber_4 : decode cX3_formNumber 4 = .ok (.aload_n 0, 1) := by decide +kernel
theorem dX3_formNumber_5 : decode cX3_formNumber 5 = .ok (.getfield 34, 3) := by decide +kernel
theorem dX3_formNumber_8 : decode cX3_formNumber 8 = .ok (.aload_n 0, 1) := by decide +kernel
theorem dX3_formNumber_9 : decode cX3_formNumber 9 = .ok (.getfield 25, 3) := by decide +kernel
end
section
theorem dX3_formNumber_12 : decode cX3_formNumber 12 = .ok (.isub, 1) := by decide +kernel
theorem dX3_formNumber_13 : decode cX3_formNumber 13 = .ok (.invokestatic 59, 3) := by decide +kernel
theorem dX3_formNumber_16 : decode cX3_formNumber 16 = .ok (.aload_n 0, 1) := by decide +kernel
theorem dX3_formNumber_17 : decode cX3_formNumber 17 = .ok (.getfield 28, 3) := by decide +kernel
theorem dX3_formNumber_20 : decode cX3_formNumber 20 = .ok (.invokestatic 59, 3) := by decide +kernel
theorem dX3_formNumber_23 : decode cX3_formNumber 23 = .ok (.istore_n 2, 1) := by decide +kernel
theorem dX3_formNumber_24 : decode cX3_formNumber 24 = .ok (.aload_n 0, 1) := by decide +kernel
theorem dX3_formNumber_25 : decode cX3_formNumber 25 = .ok (.getfield 31, 3) := by decide +kernel
theorem dX3_formNumber_28 : decode cX3_formNumber 28 = .ok (.iload_n 2, 1) := by decide +kernel
theorem dX3_formNumber_29 : decode cX3_formNumber 29 = .ok (.idiv, 1) := by decide +kernel
theorem dX3_formNumber_30 : decode cX3_formNumber 30 = .ok (.istore_n 3, 1) := by decide +kernel
theorem dX3_formNumber_31 : decode cX3_formNumber 31 = .ok (.aload_n 0, 1) := by decide +kernel
theorem dX3_formNumber_32 : decode cX3_formNumber 32 = .ok (.getfield 34, 3) := by decide +kernel
theorem dX3_formNumber_35 : decode cX3_formNumber 35 = .ok (.aload_n 0, 1) := by decide +kernel
theorem dX3_formNumber_36 : decode cX3_formNumber 36 = .ok (.getfield 25, 3) := by decide +kernel
theorem dX3_formNumber_39 : decode cX3_formNumber 39 = .ok (.isub, 1) := by decide +kernel
theorem dX3_formNumber_40 : decode cX3_formNumber 40 = .ok (.iload_n 2, 1) := by decide +kernel
theorem dX3_formNumber_41 : decode cX3_formNumber 41 = .ok (.idiv, 1) := by decide +kernel
theorem dX3_formNumber_42 : decode cX3_formNumber 42 = .ok (.istore 4, 2) := by decide +kernel
theorem dX3_formNumber_44 : decode cX3_formNumber 44 = .ok (.aload_n 0, 1) := by decide +kernel
theorem dX3_formNumber_45 : decode cX3_formNumber 45 = .ok (.getfield 28, 3) := by decide +kernel
theorem dX3_formNumber_48 : decode cX3_formNumber 48 = .ok (.ineg, 1) := by decide +kernel
theorem dX3_formNumber_49 : decode cX3_formNumber 49 = .ok (.iload_n 2, 1) := by decide +kernel
theorem dX3_formNumber_50 : decode cX3_formNumber 50 = .ok (.idiv, 1) := by decide +kernel
theorem dX3_formNumber_51 : decode cX3_formNumber 51 = .ok (.istore 5, 2) := by decide +kernel
theorem dX3_formNumber_53 : decode cX3_formNumber 53 = .ok (.iload_n 1, 1) := by decide +kernel
theorem dX3_formNumber_54 : decode cX3_formNumber 54 = .ok (.tableswitch 40 0 3 #[30, 32, 35, 38], 30) := by decide +kernel
theorem dX3_formNumber_84 : decode cX3_formNumber 84 = .ok (.iload_n 3, 1) := by decide +kernel
theorem dX3_formNumber_85 : decode cX3_formNumber 85 = .ok (.ireturn, 1) := by decide +kernel
theorem dX3_formNumber_86 : decode cX3_formNumber 86 = .ok (.iload 4, 2) := by decide +kernel
theorem dX3_formNumber_88 : decode cX3_formNumber 88 = .ok (.ireturn, 1) := by decide +kernel
theorem dX3_formNumber_89 : decode cX3_formNumber 89 = .ok (.iload 5, 2) := by decide +kernel
theorem dX3_formNumber_91 : decode cX3_formNumber 91 = .ok (.ireturn, 1) := by decide +kernel
theorem dX3_formNumber_92 : decode cX3_formNumber 92 = .ok (.iload_n 2, 1) := by decide +kernel
theorem dX3_formNumber_93 : decode cX3_formNumber 93 = .ok (.ireturn, 1) := by decide +kernel
theorem dX3_formNumber_94 : decode cX3_formNumber 94 = .ok (.iload_n 3, 1) := by decide +kernel
theorem dX3_formNumber_95 : decode cX3_formNumber 95 = .ok (.iload 4, 2) := by decide +kernel
theorem dX3_formNumber_97 : decode cX3_formNumber 97 = .ok (.iload 5, 2) := by decide +kernel
theorem dX3_formNumber_99 : decode cX3_formNumber 99 = .ok (.invokestatic 62, 3) := by decide +kernel
theorem dX3_formNumber_102 : decode cX3_formNumber 102 = .ok (.ireturn, 1) := by decide +kernel
set_option maxRecDepth 20000 in
theorem ggX3_crossings_X3_bitAt : GoodIn wsX3_crossings wsX3_bitAt := goodIn_rq _ [6, 7, 1, 12, 13, 14, 15, 16, 17, 18] (by decide +kernel) (by decide +kernel)
set_option maxRecDepth 20000 in
theorem gX3_crossings_X3_bitAt : GoodIn wsX3_crossings (wsV RX3 37 RX3 yX3_bitAt wsX3_bitAt) := goodIn_app (goodIn_of _ (by decide +kernel)) ggX3_crossings_X3_bitAt
set_option maxRecDepth 20000 in
theorem ggX3_crossings_X3_crosses : GoodIn wsX3_crossings wsX3_crosses := goodIn_rq _ [11, 1, 2, 3, 4, 5, 6, 7, 12, 13, 14, 15, 16, 17, 18] (by decide +kernel) (by decide +kernel)
set_option maxRecDepth 20000 in
theorem gX3_crossings_X3_crosses : GoodIn wsX3_crossings (wsV RX3 66 RX3 yX3_crosses wsX3_crosses) := goodIn_app (goodIn_of _ (by decide +kernel)) ggX3_crossings_X3_crosses
theorem dX3_crossings_0 : decode cX3_crossings 0 = .ok (.iconst 0, 1) := by decide +kernel
theorem dX3_crossings_1 : decode cX3_crossings 1 = .ok (.istore_n 2, 1) := by decide +kernel
theorem dX3_crossings_2 : decode cX3_crossings 2 = .ok (.iconst 0, 1) := by decide +kernel
theorem dX3_crossings_3 : decode cX3_crossings 3 = .ok (.istore_n 3, 1) := by decide +kernel
theorem dX3_crossings_4 : decode cX3_crossings 4 = .ok (.iload_n 3, 1) := by decide +kernel
theorem dX3_crossings_5 : decode cX3_crossings 5 = .ok (.aload_n 0, 1) := by decide +kernel
theorem dX3_crossings_6 : decode cX3_crossings 6 = .ok (.getfield 19, 3) := by decide +kernel
theorem dX3_crossings_9 : decode cX3_crossings 9 = .ok (.if_icmp .ge 55, 3) := by decide +kernel
theorem dX3_crossings_12 : decode cX3_crossings 12 = .ok (.iconst 0, 1) := by decide +kernel
theorem dX3_crossings_13 : decode cX3_crossings 13 = .ok (.istore 4, 2) := by decide +kernel
theorem dX3_crossings_15 : decode cX3_crossings 15 = .ok (.iload 4, 2) := by decide +kernel
theorem dX3_crossings_17 : decode cX3_crossings 17 = .ok (.aload_n 1, 1) := by decide +kernel
theorem dX3_crossings_18 : decode cX3_crossings 18 = .ok (.getfield 19, 3) := by decide +kernel
theorem dX3_crossings_21 : decode cX3_crossings 21 = .ok (.if_icmp .ge 37, 3) := by decide +kernel
theorem dX3_crossings_24 : decode cX3_crossings 24 = .ok (.aload_n 0, 1) := by decide +kernel
theorem dX3_crossings_25 : decode cX3_crossings 25 = .ok (.iload_n 3, 1) := by decide +kernel
theorem dX3_crossings_26 : decode cX3_crossings 26 = .ok (.invokevirtual 37, 3) := by decide +kernel
theorem dX3_crossings_29 : decode cX3_crossings 29 = .ok (.aload_n 1, 1) := by decide +kernel
theorem dX3_crossings_30 : decode cX3_crossings 30 = .ok (.iload 4, 2) := by decide +kernel
theorem dX3_crossings_32 : decode cX3_crossings 32 = .ok (.invokevirtual 37, 3) := by decide +kernel
theorem dX3_crossings_35 : decode cX3_crossings 35 = .ok (.if_icmp .eq 17, 3) := by decide +kernel
theorem dX3_crossings_38 : decode cX3_crossings 38 = .ok (.aload_n 0, 1) := by decide +kernel
theorem dX3_crossings_39 : decode cX3_crossings 39 = .ok (.iload_n 3, 1) := by decide +kernel
theorem dX3_crossings_40 : decode cX3_crossings 40 = .ok (.aload_n 1, 1) := by decide +kernel
theorem dX3_crossings_41 : decode cX3_crossings 41 = .ok (.iload 4, 2) := by decide +kernel
theorem dX3_crossings_43 : decode cX3_crossings 43 = .ok (.invokevirtual 66, 3) := by decide +kernel
theorem dX3_crossings_46 : decode cX3_crossings 46 = .ok (.ifCond .eq 6, 3) := by decide +kernel
theorem dX3_crossings_49 : decode cX3_crossings 49 = .ok (.iinc 2 1, 3) := by decide +kernel
theorem dX3_crossings_52 : decode cX3_crossings 52 = .ok (.iinc 4 1, 3) := by decide +kernel
theorem dX3_crossings_55 : decode cX3_crossings 55 = .ok (.goto (-40), 3) := by decide +kernel
theorem dX3_crossings_58 : decode cX3_crossings 58 = .ok (.iinc 3 1, 3) := by decide +kernel
theorem dX3_crossings_61 : decode cX3_crossings 61 = .ok (.goto (-57), 3) := by decide +kernel
theorem dX3_crossings_64 : decode cX3_crossings 64 = .ok (.iload_n 2, 1) := by decide +kernel
theorem dX3_crossings_65 : decode cX3_crossings 65 = .ok (.ireturn, 1) := by decide +kernel
set_option maxRecDepth 20000 in
theorem ggX3_crosses_X3_bitAt : GoodIn wsX3_crosses wsX3_bitAt := goodIn_rq _ [6, 7, 1, 8, 9, 10, 11, 12, 13, 14] (by decide +kernel) (by decide +kernel)
set_option maxRecDepth 20000 in
theorem gX3_crosses_X3_bitAt : GoodIn wsX3_crosses (wsV RX3 37 RX3 yX3_bitAt wsX3_bitAt) := goodIn_app (goodIn_of _ (by decide +kernel)) ggX3_crosses_X3_bitAt
theorem dX3_crosses_0 : decode cX3_crosses 0 = .ok (.iload_n 1, 1) := by decide +kernel
theorem dX3_crosses_1 : decode cX3_crosses 1 = .ok (.istore 4, 2) := by decide +kernel
theorem dX3_crosses_3 : decode cX3_crosses 3 = .ok (.iload_n 3, 1) := by decide +kernel
theorem dX3_crosses_4 : decode cX3_crosses 4 = .ok (.istore 5, 2) := by decide +kernel
theorem dX3_crosses_6 : decode cX3_crosses 6 = .ok (.aload_n 0, 1) := by decide +kernel
theorem dX3_crosses_7 : decode cX3_crosses 7 = .ok (.getfield 19, 3) := by decide +kernel
theorem dX3_crosses_10 : decode cX3_crosses 10 = .ok (.aload_n 2, 1) := by decide +kernel
theorem dX3_crosses_11 : decode cX3_crosses 11 = .ok (.getfield 19, 3) := by decide +kernel
theorem dX3_crosses_14 : decode cX3_crosses 14 = .ok (.imul, 1) := by decide +kernel
theorem dX3_crosses_15 : decode cX3_crosses 15 = .ok (.istore 6, 2) := by decide +kernel
theorem dX3_crosses_17 : decode cX3_crosses 17 = .ok (.iload 6, 2) := by decide +kernel
theorem dX3_crosses_19 : decode cX3_crosses 19 = .ok (.ifCond .le 84, 3) := by decide +kernel
theorem dX3_crosses_22 : decode cX3_crosses 22 = .ok (.iload 4, 2) := by decide +kernel
theorem dX3_crosses_24 : decode cX3_crosses 24 = .ok (.ifCond .le 10, 3) := by decide +kernel
theorem dX3_crosses_27 : decode cX3_crosses 27 = .ok (.iload 4, 2) := by decide +kernel
theorem dX3_crosses_29 : decode cX3_crosses 29 = .ok (.iconst 1, 1) := by decide +kernel
theorem dX3_crosses_30 : decode cX3_crosses 30 = .ok (.isub, 1) := by decide +kernel
theorem dX3_crosses_31 : decode cX3_crosses 31 = .ok (.goto 9, 3) := by decide +kernel
theorem dX3_crosses_34 : decode cX3_crosses 34 = .ok (.aload_n 0, 1) := by decide +kernel
theorem dX3_crosses_35 : decode cX3_crosses 35 = .ok (.getfield 19, 3) := by decide +kernel
theorem dX3_crosses_38 : decode cX3_crosses 38 = .ok (.iconst 1, 1) := by decide +kernel
theorem dX3_crosses_39 : decode cX3_crosses 39 = .ok (.isub, 1) := by decide +kernel
theorem dX3_crosses_40 : decode cX3_crosses 40 = .ok (.istore 4, 2) := by decide +kernel
theorem dX3_crosses_42 : decode cX3_crosses 42 = .ok (.iload 5, 2) := by decide +kernel
theorem dX3_crosses_44 : decode cX3_crosses 44 = .ok (.ifCond .le 10, 3) := by decide +kernel
theorem dX3_crosses_47 : decode cX3_crosses 47 = .ok (.iload 5, 2) := by decide +kernel
theorem dX3_crosses_49 : decode cX3_crosses 49 = .ok (.iconst 1, 1) := by decide +kernel
theorem dX3_crosses_50 : decode cX3_crosses 50 = .ok (.isub, 1) := by decide +kernel
theorem dX3_crosses_51 : decode cX3_crosses 51 = .ok (.goto 9, 3) := by decide +kernel
theorem dX3_crosses_54 : decode cX3_crosses 54 = .ok (.aload_n 2, 1) := by decide +kernel
theorem dX3_crosses_55 : decode cX3_crosses 55 = .ok (.getfield 19, 3) := by decide +kernel
theorem dX3_crosses_58 : decode cX3_crosses 58 = .ok (.iconst 1, 1) := by decide +kernel
theorem dX3_crosses_59 : decode cX3_crosses 59 = .ok (.isub, 1) := by decide +kernel
theorem dX3_crosses_60 : decode cX3_crosses 60 = .ok (.istore 5, 2) := by decide +kernel
theorem dX3_crosses_62 : decode cX3_crosses 62 = .ok (.aload_n 0, 1) := by decide +kernel
theorem dX3_crosses_63 : decode cX3_crosses 63 = .ok (.iload 4, 2) := by decide +kernel
theorem dX3_crosses_65 : decode cX3_crosses 65 = .ok (.invokevirtual 37, 3) := by decide +kernel
theorem dX3_crosses_68 : decode cX3_crosses 68 = .ok (.aload_n 2, 1) := by decide +kernel
theorem dX3_crosses_69 : decode cX3_crosses 69 = .ok (.iload 5, 2) := by decide +kernel
theorem dX3_crosses_71 : decode cX3_crosses 71 = .ok (.invokevirtual 37, 3) := by decide +kernel
theorem dX3_crosses_74 : decode cX3_crosses 74 = .ok (.if_icmp .eq 23, 3) := by decide +kernel
theorem dX3_crosses_77 : decode cX3_crosses 77 = .ok (.aload_n 0, 1) := by decide +kernel
theorem dX3_crosses_78 : decode cX3_crosses 78 = .ok (.iload 4, 2) := by decide +kernel
theorem dX3_crosses_80 : decode cX3_crosses 80 = .ok (.invokevirtual 37, 3) := by decide +kernel
theorem dX3_crosses_83 : decode cX3_crosses 83 = .ok (.aload_n 0, 1) := by decide +kernel
theorem dX3_crosses_84 : decode cX3_crosses 84 = .ok (.iload_n 1, 1) := by decide +kernel
theorem dX3_crosses_85 : decode cX3_crosses 85 = .ok (.invokevirtual 37, 3) := by decide +kernel
theorem dX3_crosses_88 : decode cX3_crosses 88 = .ok (.if_icmp .eq 7, 3) := by decide +kernel
theorem dX3_crosses_91 : decode cX3_crosses 91 = .ok (.iconst 1, 1) := by decide +kernel
theorem dX3_crosses_92 : decode cX3_crosses 92 = .ok (.goto 4, 3) := by decide +kernel
theorem dX3_crosses_95 : decode cX3_crosses 95 = .ok (.iconst 0, 1) := by decide +kernel
theorem dX3_crosses_96 : decode cX3_crosses 96 = .ok (.ireturn, 1) := by decide +kernel
theorem dX3_crosses_97 : decode cX3_crosses 97 = .ok (.iinc 6 (-1), 3) := by decide +kernel
theorem dX3_crosses_100 : decode cX3_crosses 100 = .ok (.goto (-83), 3) := by decide +kernel
theorem dX3_crosses_103 : decode cX3_crosses 103 = .ok (.iconst 0, 1) := by decide +kernel
theorem dX3_crosses_104 : decode cX3_crosses 104 = .ok (.ireturn, 1) := by decide +kernel
set_option maxRecDepth 20000 in
theorem ggX4_init_X1_init : GoodIn wsX4_init wsX1_init := goodIn_rq _ [19, 20, 2, 3, 21, 22, 56, 57, 58, 59, 60, 61] (by decide +kernel) (by decide +kernel)
set_option maxRecDepth 20000 in
theorem gX4_init_X1_init_n9 : GoodIn wsX4_init (wsX1_init) := ggX4_init_X1_init
set_option maxRecDepth 20000 in
theorem ggX4_init_X2_init : GoodIn wsX4_init wsX2_init := goodIn_rq _ [24, 25, 2, 3, 26, 21, 27, 28, 68, 69, 70, 71, 72] (by decide +kernel) (by decide +kernel)
set_option maxRecDepth 20000 in
theorem gX4_init_X2_init_n24 : GoodIn wsX4_init (wsX2_init) := ggX4_init_X2_init
set_option maxRecDepth 20000 in
theorem ggX4_init_X0_init : GoodIn wsX4_init wsX0_init := goodIn_rq _ [30, 31, 2, 3, 32, 33, 34, 35, 36, 37, 38, 39, 40, 41, 42, 43, 44, 45, 46, 47, 48, 49, 50, 51, 52, 53, 54, 55, 79, 80, 81, 82, 83, 84, 85, 73, 74, 75, 76, 77, 78] (by decide +kernel) (by decide +kernel)
set_option maxRecDepth 20000 in
theorem gX4_init_X0_init_n31 : GoodIn wsX4_init (wsX0_init) := ggX4_init_X0_init
theorem dX4_init_0 : decode cX4_init 0 = .ok (.aload_n 0, 1) := by decide +kernel
theorem dX4_init_1 : decode cX4_init 1 = .ok (.invokespecial 1, 3) := by decide +kernel
theorem dX4_init_4 : decode cX4_init 4 = .ok (.aload_n 0, 1) := by decide +kernel
theorem dX4_init_5 : decode cX4_init 5 = .ok (.new 7, 3) := by decide +kernel
theorem dX4_init_8 : decode cX4_init 8 = .ok (.dup, 1) := by decide +kernel
theorem dX4_init_9 : decode cX4_init 9 = .ok (.invokespecial 9, 3) := by decide +kernel
theorem dX4_init_12 : decode cX4_init 12 = .ok (.putfield 10, 3) := by decide +kernel
theorem dX4_init_15 : decode cX4_init 15 = .ok (.aload_n 0, 1) := by decide +kernel
theorem dX4_init_16 : decode cX4_init 16 = .ok (.bipush 6, 2) := by decide +kernel
theorem dX4_init_18 : decode cX4_init 18 = .ok (.anewarray 16, 3) := by decide +kernel
theorem dX4_init_21 : decode cX4_init 21 = .ok (.putfield 18, 3) := by decide +kernel
theorem dX4_init_24 : decode cX4_init 24 = .ok (.aload_n 0, 1) := by decide +kernel
theorem dX4_init_25 : decode cX4_init 25 = .ok (.new 22, 3) := by decide +kernel
theorem dX4_init_28 : decode cX4_init 28 = .ok (.dup, 1) := by decide +kernel
theorem dX4_init_29 : decode cX4_init 29 = .ok (.invokespecial 24, 3) := by decide +kernel
theorem dX4_init_32 : decode cX4_init 32 = .ok (.putfield 25, 3) := by decide +kernel
theorem dX4_init_35 : decode cX4_init 35 = .ok (.aload_n 0, 1) := by decide +kernel
theorem dX4_init_36 : decode cX4_init 36 = .ok (.new 29, 3) := by decide +kernel
theorem dX4_init_39 : decode cX4_init 39 = .ok (.dup, 1) := by decide +kernel
theorem dX4_init_40 : decode cX4_init 40 = .ok (.invokespecial 31, 3) := by decide +kernel
theorem dX4_init_43 : decode cX4_init 43 = .ok (.putfield 32, 3) := by decide +kernel
theorem dX4_init_46 : decode cX4_init 46 = .ok (.return_, 1) := by decide +kernel
set_option maxRecDepth 20000 in
theorem ggX4_letter_X1_append : GoodIn wsX4_letter wsX1_append := goodIn_rq _ [9, 10, 11, 12, 13, 14, 15, 8, 16, 17, 18, 19, 26, 27, 28, 29, 30, 31] (by decide +kernel) (by decide +kernel)
set_option maxRecDepth 20000 in
theorem gX4_letter_X1_append : GoodIn wsX4_letter (wsV RX4 42 RX1 yX1_append wsX1_append) := goodIn_app (goodIn_of _ (by decide +kernel)) ggX4_letter_X1_append
theorem dX4_letter_0 : decode cX4_letter 0 = .ok (.iload_n 1, 1) := by decide +kernel
theorem dX4_letter_1 : decode cX4_letter 1 = .ok (.bipush 32, 2) := by decide +kernel
theorem dX4_letter_3 : decode cX4_letter 3 = .ok (.if_icmp .lt 9, 3) := by decide +kernel
theorem dX4_letter_6 : decode cX4_letter 6 = .ok (.iload_n 1, 1) := by decide +kernel
theorem dX4_letter_7 : decode cX4_letter 7 = .ok (.bipush 126, 2) := by decide +kernel
theorem dX4_letter_9 : decode cX4_letter 9 = .ok (.if_icmp .le 6, 3) := by decide +kernel
theorem dX4_letter_12 : decode cX4_letter 12 = .ok (.ldc 36, 2) := by decide +kernel
theorem dX4_letter_14 : decode cX4_letter 14 = .ok (.ireturn, 1) := by decide +kernel
theorem dX4_letter_15 : decode cX4_letter 15 = .ok (.aload_n 0, 1) := by decide +kernel
theorem dX4_letter_16 : decode cX4_letter 16 = .ok (.getfield 10, 3) := by decide +kernel
theorem dX4_letter_19 : decode cX4_letter 19 = .ok (.getfield 37, 3) := by decide +kernel
theorem dX4_letter_22 : decode cX4_letter 22 = .ok (.bipush 20, 2) := by decide +kernel
theorem dX4_letter_24 : decode cX4_letter 24 = .ok (.if_icmp .lt 6, 3) := by decide +kernel
theorem dX4_letter_27 : decode cX4_letter 27 = .ok (.ldc 41, 2) := by decide +kernel
theorem dX4_letter_29 : decode cX4_letter 29 = .ok (.ireturn, 1) := by decide +kernel
theorem dX4_letter_30 : decode cX4_letter 30 = .ok (.aload_n 0, 1) := by decide +kernel
theorem dX4_letter_31 : decode cX4_letter 31 = .ok (.getfield 10, 3) := by decide +kernel
theorem dX4_letter_34 : decode cX4_letter 34 = .ok (.iload_n 1, 1) := by decide +kernel
theorem dX4_letter_35 : decode cX4_letter 35 = .ok (.invokevirtual 42, 3) := by decide +kernel
theorem dX4_letter_38 : decode cX4_letter 38 = .ok (.aload_n 0, 1) := by decide +kernel
theorem dX4_letter_39 : decode cX4_letter 39 = .ok (.getfield 10, 3) := by decide +kernel
theorem dX4_letter_42 : decode cX4_letter 42 = .ok (.getfield 37, 3) := by decide +kernel
theorem dX4_letter_45 : decode cX4_letter 45 = .ok (.ireturn, 1) := by decide +kernel
set_option maxRecDepth 20000 in
theorem ggX4_blank_X1_clear : GoodIn wsX4_blank wsX1_clear := goodIn_rq _ [7, 8, 9, 10, 11, 12, 19, 20, 21, 22, 23, 24] (by decide +kernel) (by decide +kernel)
set_option maxRecDepth 20000 in
theorem gX4_blank_X1_clear : GoodIn wsX4_blank (wsV RX4 46 RX1 yX1_clear wsX1_clear) := goodIn_app (goodIn_of _ (by decide +kernel)) ggX4_blank_X1_clear
theorem dX4_blank_0 : decode cX4_blank 0 = .ok (.aload_n 0, 1) := by decide +kernel
theorem dX4_blank_1 : decode cX4_blank 1 = .ok (.getfield 10, 3) := by decide +kernel
theorem dX4_blank_4 : decode cX4_blank 4 = .ok (.getfield 37, 3) := by decide +kernel
theorem dX4_blank_7 : decode cX4_blank 7 = .ok (.istore_n 1, 1) := by decide +kernel
theorem dX4_blank_8 : decode cX4_blank 8 = .ok (.aload_n 0, 1) := by decide +kernel
theorem dX4_blank_9 : decode cX4_blank 9 = .ok (.getfield 10, 3) := by decide +kernel
theorem dX4_blank_12 : decode cX4_blank 12 = .ok (.invokevirtual 46, 3) := by decide +kernel
theorem dX4_blank_15 : decode cX4_blank 15 = .ok (.iload_n 1, 1) := by decide +kernel
theorem dX4_blank_16 : decode cX4_blank 16 = .ok (.ireturn, 1) := by decide +kernel
theorem dX4_fault_0 : decode cX4_fault 0 = .ok (.aload_n 0, 1) := by decide +kernel
theorem dX4_fault_1 : decode cX4_fault 1 = .ok (.getfield 10, 3) := by decide +kernel
theorem dX4_fault_4 : decode cX4_fault 4 = .ok (.getfield 49, 3) := by decide +kernel
theorem dX4_fault_7 : decode cX4_fault 7 = .ok (.ireturn, 1) := by decide +kernel
set_option maxRecDepth 20000 in
theorem ggX4_word_X1_isWord : GoodIn wsX4_word wsX1_isWord := goodIn_rq _ [10, 11, 12, 58, 59, 60, 61, 62, 63] (by decide +kernel) (by decide +kernel)
set_option maxRecDepth 20000 in
theorem gX4_word_X1_isWord : GoodIn wsX4_word (wsV RX4 52 RX1 yX1_isWord wsX1_isWord) := goodIn_app (goodIn_of _ (by decide +kernel)) ggX4_word_X1_isWord
set_option maxRecDepth 20000 in
theorem ggX4_word_X4_addRoad : GoodIn wsX4_word wsX4_addRoad := goodIn_rq _ [17, 2, 18, 19, 20, 21, 22, 23, 24, 25, 26, 27, 28, 29, 30, 31, 32, 33, 34, 35, 36, 37, 38, 39, 40, 41, 42, 43, 44, 52, 53, 54, 55, 56, 57, 64, 65, 66, 67, 68, 69, 70] (by decide +kernel) (by decide +kernel)
set_option maxRecDepth 20000 in
theorem gX4_word_X4_addRoad : GoodIn wsX4_word (wsV RX4 63 RX4 yX4_addRoad wsX4_addRoad) := goodIn_app (goodIn_of _ (by decide +kernel)) ggX4_word_X4_addRoad
set_option maxRecDepth 20000 in
theorem ggX4_word_X1_clear : GoodIn wsX4_word wsX1_clear := goodIn_rq _ [48, 11, 12, 49, 50, 51, 58, 59, 60, 61, 62, 63] (by decide +kernel) (by decide +kernel)
set_option maxRecDepth 20000 in
theorem gX4_word_X1_clear : GoodIn wsX4_word (wsV RX4 46 RX1 yX1_clear wsX1_clear) := goodIn_app (goodIn_of _ (by decide +kernel)) ggX4_word_X1_clear
theorem dX4_word_0 : decode cX4_word 0 = .ok (.aload_n 0, 1) := by decide +kernel
theorem dX4_word_1 : decode cX4_word 1 = .ok (.getfield 10, 3) := by decide +kernel
theorem dX4_word_4 : decode cX4_word 4 = .ok (.invokevirtual 52, 3) := by decide +kernel
theorem dX4_word_7 : decode cX4_word 7 = .ok (.ifCond .ne 6, 3) := by decide +kernel
theorem dX4_word_10 : decode cX4_word 10 = .ok (.ldc 56, 2) := by decide +kernel
theorem dX4_word_12 : decode cX4_word 12 = .ok (.ireturn, 1) := by decide +kernel
theorem dX4_word_13 : decode cX4_word 13 = .ok (.aload_n 0, 1) := by decide +kernel
theorem dX4_word_14 : decode cX4_word 14 = .ok (.aload_n 0, 1) := by decide +kernel
theorem dX4_word_15 : decode cX4_word 15 = .ok (.getfield 10, 3) := by decide +kernel
theorem dX4_word_18 : decode cX4_word 18 = .ok (.getfield 57, 3) := by decide +kernel
theorem dX4_word_21 : decode cX4_word 21 = .ok (.aload_n 0, 1) := by decide +kernel
theorem dX4_word_22 : decode cX4_word 22 = .ok (.getfield 10, 3) := by decide +kernel
theorem dX4_word_25 : decode cX4_word 25 = .ok (.getfield 60, 3) := by decide +kernel
theorem dX4_word_28 : decode cX4_word 28 = .ok (.invokevirtual 63, 3) := by decide +kernel
theorem dX4_word_31 : decode cX4_word 31 = .ok (.istore_n 1, 1) := by decide +kernel
theorem dX4_word_32 : decode cX4_word 32 = .ok (.iload_n 1, 1) := by decide +kernel
theorem dX4_word_33 : decode cX4_word 33 = .ok (.ifCond .lt 20, 3) := by decide +kernel
theorem dX4_word_36 : decode cX4_word 36 = .ok (.aload_n 0, 1) := by decide +kernel
theorem dX4_word_37 : decode cX4_word 37 = .ok (.getfield 10, 3) := by decide +kernel
theorem dX4_word_40 : decode cX4_word 40 = .ok (.invokevirtual 46, 3) := by decide +kernel
theorem dX4_word_43 : decode cX4_word 43 = .ok (.aload_n 0, 1) := by decide +kernel
theorem dX4_word_44 : decode cX4_word 44 = .ok (.dup, 1) := by decide +kernel
theorem dX4_word_45 : decode cX4_word 45 = .ok (.getfield 67, 3) := by decide +kernel
theorem dX4_word_48 : decode cX4_word 48 = .ok (.iconst 1, 1) := by decide +kernel
theorem dX4_word_49 : decode cX4_word 49 = .ok (.iadd, 1) := by decide +kernel
theorem dX4_word_50 : decode cX4_word 50 = .ok (.putfield 67, 3) := by decide +kernel
theorem dX4_word_53 : decode cX4_word 53 = .ok (.iload_n 1, 1) := by decide +kernel
theorem dX4_word_54 : decode cX4_word 54 = .ok (.ireturn, 1) := by decide +kernel
set_option maxRecDepth 20000 in
theorem ggX4_road_X4_roadAt : GoodIn wsX4_road wsX4_roadAt := goodIn_rq _ [9, 10, 11, 73, 74, 75, 76, 77, 78] (by decide +kernel) (by decide +kernel)
set_option maxRecDepth 20000 in
theorem gX4_road_X4_roadAt : GoodIn wsX4_road (wsV RX4 70 RX4 yX4_roadAt wsX4_roadAt) := goodIn_app (goodIn_of _ (by decide +kernel)) ggX4_road_X4_roadAt
set_option maxRecDepth 20000 in
theorem ggX4_road_J6_bitCount_0f7a4 : GoodIn wsX4_road wsJ6_bitCount_0f7a4 := goodIn_rq _ [15, 16, 17, 18] (by decide +kernel) (by decide +kernel)
set_option maxRecDepth 20000 in
theorem gX4_road_J6_bitCount_0f7a4 : GoodIn wsX4_road (va_wsS RX4 77 yJ6_bitCount_0f7a4 wsJ6_bitCount_0f7a4) := goodIn_app (goodIn_of _ (by decide +kernel)) ggX4_road_J6_bitCount_0f7a4
set_option maxRecDepth 20000 in
theorem ggX4_road_X3_period : GoodIn wsX4_road wsX3_period := goodIn_rq _ [23, 24, 25, 26, 27, 28, 29, 22, 30, 31, 32, 33, 34, 35, 66, 67, 68, 69, 70, 71, 72] (by decide +kernel) (by decide +kernel)
set_option maxRecDepth 20000 in
theorem gX4_road_X3_period : GoodIn wsX4_road (wsV RX4 83 RX3 yX3_period wsX3_period) := goodIn_app (goodIn_of _ (by decide +kernel)) ggX4_road_X3_period
set_option maxRecDepth 20000 in
theorem ggX4_road_X3_leastTurn : GoodIn wsX4_road wsX3_leastTurn := goodIn_rq _ [39, 26, 31, 32, 33, 22, 34, 24, 35, 66, 67, 68, 69, 70, 71, 72] (by decide +kernel) (by decide +kernel)
set_option maxRecDepth 20000 in
theorem gX4_road_X3_leastTurn : GoodIn wsX4_road (wsV RX4 87 RX3 yX3_leastTurn wsX3_leastTurn) := goodIn_app (goodIn_of _ (by decide +kernel)) ggX4_road_X3_leastTurn
set_option maxRecDepth 20000 in
theorem ggX4_road_X3_traceSum : GoodIn wsX4_road wsX3_traceSum := goodIn_rq _ [43, 44, 45, 66, 67, 68, 69, 70, 71, 72] (by decide +kernel) (by decide +kernel)
set_option maxRecDepth 20000 in
theorem gX4_road_X3_traceSum : GoodIn wsX4_road (wsV RX4 90 RX3 yX3_traceSum wsX3_traceSum) := goodIn_app (goodIn_of _ (by decide +kernel)) ggX4_road_X3_traceSum
set_option maxRecDepth 20000 in
theorem ggX4_road_X3_isClosed : GoodIn wsX4_road wsX3_isClosed := goodIn_rq _ [49, 24, 35, 66, 67, 68, 69, 70, 71, 72] (by decide +kernel) (by decide +kernel)
set_option maxRecDepth 20000 in
theorem gX4_road_X3_isClosed : GoodIn wsX4_road (wsV RX4 93 RX3 yX3_isClosed wsX3_isClosed) := goodIn_app (goodIn_of _ (by decide +kernel)) ggX4_road_X3_isClosed
set_option maxRecDepth 20000 in
theorem ggX4_road_X3_reversal : GoodIn wsX4_road wsX3_reversal := goodIn_rq _ [53, 26, 54, 55, 56, 22, 57, 24, 66, 67, 68, 69, 70, 71, 72] (by decide +kernel) (by decide +kernel)
set_option maxRecDepth 20000 in
theorem gX4_road_X3_reversal : GoodIn wsX4_road (wsV RX4 96 RX3 yX3_reversal wsX3_reversal) := goodIn_app (goodIn_of _ (by decide +kernel)) ggX4_road_X3_reversal
set_option maxRecDepth 20000 in
theorem ggX4_road_X3_isConjugate : GoodIn wsX4_road wsX3_isConjugate := goodIn_rq _ [61, 25, 27, 28, 29, 22, 30, 26, 31, 32, 33, 34, 24, 35, 66, 67, 68, 69, 70, 71, 72] (by decide +kernel) (by decide +kernel)
set_option maxRecDepth 20000 in
theorem gX4_road_X3_isConjugate : GoodIn wsX4_road (wsV RX4 99 RX3 yX3_isConjugate wsX3_isConjugate) := goodIn_app (goodIn_of _ (by decide +kernel)) ggX4_road_X3_isConjugate
set_option maxRecDepth 20000 in
theorem ggX4_road_X3_complement : GoodIn wsX4_road wsX3_complement := goodIn_rq _ [65, 35, 66, 67, 68, 69, 70, 71, 72] (by decide +kernel) (by decide +kernel)
set_option maxRecDepth 20000 in
theorem gX4_road_X3_complement : GoodIn wsX4_road (wsV RX4 103 RX3 yX3_complement wsX3_complement) := goodIn_app (goodIn_of _ (by decide +kernel)) ggX4_road_X3_complement
theorem dX4_road_0 : decode cX4_road 0 = .ok (.aload_n 0, 1) := by decide +kernel
theorem dX4_road_1 : decode cX4_road 1 = .ok (.iload_n 1, 1) := by decide +kernel
theorem dX4_road_2 : decode cX4_road 2 = .ok (.invokevirtual 70, 3) := by decide +kernel
theorem dX4_road_5 : decode cX4_road 5 = .ok (.astore_n 3, 1) := by decide +kernel
theorem dX4_road_6 : decode cX4_road 6 = .ok (.aload_n 3, 1) := by decide +kernel
theorem dX4_road_7 : decode cX4_road 7 = .ok (.ifnonnull 6, 3) := by decide +kernel
theorem dX4_road_10 : decode cX4_road 10 = .ok (.ldc 74, 2) := by decide +kernel
theorem dX4_road_12 : decode cX4_road 12 = .ok (.ireturn, 1) := by decide +kernel
theorem dX4_road_13 : decode cX4_road 13 = .ok (.iload_n 2, 1) := by decide +kernel
theorem dX4_road_14 : decode cX4_road 14 = .ok (.tableswitch 167 0 9 #[54, 59, 72, 80, 85, 90, 95, 108, 125, 146], 54) := by decide +kernel
theorem dX4_road_68 : decode cX4_road 68 = .ok (.aload_n 3, 1) := by decide +kernel
theorem dX4_road_69 : decode cX4_road 69 = .ok (.getfield 75, 3) := by decide +kernel
theorem dX4_road_72 : decode cX4_road 72 = .ok (.ireturn, 1) := by decide +kernel
theorem dX4_road_73 : decode cX4_road 73 = .ok (.aload_n 3, 1) := by decide +kernel
theorem dX4_road_74 : decode cX4_road 74 = .ok (.getfield 75, 3) := by decide +kernel
theorem dX4_road_77 : decode cX4_road 77 = .ok (.aload_n 3, 1) := by decide +kernel
theorem dX4_road_78 : decode cX4_road 78 = .ok (.getfield 76, 3) := by decide +kernel
theorem dX4_road_81 : decode cX4_road 81 = .ok (.invokestatic 77, 3) := by decide +kernel
theorem dX4_road_84 : decode cX4_road 84 = .ok (.isub, 1) := by decide +kernel
theorem dX4_road_85 : decode cX4_road 85 = .ok (.ireturn, 1) := by decide +kernel
theorem dX4_road_86 : decode cX4_road 86 = .ok (.aload_n 3, 1) := by decide +kernel
theorem dX4_road_87 : decode cX4_road 87 = .ok (.getfield 76, 3) := by decide +kernel
theorem dX4_road_90 : decode cX4_road 90 = .ok (.invokestatic 77, 3) := by decide +kernel
theorem dX4_road_93 : decode cX4_road 93 = .ok (.ireturn, 1) := by decide +kernel
theorem dX4_road_94 : decode cX4_road 94 = .ok (.aload_n 3, 1) := by decide +kernel
theorem dX4_road_95 : decode cX4_road 95 = .ok (.invokevirtual 83, 3) := by decide +kernel
theorem dX4_road_98 : decode cX4_road 98 = .ok (.ireturn, 1) := by decide +kernel
theorem dX4_road_99 : decode cX4_road 99 = .ok (.aload_n 3, 1) := by decide +kernel
theorem dX4_road_100 : decode cX4_road 100 = .ok (.invokevirtual 87, 3) := by decide +kernel
theorem dX4_road_103 : decode cX4_road 103 = .ok (.ireturn, 1) := by decide +kernel
theorem dX4_road_104 : decode cX4_road 104 = .ok (.aload_n 3, 1) := by decide +kernel
theorem dX4_road_105 : decode cX4_road 105 = .ok (.invokevirtual 90, 3) := by decide +kernel
theorem dX4_road_108 : decode cX4_road 108 = .ok (.ireturn, 1) := by decide +kernel
theorem dX4_road_109 : decode cX4_road 109 = .ok (.aload_n 3, 1) := by decide +kernel
theorem dX4_road_110 : decode cX4_road 110 = .ok (.invokevirtual 93, 3) := by decide +kernel
theorem dX4_road_113 : decode cX4_road 113 = .ok (.ifCond .eq 7, 3) := by decide +kernel
theorem dX4_road_116 : decode cX4_road 116 = .ok (.iconst 1, 1) := by decide +kernel
theorem dX4_road_117 : decode cX4_road 117 = .ok (.goto 4, 3) := by decide +kernel
theorem dX4_road_120 : decode cX4_road 120 = .ok (.iconst 0, 1) := by decide +kernel
theorem dX4_road_121 : decode cX4_road 121 = .ok (.ireturn, 1) := by decide +kernel
theorem dX4_road_122 : decode cX4_road 122 = .ok (.aload_n 3, 1) := by decide +kernel
theorem dX4_road_123 : decode cX4_road 123 = .ok (.aload_n 3, 1) := by decide +kernel
theorem dX4_road_124 : decode cX4_road 124 = .ok (.invokevirtual 96, 3) := by decide +kernel
theorem dX4_road_127 : decode cX4_road 127 = .ok (.invokevirtual 99, 3) := by decide +kernel
theorem dX4_road_130 : decode cX4_road 130 = .ok (.ifCond .eq 7, 3) := by decide +kernel
theorem dX4_road_133 : decode cX4_road 133 = .ok (.iconst 1, 1) := by decide +kernel
theorem dX4_road_134 : decode cX4_road 134 = .ok (.goto 4, 3) := by decide +kernel
theorem dX4_road_137 : decode cX4_road 137 = .ok (.iconst 0, 1) := by decide +kernel
theorem dX4_road_138 : decode cX4_road 138 = .ok (.ireturn, 1) := by decide +kernel
theorem dX4_road_139 : decode cX4_road 139 = .ok (.aload_n 3, 1) := by decide +kernel
theorem dX4_road_140 : decode cX4_road 140 = .ok (.aload_n 3, 1) := by decide +kernel
theorem dX4_road_141 : decode cX4_road 141 = .ok (.aload_n 3, 1) := by decide +kernel
theorem dX4_road_142 : decode cX4_road 142 = .ok (.getfield 76, 3) := by decide +kernel
theorem dX4_road_145 : decode cX4_road 145 = .ok (.invokevirtual 103, 3) := by decide +kernel
theorem dX4_road_148 : decode cX4_road 148 = .ok (.invokevirtual 99, 3) := by decide +kernel
theorem dX4_road_151 : decode cX4_road 151 = .ok (.ifCond .eq 7, 3) := by decide +kernel
theorem dX4_road_154 : decode cX4_road 154 = .ok (.iconst 1, 1) := by decide +kernel
theorem dX4_road_155 : decode cX4_road 155 = .ok (.goto 4, 3) := by decide +kernel
theorem dX4_road_158 : decode cX4_road 158 = .ok (.iconst 0, 1) := by decide +kernel
theorem dX4_road_159 : decode cX4_road 159 = .ok (.ireturn, 1) := by decide +kernel
theorem dX4_road_160 : decode cX4_road 160 = .ok (.aload_n 3, 1) := by decide +kernel
theorem dX4_road_161 : decode cX4_road 161 = .ok (.aload_n 3, 1) := by decide +kernel
theorem dX4_road_162 : decode cX4_road 162 = .ok (.aload_n 3, 1) := by decide +kernel
theorem dX4_road_163 : decode cX4_road 163 = .ok (.invokevirtual 96, 3) := by decide +kernel
theorem dX4_road_166 : decode cX4_road 166 = .ok (.invokevirtual 103, 3) := by decide +kernel
theorem dX4_road_169 : decode cX4_road 169 = .ok (.invokevirtual 99, 3) := by decide +kernel
theorem dX4_road_172 : decode cX4_road 172 = .ok (.ifCond .eq 7, 3) := by decide +kernel
theorem dX4_road_175 : decode cX4_road 175 = .ok (.iconst 1, 1) := by decide +kernel
theorem dX4_road_176 : decode cX4_road 176 = .ok (.goto 4, 3) := by decide +kernel
theorem dX4_road_179 : decode cX4_road 179 = .ok (.iconst 0, 1) := by decide +kernel
theorem dX4_road_180 : decode cX4_road 180 = .ok (.ireturn, 1) := by decide +kernel
theorem dX4_road_181 : decode cX4_road 181 = .ok (.ldc 36, 2) := by decide +kernel
theorem dX4_road_183 : decode cX4_road 183 = .ok (.ireturn, 1) := by decide +kernel
set_option maxRecDepth 20000 in
theorem ggX4_sign_X4_roadAt : GoodIn wsX4_sign wsX4_roadAt := goodIn_rq _ [7, 8, 9, 27, 28, 29, 30, 31, 32] (by decide +kernel) (by decide +kernel)
set_option maxRecDepth 20000 in
theorem gX4_sign_X4_roadAt : GoodIn wsX4_sign (wsV RX4 70 RX4 yX4_roadAt wsX4_roadAt) := goodIn_app (goodIn_of _ (by decide +kernel)) ggX4_sign_X4_roadAt
set_option maxRecDepth 20000 in
theorem ggX4_sign_X3_bitAt : GoodIn wsX4_sign wsX3_bitAt := goodIn_rq _ [14, 15, 16, 20, 21, 22, 23, 24, 25, 26] (by decide +kernel) (by decide +kernel)
set_option maxRecDepth 20000 in
theorem gX4_sign_X3_bitAt : GoodIn wsX4_sign (wsV RX4 106 RX3 yX3_bitAt wsX3_bitAt) := goodIn_app (goodIn_of _ (by decide +kernel)) ggX4_sign_X3_bitAt
set_option maxRecDepth 20000 in
theorem ggX4_sign_X4_code : GoodIn wsX4_sign wsX4_code := goodIn_rq _ [19] (by decide +kernel) (by decide +kernel)
set_option maxRecDepth 20000 in
theorem gX4_sign_X4_code : GoodIn wsX4_sign (va_wsS RX4 109 yX4_code wsX4_code) := goodIn_app (goodIn_of _ (by decide +kernel)) ggX4_sign_X4_code
theorem dX4_sign_0 : decode cX4_sign 0 = .ok (.aload_n 0, 1) := by decide +kernel
theorem dX4_sign_1 : decode cX4_sign 1 = .ok (.iload_n 1, 1) := by decide +kernel
theorem dX4_sign_2 : decode cX4_sign 2 = .ok (.invokevirtual 70, 3) := by decide +kernel
theorem dX4_sign_5 : decode cX4_sign 5 = .ok (.astore_n 3, 1) := by decide +kernel
theorem dX4_sign_6 : decode cX4_sign 6 = .ok (.aload_n 3, 1) := by decide +kernel
theorem dX4_sign_7 : decode cX4_sign 7 = .ok (.ifnull 15, 3) := by decide +kernel
theorem dX4_sign_10 : decode cX4_sign 10 = .ok (.iload_n 2, 1) := by decide +kernel
theorem dX4_sign_11 : decode cX4_sign 11 = .ok (.ifCond .lt 11, 3) := by decide +kernel
theorem dX4_sign_14 : decode cX4_sign 14 = .ok (.iload_n 2, 1) := by decide +kernel
theorem dX4_sign_15 : decode cX4_sign 15 = .ok (.aload_n 3, 1) := by decide +kernel
theorem dX4_sign_16 : decode cX4_sign 16 = .ok (.getfield 75, 3) := by decide +kernel
theorem dX4_sign_19 : decode cX4_sign 19 = .ok (.if_icmp .lt 6, 3) := by decide +kernel
theorem dX4_sign_22 : decode cX4_sign 22 = .ok (.ldc 74, 2) := by decide +kernel
theorem dX4_sign_24 : decode cX4_sign 24 = .ok (.ireturn, 1) := by decide +kernel
theorem dX4_sign_25 : decode cX4_sign 25 = .ok (.aload_n 3, 1) := by decide +kernel
theorem dX4_sign_26 : decode cX4_sign 26 = .ok (.iload_n 2, 1) := by decide +kernel
theorem dX4_sign_27 : decode cX4_sign 27 = .ok (.invokevirtual 106, 3) := by decide +kernel
theorem dX4_sign_30 : decode cX4_sign 30 = .ok (.invokestatic 109, 3) := by decide +kernel
theorem dX4_sign_33 : decode cX4_sign 33 = .ok (.ireturn, 1) := by decide +kernel
set_option maxRecDepth 20000 in
theorem ggX4_table_X4_roadAt : GoodIn wsX4_table wsX4_roadAt := goodIn_rq _ [11, 12, 13, 21, 22, 23, 24, 25, 26] (by decide +kernel) (by decide +kernel)
set_option maxRecDepth 20000 in
theorem gX4_table_X4_roadAt : GoodIn wsX4_table (wsV RX4 70 RX4 yX4_roadAt wsX4_roadAt) := goodIn_app (goodIn_of _ (by decide +kernel)) ggX4_table_X4_roadAt
theorem dX4_table_0 : decode cX4_table 0 = .ok (.aload_n 0, 1) := by decide +kernel
theorem dX4_table_1 : decode cX4_table 1 = .ok (.iload_n 1, 1) := by decide +kernel
theorem dX4_table_2 : decode cX4_table 2 = .ok (.invokevirtual 70, 3) := by decide +kernel
theorem dX4_table_5 : decode cX4_table 5 = .ok (.astore_n 3, 1) := by decide +kernel
theorem dX4_table_6 : decode cX4_table 6 = .ok (.aload_n 3, 1) := by decide +kernel
theorem dX4_table_7 : decode cX4_table 7 = .ok (.ifnonnull 6, 3) := by decide +kernel
theorem dX4_table_10 : decode cX4_table 10 = .ok (.ldc 74, 2) := by decide +kernel
theorem dX4_table_12 : decode cX4_table 12 = .ok (.ireturn, 1) := by decide +kernel
theorem dX4_table_13 : decode cX4_table 13 = .ok (.iload_n 2, 1) := by decide +kernel
theorem dX4_table_14 : decode cX4_table 14 = .ok (.tableswitch 50 0 3 #[30, 35, 40, 45], 30) := by decide +kernel
theorem dX4_table_44 : decode cX4_table 44 = .ok (.aload_n 3, 1) := by decide +kernel
theorem dX4_table_45 : decode cX4_table 45 = .ok (.getfield 112, 3) := by decide +kernel
theorem dX4_table_48 : decode cX4_table 48 = .ok (.ireturn, 1) := by decide +kernel
theorem dX4_table_49 : decode cX4_table 49 = .ok (.aload_n 3, 1) := by decide +kernel
theorem dX4_table_50 : decode cX4_table 50 = .ok (.getfield 115, 3) := by decide +kernel
theorem dX4_table_53 : decode cX4_table 53 = .ok (.ireturn, 1) := by decide +kernel
theorem dX4_table_54 : decode cX4_table 54 = .ok (.aload_n 3, 1) := by decide +kernel
theorem dX4_table_55 : decode cX4_table 55 = .ok (.getfield 118, 3) := by decide +kernel
theorem dX4_table_58 : decode cX4_table 58 = .ok (.ireturn, 1) := by decide +kernel
theorem dX4_table_59 : decode cX4_table 59 = .ok (.aload_n 3, 1) := by decide +kernel
theorem dX4_table_60 : decode cX4_table 60 = .ok (.getfield 121, 3) := by decide +kernel
theorem dX4_table_63 : decode cX4_table 63 = .ok (.ireturn, 1) := by decide +kernel
theorem dX4_table_64 : decode cX4_table 64 = .ok (.ldc 36, 2) := by decide +kernel
theorem dX4_table_66 : decode cX4_table 66 = .ok (.ireturn, 1) := by decide +kernel
set_option maxRecDepth 20000 in
theorem ggX4_form_X4_roadAt : GoodIn wsX4_form wsX4_roadAt := goodIn_rq _ [8, 9, 10, 37, 38, 39, 40, 41, 42] (by decide +kernel) (by decide +kernel)
set_option maxRecDepth 20000 in
theorem gX4_form_X4_roadAt : GoodIn wsX4_form (wsV RX4 70 RX4 yX4_roadAt wsX4_roadAt) := goodIn_app (goodIn_of _ (by decide +kernel)) ggX4_form_X4_roadAt
set_option maxRecDepth 20000 in
theorem ggX4_form_X3_isClosed : GoodIn wsX4_form wsX3_isClosed := goodIn_rq _ [15, 16, 17, 43, 44, 45, 46, 47, 48, 49] (by decide +kernel) (by decide +kernel)
set_option maxRecDepth 20000 in
theorem gX4_form_X3_isClosed : GoodIn wsX4_form (wsV RX4 93 RX3 yX3_isClosed wsX3_isClosed) := goodIn_app (goodIn_of _ (by decide +kernel)) ggX4_form_X3_isClosed
set_option maxRecDepth 20000 in
theorem ggX4_form_X3_formNumber : GoodIn wsX4_form wsX3_formNumber := goodIn_rq _ [21, 22, 23, 24, 25, 26, 7, 27, 28, 29, 30, 31, 32, 33, 34, 35, 36, 43, 44, 45, 46, 47, 48, 49] (by decide +kernel) (by decide +kernel)
set_option maxRecDepth 20000 in
theorem gX4_form_X3_formNumber : GoodIn wsX4_form (wsV RX4 124 RX3 yX3_formNumber wsX3_formNumber) := goodIn_app (goodIn_of _ (by decide +kernel)) ggX4_form_X3_formNumber
theorem dX4_form_0 : decode cX4_form 0 = .ok (.aload_n 0, 1) := by decide +kernel
theorem dX4_form_1 : decode cX4_form 1 = .ok (.iload_n 1, 1) := by decide +kernel
theorem dX4_form_2 : decode cX4_form 2 = .ok (.invokevirtual 70, 3) := by decide +kernel
theorem dX4_form_5 : decode cX4_form 5 = .ok (.astore_n 3, 1) := by decide +kernel
theorem dX4_form_6 : decode cX4_form 6 = .ok (.aload_n 3, 1) := by decide +kernel
theorem dX4_form_7 : decode cX4_form 7 = .ok (.ifnonnull 6, 3) := by decide +kernel
theorem dX4_form_10 : decode cX4_form 10 = .ok (.ldc 74, 2) := by decide +kernel
theorem dX4_form_12 : decode cX4_form 12 = .ok (.ireturn, 1) := by decide +kernel
theorem dX4_form_13 : decode cX4_form 13 = .ok (.iload_n 2, 1) := by decide +kernel
theorem dX4_form_14 : decode cX4_form 14 = .ok (.ifCond .lt 8, 3) := by decide +kernel
theorem dX4_form_17 : decode cX4_form 17 = .ok (.iload_n 2, 1) := by decide +kernel
theorem dX4_form_18 : decode cX4_form 18 = .ok (.iconst 5, 1) := by decide +kernel
theorem dX4_form_19 : decode cX4_form 19 = .ok (.if_icmp .lt 6, 3) := by decide +kernel
theorem dX4_form_22 : decode cX4_form 22 = .ok (.ldc 36, 2) := by decide +kernel
theorem dX4_form_24 : decode cX4_form 24 = .ok (.ireturn, 1) := by decide +kernel
theorem dX4_form_25 : decode cX4_form 25 = .ok (.aload_n 3, 1) := by decide +kernel
theorem dX4_form_26 : decode cX4_form 26 = .ok (.invokevirtual 93, 3) := by decide +kernel
theorem dX4_form_29 : decode cX4_form 29 = .ok (.ifCond .eq 11, 3) := by decide +kernel
theorem dX4_form_32 : decode cX4_form 32 = .ok (.aload_n 3, 1) := by decide +kernel
theorem dX4_form_33 : decode cX4_form 33 = .ok (.iload_n 2, 1) := by decide +kernel
theorem dX4_form_34 : decode cX4_form 34 = .ok (.invokevirtual 124, 3) := by decide +kernel
theorem dX4_form_37 : decode cX4_form 37 = .ok (.goto 5, 3) := by decide +kernel
theorem dX4_form_40 : decode cX4_form 40 = .ok (.ldc 56, 2) := by decide +kernel
theorem dX4_form_42 : decode cX4_form 42 = .ok (.ireturn, 1) := by decide +kernel
set_option maxRecDepth 20000 in
theorem ggX4_end_X4_roadAt : GoodIn wsX4_end wsX4_roadAt := goodIn_rq _ [11, 12, 13, 21, 22, 23, 24, 25, 26] (by decide +kernel) (by decide +kernel)
set_option maxRecDepth 20000 in
theorem gX4_end_X4_roadAt : GoodIn wsX4_end (wsV RX4 70 RX4 yX4_roadAt wsX4_roadAt) := goodIn_app (goodIn_of _ (by decide +kernel)) ggX4_end_X4_roadAt
theorem dX4_end_0 : decode cX4_end 0 = .ok (.aload_n 0, 1) := by decide +kernel
theorem dX4_end_1 : decode cX4_end 1 = .ok (.iload_n 1, 1) := by decide +kernel
theorem dX4_end_2 : decode cX4_end 2 = .ok (.invokevirtual 70, 3) := by decide +kernel
theorem dX4_end_5 : decode cX4_end 5 = .ok (.astore_n 3, 1) := by decide +kernel
theorem dX4_end_6 : decode cX4_end 6 = .ok (.aload_n 3, 1) := by decide +kernel
theorem dX4_end_7 : decode cX4_end 7 = .ok (.ifnonnull 6, 3) := by decide +kernel
theorem dX4_end_10 : decode cX4_end 10 = .ok (.ldc 74, 2) := by decide +kernel
theorem dX4_end_12 : decode cX4_end 12 = .ok (.ireturn, 1) := by decide +kernel
theorem dX4_end_13 : decode cX4_end 13 = .ok (.iload_n 2, 1) := by decide +kernel
theorem dX4_end_14 : decode cX4_end 14 = .ok (.lookupswitch 46 #[(0, 26), (1, 36)], 26) := by decide +kernel
theorem dX4_end_40 : decode cX4_end 40 = .ok (.aload_n 3, 1) := by decide +kernel
theorem dX4_end_41 : decode cX4_end 41 = .ok (.getfield 112, 3) := by decide +kernel
theorem dX4_end_44 : decode cX4_end 44 = .ok (.aload_n 3, 1) := by decide +kernel
theorem dX4_end_45 : decode cX4_end 45 = .ok (.getfield 115, 3) := by decide +kernel
theorem dX4_end_48 : decode cX4_end 48 = .ok (.iadd, 1) := by decide +kernel
theorem dX4_end_49 : decode cX4_end 49 = .ok (.ireturn, 1) := by decide +kernel
theorem dX4_end_50 : decode cX4_end 50 = .ok (.aload_n 3, 1) := by decide +kernel
theorem dX4_end_51 : decode cX4_end 51 = .ok (.getfield 118, 3) := by decide +kernel
theorem dX4_end_54 : decode cX4_end 54 = .ok (.aload_n 3, 1) := by decide +kernel
theorem dX4_end_55 : decode cX4_end 55 = .ok (.getfield 121, 3) := by decide +kernel
theorem dX4_end_58 : decode cX4_end 58 = .ok (.iadd, 1) := by decide +kernel
theorem dX4_end_59 : decode cX4_end 59 = .ok (.ireturn, 1) := by decide +kernel
theorem dX4_end_60 : decode cX4_end 60 = .ok (.ldc 36, 2) := by decide +kernel
theorem dX4_end_62 : decode cX4_end 62 = .ok (.ireturn, 1) := by decide +kernel
set_option maxRecDepth 20000 in
theorem ggX4_alike_X4_roadAt : GoodIn wsX4_alike wsX4_roadAt := goodIn_rq _ [9, 10, 11, 32, 33, 34, 35, 36, 37] (by decide +kernel) (by decide +kernel)
set_option maxRecDepth 20000 in
theorem gX4_alike_X4_roadAt : GoodIn wsX4_alike (wsV RX4 70 RX4 yX4_roadAt wsX4_roadAt) := goodIn_app (goodIn_of _ (by decide +kernel)) ggX4_alike_X4_roadAt
set_option maxRecDepth 20000 in
theorem ggX4_alike_X3_turnTo : GoodIn wsX4_alike wsX3_turnTo := goodIn_rq _ [16, 17, 18, 19, 20, 21, 15, 22, 23, 24, 25, 26, 27, 28, 29, 30, 31] (by decide +kernel) (by decide +kernel)
set_option maxRecDepth 20000 in
theorem gX4_alike_X3_turnTo : GoodIn wsX4_alike (wsV RX4 127 RX3 yX3_turnTo wsX3_turnTo) := goodIn_app (goodIn_of _ (by decide +kernel)) ggX4_alike_X3_turnTo
theorem dX4_alike_0 : decode cX4_alike 0 = .ok (.aload_n 0, 1) := by decide +kernel
theorem dX4_alike_1 : decode cX4_alike 1 = .ok (.iload_n 1, 1) := by decide +kernel
theorem dX4_alike_2 : decode cX4_alike 2 = .ok (.invokevirtual 70, 3) := by decide +kernel
theorem dX4_alike_5 : decode cX4_alike 5 = .ok (.astore_n 3, 1) := by decide +kernel
theorem dX4_alike_6 : decode cX4_alike 6 = .ok (.aload_n 0, 1) := by decide +kernel
theorem dX4_alike_7 : decode cX4_alike 7 = .ok (.iload_n 2, 1) := by decide +kernel
theorem dX4_alike_8 : decode cX4_alike 8 = .ok (.invokevirtual 70, 3) := by decide +kernel
theorem dX4_alike_11 : decode cX4_alike 11 = .ok (.astore 4, 2) := by decide +kernel
theorem dX4_alike_13 : decode cX4_alike 13 = .ok (.aload_n 3, 1) := by decide +kernel
theorem dX4_alike_14 : decode cX4_alike 14 = .ok (.ifnull 8, 3) := by decide +kernel
theorem dX4_alike_17 : decode cX4_alike 17 = .ok (.aload 4, 2) := by decide +kernel
theorem dX4_alike_19 : decode cX4_alike 19 = .ok (.ifnonnull 6, 3) := by decide +kernel
theorem dX4_alike_22 : decode cX4_alike 22 = .ok (.ldc 74, 2) := by decide +kernel
theorem dX4_alike_24 : decode cX4_alike 24 = .ok (.ireturn, 1) := by decide +kernel
theorem dX4_alike_25 : decode cX4_alike 25 = .ok (.aload_n 3, 1) := by decide +kernel
theorem dX4_alike_26 : decode cX4_alike 26 = .ok (.getfield 75, 3) := by decide +kernel
theorem dX4_alike_29 : decode cX4_alike 29 = .ok (.aload 4, 2) := by decide +kernel
theorem dX4_alike_31 : decode cX4_alike 31 = .ok (.getfield 75, 3) := by decide +kernel
theorem dX4_alike_34 : decode cX4_alike 34 = .ok (.if_icmp .ne 16, 3) := by decide +kernel
theorem dX4_alike_37 : decode cX4_alike 37 = .ok (.aload_n 3, 1) := by decide +kernel
theorem dX4_alike_38 : decode cX4_alike 38 = .ok (.aload 4, 2) := by decide +kernel
theorem dX4_alike_40 : decode cX4_alike 40 = .ok (.getfield 76, 3) := by decide +kernel
theorem dX4_alike_43 : decode cX4_alike 43 = .ok (.iconst 0, 1) := by decide +kernel
theorem dX4_alike_44 : decode cX4_alike 44 = .ok (.invokevirtual 127, 3) := by decide +kernel
theorem dX4_alike_47 : decode cX4_alike 47 = .ok (.goto 5, 3) := by decide +kernel
theorem dX4_alike_50 : decode cX4_alike 50 = .ok (.ldc 130, 2) := by decide +kernel
theorem dX4_alike_52 : decode cX4_alike 52 = .ok (.ireturn, 1) := by decide +kernel
set_option maxRecDepth 20000 in
theorem ggX4_cross_X4_roadAt : GoodIn wsX4_cross wsX4_roadAt := goodIn_rq _ [7, 8, 9, 30, 31, 32, 33, 34, 35] (by decide +kernel) (by decide +kernel)
set_option maxRecDepth 20000 in
theorem gX4_cross_X4_roadAt : GoodIn wsX4_cross (wsV RX4 70 RX4 yX4_roadAt wsX4_roadAt) := goodIn_app (goodIn_of _ (by decide +kernel)) ggX4_cross_X4_roadAt
set_option maxRecDepth 20000 in
theorem ggX4_cross_X3_isClosed : GoodIn wsX4_cross wsX3_isClosed := goodIn_rq _ [14, 15, 16, 36, 37, 38, 39, 40, 41, 42] (by decide +kernel) (by decide +kernel)
set_option maxRecDepth 20000 in
theorem gX4_cross_X3_isClosed : GoodIn wsX4_cross (wsV RX4 93 RX3 yX3_isClosed wsX3_isClosed) := goodIn_app (goodIn_of _ (by decide +kernel)) ggX4_cross_X3_isClosed
set_option maxRecDepth 20000 in
theorem ggX4_cross_X3_crossings : GoodIn wsX4_cross wsX3_crossings := goodIn_rq _ [20, 21, 22, 23, 24, 13, 25, 15, 26, 27, 28, 29, 36, 37, 38, 39, 40, 41, 42] (by decide +kernel) (by decide +kernel)
set_option maxRecDepth 20000 in
theorem gX4_cross_X3_crossings : GoodIn wsX4_cross (wsV RX4 131 RX3 yX3_crossings wsX3_crossings) := goodIn_app (goodIn_of _ (by decide +kernel)) ggX4_cross_X3_crossings
theorem dX4_cross_0 : decode cX4_cross 0 = .ok (.aload_n 0, 1) := by decide +kernel
theorem dX4_cross_1 : decode cX4_cross 1 = .ok (.iload_n 1, 1) := by decide +kernel
theorem dX4_cross_2 : decode cX4_cross 2 = .ok (.invokevirtual 70, 3) := by decide +kernel
theorem dX4_cross_5 : decode cX4_cross 5 = .ok (.astore_n 3, 1) := by decide +kernel
theorem dX4_cross_6 : decode cX4_cross 6 = .ok (.aload_n 0, 1) := by decide +kernel
theorem dX4_cross_7 : decode cX4_cross 7 = .ok (.iload_n 2, 1) := by decide +kernel
theorem dX4_cross_8 : decode cX4_cross 8 = .ok (.invokevirtual 70, 3) := by decide +kernel
theorem dX4_cross_11 : decode cX4_cross 11 = .ok (.astore 4, 2) := by decide +kernel
theorem dX4_cross_13 : decode cX4_cross 13 = .ok (.aload_n 3, 1) := by decide +kernel
theorem dX4_cross_14 : decode cX4_cross 14 = .ok (.ifnull 8, 3) := by decide +kernel
theorem dX4_cross_17 : decode cX4_cross 17 = .ok (.aload 4, 2) := by decide +kernel
theorem dX4_cross_19 : decode cX4_cross 19 = .ok (.ifnonnull 6, 3) := by decide +kernel
theorem dX4_cross_22 : decode cX4_cross 22 = .ok (.ldc 74, 2) := by decide +kernel
theorem dX4_cross_24 : decode cX4_cross 24 = .ok (.ireturn, 1) := by decide +kernel
theorem dX4_cross_25 : decode cX4_cross 25 = .ok (.aload_n 3, 1) := by decide +kernel
theorem dX4_cross_26 : decode cX4_cross 26 = .ok (.invokevirtual 93, 3) := by decide +kernel
theorem dX4_cross_29 : decode cX4_cross 29 = .ok (.ifCond .eq 20, 3) := by decide +kernel
theorem dX4_cross_32 : decode cX4_cross 32 = .ok (.aload 4, 2) := by decide +kernel
theorem dX4_cross_34 : decode cX4_cross 34 = .ok (.invokevirtual 93, 3) := by decide +kernel
theorem dX4_cross_37 : decode cX4_cross 37 = .ok (.ifCond .eq 12, 3) := by decide +kernel
theorem dX4_cross_40 : decode cX4_cross 40 = .ok (.aload_n 3, 1) := by decide +kernel
theorem dX4_cross_41 : decode cX4_cross 41 = .ok (.aload 4, 2) := by decide +kernel
theorem dX4_cross_43 : decode cX4_cross 43 = .ok (.invokevirtual 131, 3) := by decide +kernel
theorem dX4_cross_46 : decode cX4_cross 46 = .ok (.goto 5, 3) := by decide +kernel
theorem dX4_cross_49 : decode cX4_cross 49 = .ok (.ldc 56, 2) := by decide +kernel
theorem dX4_cross_51 : decode cX4_cross 51 = .ok (.ireturn, 1) := by decide +kernel
set_option maxRecDepth 20000 in
theorem ggX4_turn_X4_roadAt : GoodIn wsX4_turn wsX4_roadAt := goodIn_rq _ [8, 9, 10, 48, 49, 50, 51, 52, 53] (by decide +kernel) (by decide +kernel)
set_option maxRecDepth 20000 in
theorem gX4_turn_X4_roadAt : GoodIn wsX4_turn (wsV RX4 70 RX4 yX4_roadAt wsX4_roadAt) := goodIn_app (goodIn_of _ (by decide +kernel)) ggX4_turn_X4_roadAt
set_option maxRecDepth 20000 in
theorem ggX4_turn_X3_rotation : GoodIn wsX4_turn wsX3_rotation := goodIn_rq _ [15, 16, 17, 18, 41, 42, 43, 44, 45, 46, 47] (by decide +kernel) (by decide +kernel)
set_option maxRecDepth 20000 in
theorem gX4_turn_X3_rotation : GoodIn wsX4_turn (wsV RX4 135 RX3 yX3_rotation wsX3_rotation) := goodIn_app (goodIn_of _ (by decide +kernel)) ggX4_turn_X3_rotation
set_option maxRecDepth 20000 in
theorem ggX4_turn_X3_become : GoodIn wsX4_turn wsX3_become := goodIn_rq _ [22, 16, 17, 18, 23, 24, 25, 26, 27, 28, 29, 14, 30, 41, 42, 43, 44, 45, 46, 47] (by decide +kernel) (by decide +kernel)
set_option maxRecDepth 20000 in
theorem gX4_turn_X3_become : GoodIn wsX4_turn (wsV RX4 138 RX3 yX3_become wsX3_become) := goodIn_app (goodIn_of _ (by decide +kernel)) ggX4_turn_X3_become
set_option maxRecDepth 20000 in
theorem ggX4_turn_X3_period : GoodIn wsX4_turn wsX3_period := goodIn_rq _ [34, 16, 35, 17, 36, 37, 38, 14, 39, 40, 12, 13, 15, 18, 41, 42, 43, 44, 45, 46, 47] (by decide +kernel) (by decide +kernel)
set_option maxRecDepth 20000 in
theorem gX4_turn_X3_period : GoodIn wsX4_turn (wsV RX4 83 RX3 yX3_period wsX3_period) := goodIn_app (goodIn_of _ (by decide +kernel)) ggX4_turn_X3_period
theorem dX4_turn_0 : decode cX4_turn 0 = .ok (.aload_n 0, 1) := by decide +kernel
theorem dX4_turn_1 : decode cX4_turn 1 = .ok (.iload_n 1, 1) := by decide +kernel
theorem dX4_turn_2 : decode cX4_turn 2 = .ok (.invokevirtual 70, 3) := by decide +kernel
theorem dX4_turn_5 : decode cX4_turn 5 = .ok (.astore_n 3, 1) := by decide +kernel
theorem dX4_turn_6 : decode cX4_turn 6 = .ok (.aload_n 3, 1) := by decide +kernel
theorem dX4_turn_7 : decode cX4_turn 7 = .ok (.ifnonnull 6, 3) := by decide +kernel
theorem dX4_turn_10 : decode cX4_turn 10 = .ok (.ldc 74, 2) := by decide +kernel
theorem dX4_turn_12 : decode cX4_turn 12 = .ok (.ireturn, 1) := by decide +kernel
theorem dX4_turn_13 : decode cX4_turn 13 = .ok (.iload_n 2, 1) := by decide +kernel
theorem dX4_turn_14 : decode cX4_turn 14 = .ok (.ifCond .lt 11, 3) := by decide +kernel
theorem dX4_turn_17 : decode cX4_turn 17 = .ok (.iload_n 2, 1) := by decide +kernel
theorem dX4_turn_18 : decode cX4_turn 18 = .ok (.aload_n 3, 1) := by decide +kernel
theorem dX4_turn_19 : decode cX4_turn 19 = .ok (.getfield 75, 3) := by decide +kernel
theorem dX4_turn_22 : decode cX4_turn 22 = .ok (.if_icmp .lt 6, 3) := by decide +kernel
theorem dX4_turn_25 : decode cX4_turn 25 = .ok (.ldc 36, 2) := by decide +kernel
theorem dX4_turn_27 : decode cX4_turn 27 = .ok (.ireturn, 1) := by decide +kernel
theorem dX4_turn_28 : decode cX4_turn 28 = .ok (.aload_n 3, 1) := by decide +kernel
theorem dX4_turn_29 : decode cX4_turn 29 = .ok (.aload_n 3, 1) := by decide +kernel
theorem dX4_turn_30 : decode cX4_turn 30 = .ok (.iload_n 2, 1) := by decide +kernel
theorem dX4_turn_31 : decode cX4_turn 31 = .ok (.invokevirtual 135, 3) := by decide +kernel
theorem dX4_turn_34 : decode cX4_turn 34 = .ok (.aload_n 3, 1) := by decide +kernel
theorem dX4_turn_35 : decode cX4_turn 35 = .ok (.getfield 75, 3) := by decide +kernel
theorem dX4_turn_38 : decode cX4_turn 38 = .ok (.invokevirtual 138, 3) := by decide +kernel
theorem dX4_turn_41 : decode cX4_turn 41 = .ok (.aload_n 3, 1) := by decide +kernel
theorem dX4_turn_42 : decode cX4_turn 42 = .ok (.invokevirtual 83, 3) := by decide +kernel
theorem dX4_turn_45 : decode cX4_turn 45 = .ok (.ireturn, 1) := by decide +kernel
set_option maxRecDepth 20000 in
theorem ggX4_change_X4_roadAt : GoodIn wsX4_change wsX4_roadAt := goodIn_rq _ [8, 9, 10, 58, 59, 60, 61, 62, 63] (by decide +kernel) (by decide +kernel)
set_option maxRecDepth 20000 in
theorem gX4_change_X4_roadAt : GoodIn wsX4_change (wsV RX4 70 RX4 yX4_roadAt wsX4_roadAt) := goodIn_app (goodIn_of _ (by decide +kernel)) ggX4_change_X4_roadAt
set_option maxRecDepth 20000 in
theorem ggX4_change_X3_changed : GoodIn wsX4_change wsX3_changed := goodIn_rq _ [15, 16, 17, 18, 19, 14, 20, 21, 22, 23, 24, 25, 26, 27, 28, 29, 30, 31, 32, 33, 34, 35, 36, 37, 38, 51, 52, 53, 54, 55, 56, 57] (by decide +kernel) (by decide +kernel)
set_option maxRecDepth 20000 in
theorem gX4_change_X3_changed : GoodIn wsX4_change (wsV RX4 142 RX3 yX3_changed wsX3_changed) := goodIn_app (goodIn_of _ (by decide +kernel)) ggX4_change_X3_changed
set_option maxRecDepth 20000 in
theorem ggX4_change_X3_become : GoodIn wsX4_change wsX3_become := goodIn_rq _ [42, 16, 21, 30, 43, 44, 45, 46, 22, 23, 24, 14, 25, 51, 52, 53, 54, 55, 56, 57] (by decide +kernel) (by decide +kernel)
set_option maxRecDepth 20000 in
theorem gX4_change_X3_become : GoodIn wsX4_change (wsV RX4 138 RX3 yX3_become wsX3_become) := goodIn_app (goodIn_of _ (by decide +kernel)) ggX4_change_X3_become
set_option maxRecDepth 20000 in
theorem ggX4_change_X3_traceSum : GoodIn wsX4_change wsX3_traceSum := goodIn_rq _ [50, 43, 46, 51, 52, 53, 54, 55, 56, 57] (by decide +kernel) (by decide +kernel)
set_option maxRecDepth 20000 in
theorem gX4_change_X3_traceSum : GoodIn wsX4_change (wsV RX4 90 RX3 yX3_traceSum wsX3_traceSum) := goodIn_app (goodIn_of _ (by decide +kernel)) ggX4_change_X3_traceSum
theorem dX4_change_0 : decode cX4_change 0 = .ok (.aload_n 0, 1) := by decide +kernel
theorem dX4_change_1 : decode cX4_change 1 = .ok (.iload_n 1, 1) := by decide +kernel
theorem dX4_change_2 : decode cX4_change 2 = .ok (.invokevirtual 70, 3) := by decide +kernel
end
section
theorem dX4_change_5 : decode cX4_change 5 = .ok (.astore_n 3, 1) := by decide +kernel
theorem dX4_change_6 : decode cX4_change 6 = .ok (.aload_n 3, 1) := by decide +kernel
theorem dX4_change_7 : decode cX4_change 7 = .ok (.ifnonnull 6, 3) := by decide +kernel
theorem dX4_change_10 : decode cX4_change 10 = .ok (.ldc 74, 2) := by decide +kernel
theorem dX4_change_12 : decode cX4_change 12 = .ok (.ireturn, 1) := by decide +kernel
theorem dX4_change_13 : decode cX4_change 13 = .ok (.iload_n 2, 1) := by decide +kernel
theorem dX4_change_14 : decode cX4_change 14 = .ok (.ifCond .lt 8, 3) := by decide +kernel
theorem dX4_change_17 : decode cX4_change 17 = .ok (.iload_n 2, 1) := by decide +kernel
theorem dX4_change_18 : decode cX4_change 18 = .ok (.iconst 3, 1) := by decide +kernel
theorem dX4_change_19 : decode cX4_change 19 = .ok (.if_icmp .lt 6, 3) := by decide +kernel
theorem dX4_change_22 : decode cX4_change 22 = .ok (.ldc 36, 2) := by decide +kernel
theorem dX4_change_24 : decode cX4_change 24 = .ok (.ireturn, 1) := by decide +kernel
theorem dX4_change_25 : decode cX4_change 25 = .ok (.aload_n 3, 1) := by decide +kernel
theorem dX4_change_26 : decode cX4_change 26 = .ok (.aload_n 3, 1) := by decide +kernel
theorem dX4_change_27 : decode cX4_change 27 = .ok (.iload_n 2, 1) := by decide +kernel
theorem dX4_change_28 : decode cX4_change 28 = .ok (.invokevirtual 142, 3) := by decide +kernel
theorem dX4_change_31 : decode cX4_change 31 = .ok (.aload_n 3, 1) := by decide +kernel
theorem dX4_change_32 : decode cX4_change 32 = .ok (.getfield 75, 3) := by decide +kernel
theorem dX4_change_35 : decode cX4_change 35 = .ok (.invokevirtual 138, 3) := by decide +kernel
theorem dX4_change_38 : decode cX4_change 38 = .ok (.aload_n 3, 1) := by decide +kernel
theorem dX4_change_39 : decode cX4_change 39 = .ok (.invokevirtual 90, 3) := by decide +kernel
theorem dX4_change_42 : decode cX4_change 42 = .ok (.ireturn, 1) := by decide +kernel
set_option maxRecDepth 20000 in
theorem ggX4_join_X4_roadAt : GoodIn wsX4_join wsX4_roadAt := goodIn_rq _ [8, 9, 10, 48, 49, 50, 51, 52, 53] (by decide +kernel) (by decide +kernel)
set_option maxRecDepth 20000 in
theorem gX4_join_X4_roadAt : GoodIn wsX4_join (wsV RX4 70 RX4 yX4_roadAt wsX4_roadAt) := goodIn_app (goodIn_of _ (by decide +kernel)) ggX4_join_X4_roadAt
set_option maxRecDepth 20000 in
theorem ggX4_join_X4_addRoad : GoodIn wsX4_join wsX4_addRoad := goodIn_rq _ [14, 15, 9, 10, 16, 17, 18, 19, 20, 21, 22, 23, 24, 25, 26, 27, 28, 29, 30, 31, 32, 33, 34, 35, 36, 37, 38, 39, 40, 48, 49, 50, 51, 52, 53, 41, 42, 43, 44, 45, 46, 47] (by decide +kernel) (by decide +kernel)
set_option maxRecDepth 20000 in
theorem gX4_join_X4_addRoad : GoodIn wsX4_join (wsV RX4 63 RX4 yX4_addRoad wsX4_addRoad) := goodIn_app (goodIn_of _ (by decide +kernel)) ggX4_join_X4_addRoad
theorem dX4_join_0 : decode cX4_join 0 = .ok (.aload_n 0, 1) := by decide +kernel
theorem dX4_join_1 : decode cX4_join 1 = .ok (.iload_n 1, 1) := by decide +kernel
theorem dX4_join_2 : decode cX4_join 2 = .ok (.invokevirtual 70, 3) := by decide +kernel
theorem dX4_join_5 : decode cX4_join 5 = .ok (.astore_n 3, 1) := by decide +kernel
theorem dX4_join_6 : decode cX4_join 6 = .ok (.aload_n 0, 1) := by decide +kernel
theorem dX4_join_7 : decode cX4_join 7 = .ok (.iload_n 2, 1) := by decide +kernel
theorem dX4_join_8 : decode cX4_join 8 = .ok (.invokevirtual 70, 3) := by decide +kernel
theorem dX4_join_11 : decode cX4_join 11 = .ok (.astore 4, 2) := by decide +kernel
theorem dX4_join_13 : decode cX4_join 13 = .ok (.aload_n 3, 1) := by decide +kernel
theorem dX4_join_14 : decode cX4_join 14 = .ok (.ifnull 8, 3) := by decide +kernel
theorem dX4_join_17 : decode cX4_join 17 = .ok (.aload 4, 2) := by decide +kernel
theorem dX4_join_19 : decode cX4_join 19 = .ok (.ifnonnull 6, 3) := by decide +kernel
theorem dX4_join_22 : decode cX4_join 22 = .ok (.ldc 74, 2) := by decide +kernel
theorem dX4_join_24 : decode cX4_join 24 = .ok (.ireturn, 1) := by decide +kernel
theorem dX4_join_25 : decode cX4_join 25 = .ok (.aload_n 0, 1) := by decide +kernel
theorem dX4_join_26 : decode cX4_join 26 = .ok (.aload_n 3, 1) := by decide +kernel
theorem dX4_join_27 : decode cX4_join 27 = .ok (.getfield 76, 3) := by decide +kernel
theorem dX4_join_30 : decode cX4_join 30 = .ok (.aload 4, 2) := by decide +kernel
theorem dX4_join_32 : decode cX4_join 32 = .ok (.getfield 75, 3) := by decide +kernel
theorem dX4_join_35 : decode cX4_join 35 = .ok (.ishl, 1) := by decide +kernel
theorem dX4_join_36 : decode cX4_join 36 = .ok (.aload 4, 2) := by decide +kernel
theorem dX4_join_38 : decode cX4_join 38 = .ok (.getfield 76, 3) := by decide +kernel
theorem dX4_join_41 : decode cX4_join 41 = .ok (.ior, 1) := by decide +kernel
theorem dX4_join_42 : decode cX4_join 42 = .ok (.aload_n 3, 1) := by decide +kernel
theorem dX4_join_43 : decode cX4_join 43 = .ok (.getfield 75, 3) := by decide +kernel
theorem dX4_join_46 : decode cX4_join 46 = .ok (.aload 4, 2) := by decide +kernel
theorem dX4_join_48 : decode cX4_join 48 = .ok (.getfield 75, 3) := by decide +kernel
theorem dX4_join_51 : decode cX4_join 51 = .ok (.iadd, 1) := by decide +kernel
theorem dX4_join_52 : decode cX4_join 52 = .ok (.invokevirtual 63, 3) := by decide +kernel
theorem dX4_join_55 : decode cX4_join 55 = .ok (.ireturn, 1) := by decide +kernel
set_option maxRecDepth 20000 in
theorem ggX4_times_X4_roadAt : GoodIn wsX4_times wsX4_roadAt := goodIn_rq _ [9, 10, 11, 49, 50, 51, 52, 53, 54] (by decide +kernel) (by decide +kernel)
set_option maxRecDepth 20000 in
theorem gX4_times_X4_roadAt : GoodIn wsX4_times (wsV RX4 70 RX4 yX4_roadAt wsX4_roadAt) := goodIn_app (goodIn_of _ (by decide +kernel)) ggX4_times_X4_roadAt
set_option maxRecDepth 20000 in
theorem ggX4_times_X4_addRoad : GoodIn wsX4_times wsX4_addRoad := goodIn_rq _ [15, 16, 10, 11, 17, 18, 19, 20, 21, 22, 23, 24, 25, 26, 27, 28, 29, 30, 31, 32, 33, 34, 35, 36, 37, 38, 39, 40, 41, 49, 50, 51, 52, 53, 54, 42, 43, 44, 45, 46, 47, 48] (by decide +kernel) (by decide +kernel)
set_option maxRecDepth 20000 in
theorem gX4_times_X4_addRoad : GoodIn wsX4_times (wsV RX4 63 RX4 yX4_addRoad wsX4_addRoad) := goodIn_app (goodIn_of _ (by decide +kernel)) ggX4_times_X4_addRoad
theorem dX4_times_0 : decode cX4_times 0 = .ok (.aload_n 0, 1) := by decide +kernel
theorem dX4_times_1 : decode cX4_times 1 = .ok (.iload_n 1, 1) := by decide +kernel
theorem dX4_times_2 : decode cX4_times 2 = .ok (.invokevirtual 70, 3) := by decide +kernel
theorem dX4_times_5 : decode cX4_times 5 = .ok (.astore_n 3, 1) := by decide +kernel
theorem dX4_times_6 : decode cX4_times 6 = .ok (.aload_n 3, 1) := by decide +kernel
theorem dX4_times_7 : decode cX4_times 7 = .ok (.ifnonnull 6, 3) := by decide +kernel
theorem dX4_times_10 : decode cX4_times 10 = .ok (.ldc 74, 2) := by decide +kernel
theorem dX4_times_12 : decode cX4_times 12 = .ok (.ireturn, 1) := by decide +kernel
theorem dX4_times_13 : decode cX4_times 13 = .ok (.iload_n 2, 1) := by decide +kernel
theorem dX4_times_14 : decode cX4_times 14 = .ok (.iconst 2, 1) := by decide +kernel
theorem dX4_times_15 : decode cX4_times 15 = .ok (.if_icmp .lt 8, 3) := by decide +kernel
theorem dX4_times_18 : decode cX4_times 18 = .ok (.iload_n 2, 1) := by decide +kernel
theorem dX4_times_19 : decode cX4_times 19 = .ok (.iconst 5, 1) := by decide +kernel
theorem dX4_times_20 : decode cX4_times 20 = .ok (.if_icmp .le 6, 3) := by decide +kernel
theorem dX4_times_23 : decode cX4_times 23 = .ok (.ldc 36, 2) := by decide +kernel
theorem dX4_times_25 : decode cX4_times 25 = .ok (.ireturn, 1) := by decide +kernel
theorem dX4_times_26 : decode cX4_times 26 = .ok (.iconst 0, 1) := by decide +kernel
theorem dX4_times_27 : decode cX4_times 27 = .ok (.istore 4, 2) := by decide +kernel
theorem dX4_times_29 : decode cX4_times 29 = .ok (.iconst 0, 1) := by decide +kernel
theorem dX4_times_30 : decode cX4_times 30 = .ok (.istore 5, 2) := by decide +kernel
theorem dX4_times_32 : decode cX4_times 32 = .ok (.iload 5, 2) := by decide +kernel
theorem dX4_times_34 : decode cX4_times 34 = .ok (.iload_n 2, 1) := by decide +kernel
theorem dX4_times_35 : decode cX4_times 35 = .ok (.if_icmp .ge 23, 3) := by decide +kernel
theorem dX4_times_38 : decode cX4_times 38 = .ok (.iload 4, 2) := by decide +kernel
theorem dX4_times_40 : decode cX4_times 40 = .ok (.aload_n 3, 1) := by decide +kernel
theorem dX4_times_41 : decode cX4_times 41 = .ok (.getfield 75, 3) := by decide +kernel
theorem dX4_times_44 : decode cX4_times 44 = .ok (.ishl, 1) := by decide +kernel
theorem dX4_times_45 : decode cX4_times 45 = .ok (.aload_n 3, 1) := by decide +kernel
theorem dX4_times_46 : decode cX4_times 46 = .ok (.getfield 76, 3) := by decide +kernel
theorem dX4_times_49 : decode cX4_times 49 = .ok (.ior, 1) := by decide +kernel
theorem dX4_times_50 : decode cX4_times 50 = .ok (.istore 4, 2) := by decide +kernel
theorem dX4_times_52 : decode cX4_times 52 = .ok (.iinc 5 1, 3) := by decide +kernel
theorem dX4_times_55 : decode cX4_times 55 = .ok (.goto (-23), 3) := by decide +kernel
theorem dX4_times_58 : decode cX4_times 58 = .ok (.aload_n 0, 1) := by decide +kernel
theorem dX4_times_59 : decode cX4_times 59 = .ok (.iload 4, 2) := by decide +kernel
theorem dX4_times_61 : decode cX4_times 61 = .ok (.iload_n 2, 1) := by decide +kernel
theorem dX4_times_62 : decode cX4_times 62 = .ok (.aload_n 3, 1) := by decide +kernel
theorem dX4_times_63 : decode cX4_times 63 = .ok (.getfield 75, 3) := by decide +kernel
theorem dX4_times_66 : decode cX4_times 66 = .ok (.imul, 1) := by decide +kernel
theorem dX4_times_67 : decode cX4_times 67 = .ok (.invokevirtual 63, 3) := by decide +kernel
theorem dX4_times_70 : decode cX4_times 70 = .ok (.ireturn, 1) := by decide +kernel
set_option maxRecDepth 20000 in
theorem ggX4_cut_X4_commonDivisor : GoodIn wsX4_cut wsX4_commonDivisor := goodIn_rq _ [5, 6, 7, 8, 9, 10, 11, 12] (by decide +kernel) (by decide +kernel)
set_option maxRecDepth 20000 in
theorem gX4_cut_X4_commonDivisor : GoodIn wsX4_cut (va_wsS RX4 145 yX4_commonDivisor wsX4_commonDivisor) := goodIn_app (goodIn_of _ (by decide +kernel)) ggX4_cut_X4_commonDivisor
set_option maxRecDepth 20000 in
theorem ggX4_cut_X4_addRoad : GoodIn wsX4_cut wsX4_addRoad := goodIn_rq _ [16, 17, 18, 19, 20, 21, 22, 23, 24, 25, 26, 27, 28, 29, 30, 31, 32, 33, 34, 35, 36, 37, 38, 39, 40, 41, 42, 43, 44, 45, 46, 47, 48, 49, 50, 51, 52, 53, 54, 55, 56, 57] (by decide +kernel) (by decide +kernel)
set_option maxRecDepth 20000 in
theorem gX4_cut_X4_addRoad : GoodIn wsX4_cut (wsV RX4 63 RX4 yX4_addRoad wsX4_addRoad) := goodIn_app (goodIn_of _ (by decide +kernel)) ggX4_cut_X4_addRoad
theorem dX4_cut_0 : decode cX4_cut 0 = .ok (.iload_n 1, 1) := by decide +kernel
theorem dX4_cut_1 : decode cX4_cut 1 = .ok (.iconst 1, 1) := by decide +kernel
theorem dX4_cut_2 : decode cX4_cut 2 = .ok (.if_icmp .lt 34, 3) := by decide +kernel
theorem dX4_cut_5 : decode cX4_cut 5 = .ok (.iload_n 1, 1) := by decide +kernel
theorem dX4_cut_6 : decode cX4_cut 6 = .ok (.bipush 99, 2) := by decide +kernel
theorem dX4_cut_8 : decode cX4_cut 8 = .ok (.if_icmp .gt 28, 3) := by decide +kernel
theorem dX4_cut_11 : decode cX4_cut 11 = .ok (.iload_n 2, 1) := by decide +kernel
theorem dX4_cut_12 : decode cX4_cut 12 = .ok (.iconst 1, 1) := by decide +kernel
theorem dX4_cut_13 : decode cX4_cut 13 = .ok (.if_icmp .lt 23, 3) := by decide +kernel
theorem dX4_cut_16 : decode cX4_cut 16 = .ok (.iload_n 2, 1) := by decide +kernel
theorem dX4_cut_17 : decode cX4_cut 17 = .ok (.bipush 99, 2) := by decide +kernel
theorem dX4_cut_19 : decode cX4_cut 19 = .ok (.if_icmp .gt 17, 3) := by decide +kernel
theorem dX4_cut_22 : decode cX4_cut 22 = .ok (.iload_n 1, 1) := by decide +kernel
theorem dX4_cut_23 : decode cX4_cut 23 = .ok (.iload_n 2, 1) := by decide +kernel
theorem dX4_cut_24 : decode cX4_cut 24 = .ok (.if_icmp .eq 12, 3) := by decide +kernel
theorem dX4_cut_27 : decode cX4_cut 27 = .ok (.iload_n 1, 1) := by decide +kernel
theorem dX4_cut_28 : decode cX4_cut 28 = .ok (.iload_n 2, 1) := by decide +kernel
theorem dX4_cut_29 : decode cX4_cut 29 = .ok (.invokestatic 145, 3) := by decide +kernel
theorem dX4_cut_32 : decode cX4_cut 32 = .ok (.iconst 1, 1) := by decide +kernel
theorem dX4_cut_33 : decode cX4_cut 33 = .ok (.if_icmp .le 6, 3) := by decide +kernel
theorem dX4_cut_36 : decode cX4_cut 36 = .ok (.ldc 36, 2) := by decide +kernel
theorem dX4_cut_38 : decode cX4_cut 38 = .ok (.ireturn, 1) := by decide +kernel
theorem dX4_cut_39 : decode cX4_cut 39 = .ok (.iconst 0, 1) := by decide +kernel
theorem dX4_cut_40 : decode cX4_cut 40 = .ok (.istore_n 3, 1) := by decide +kernel
theorem dX4_cut_41 : decode cX4_cut 41 = .ok (.iconst 0, 1) := by decide +kernel
theorem dX4_cut_42 : decode cX4_cut 42 = .ok (.istore 4, 2) := by decide +kernel
theorem dX4_cut_44 : decode cX4_cut 44 = .ok (.iload_n 1, 1) := by decide +kernel
theorem dX4_cut_45 : decode cX4_cut 45 = .ok (.istore 5, 2) := by decide +kernel
theorem dX4_cut_47 : decode cX4_cut 47 = .ok (.iload_n 2, 1) := by decide +kernel
theorem dX4_cut_48 : decode cX4_cut 48 = .ok (.istore 6, 2) := by decide +kernel
theorem dX4_cut_50 : decode cX4_cut 50 = .ok (.iload 5, 2) := by decide +kernel
theorem dX4_cut_52 : decode cX4_cut 52 = .ok (.iload 6, 2) := by decide +kernel
theorem dX4_cut_54 : decode cX4_cut 54 = .ok (.if_icmp .eq 50, 3) := by decide +kernel
theorem dX4_cut_57 : decode cX4_cut 57 = .ok (.iload 4, 2) := by decide +kernel
theorem dX4_cut_59 : decode cX4_cut 59 = .ok (.bipush 99, 2) := by decide +kernel
theorem dX4_cut_61 : decode cX4_cut 61 = .ok (.if_icmp .ge 43, 3) := by decide +kernel
theorem dX4_cut_64 : decode cX4_cut 64 = .ok (.iload 5, 2) := by decide +kernel
theorem dX4_cut_66 : decode cX4_cut 66 = .ok (.iload 6, 2) := by decide +kernel
theorem dX4_cut_68 : decode cX4_cut 68 = .ok (.if_icmp .le 19, 3) := by decide +kernel
theorem dX4_cut_71 : decode cX4_cut 71 = .ok (.iload_n 3, 1) := by decide +kernel
theorem dX4_cut_72 : decode cX4_cut 72 = .ok (.iconst 1, 1) := by decide +kernel
theorem dX4_cut_73 : decode cX4_cut 73 = .ok (.ishl, 1) := by decide +kernel
theorem dX4_cut_74 : decode cX4_cut 74 = .ok (.iconst 1, 1) := by decide +kernel
theorem dX4_cut_75 : decode cX4_cut 75 = .ok (.ior, 1) := by decide +kernel
theorem dX4_cut_76 : decode cX4_cut 76 = .ok (.istore_n 3, 1) := by decide +kernel
theorem dX4_cut_77 : decode cX4_cut 77 = .ok (.iload 5, 2) := by decide +kernel
theorem dX4_cut_79 : decode cX4_cut 79 = .ok (.iload 6, 2) := by decide +kernel
theorem dX4_cut_81 : decode cX4_cut 81 = .ok (.isub, 1) := by decide +kernel
theorem dX4_cut_82 : decode cX4_cut 82 = .ok (.istore 5, 2) := by decide +kernel
theorem dX4_cut_84 : decode cX4_cut 84 = .ok (.goto 14, 3) := by decide +kernel
theorem dX4_cut_87 : decode cX4_cut 87 = .ok (.iload_n 3, 1) := by decide +kernel
theorem dX4_cut_88 : decode cX4_cut 88 = .ok (.iconst 1, 1) := by decide +kernel
theorem dX4_cut_89 : decode cX4_cut 89 = .ok (.ishl, 1) := by decide +kernel
theorem dX4_cut_90 : decode cX4_cut 90 = .ok (.istore_n 3, 1) := by decide +kernel
theorem dX4_cut_91 : decode cX4_cut 91 = .ok (.iload 6, 2) := by decide +kernel
theorem dX4_cut_93 : decode cX4_cut 93 = .ok (.iload 5, 2) := by decide +kernel
theorem dX4_cut_95 : decode cX4_cut 95 = .ok (.isub, 1) := by decide +kernel
theorem dX4_cut_96 : decode cX4_cut 96 = .ok (.istore 6, 2) := by decide +kernel
theorem dX4_cut_98 : decode cX4_cut 98 = .ok (.iinc 4 1, 3) := by decide +kernel
theorem dX4_cut_101 : decode cX4_cut 101 = .ok (.goto (-51), 3) := by decide +kernel
theorem dX4_cut_104 : decode cX4_cut 104 = .ok (.aload_n 0, 1) := by decide +kernel
theorem dX4_cut_105 : decode cX4_cut 105 = .ok (.iload_n 3, 1) := by decide +kernel
theorem dX4_cut_106 : decode cX4_cut 106 = .ok (.iload 4, 2) := by decide +kernel
theorem dX4_cut_108 : decode cX4_cut 108 = .ok (.invokevirtual 63, 3) := by decide +kernel
theorem dX4_cut_111 : decode cX4_cut 111 = .ok (.ireturn, 1) := by decide +kernel
theorem dX4_drop_0 : decode cX4_drop 0 = .ok (.aload_n 0, 1) := by decide +kernel
theorem dX4_drop_1 : decode cX4_drop 1 = .ok (.getfield 148, 3) := by decide +kernel
theorem dX4_drop_4 : decode cX4_drop 4 = .ok (.ifCond .gt 6, 3) := by decide +kernel
theorem dX4_drop_7 : decode cX4_drop 7 = .ok (.ldc 56, 2) := by decide +kernel
theorem dX4_drop_9 : decode cX4_drop 9 = .ok (.ireturn, 1) := by decide +kernel
theorem dX4_drop_10 : decode cX4_drop 10 = .ok (.aload_n 0, 1) := by decide +kernel
theorem dX4_drop_11 : decode cX4_drop 11 = .ok (.dup, 1) := by decide +kernel
theorem dX4_drop_12 : decode cX4_drop 12 = .ok (.getfield 148, 3) := by decide +kernel
theorem dX4_drop_15 : decode cX4_drop 15 = .ok (.iconst 1, 1) := by decide +kernel
theorem dX4_drop_16 : decode cX4_drop 16 = .ok (.isub, 1) := by decide +kernel
theorem dX4_drop_17 : decode cX4_drop 17 = .ok (.putfield 148, 3) := by decide +kernel
theorem dX4_drop_20 : decode cX4_drop 20 = .ok (.aload_n 0, 1) := by decide +kernel
theorem dX4_drop_21 : decode cX4_drop 21 = .ok (.getfield 148, 3) := by decide +kernel
theorem dX4_drop_24 : decode cX4_drop 24 = .ok (.ireturn, 1) := by decide +kernel
set_option maxRecDepth 20000 in
theorem ggX4_drawn_X0_run : GoodIn wsX4_drawn wsX0_run := goodIn_rq _ [11, 12, 13, 14, 15, 16, 17, 18, 19, 20, 21, 22, 23, 24, 25, 26, 27, 28, 29, 30, 31, 32, 33, 34, 35, 36, 37, 10, 38, 39, 40, 41, 42, 43, 44, 45, 46, 47, 48, 49, 50, 51, 52, 53, 54, 55, 56, 57, 58, 59, 60, 61, 62, 63, 70, 71, 72, 73, 74, 75, 76, 77, 78, 79, 80, 81, 82] (by decide +kernel) (by decide +kernel)
set_option maxRecDepth 20000 in
theorem gX4_drawn_X0_run : GoodIn wsX4_drawn (wsV RX4 198 RX0 yX0_run wsX0_run) := goodIn_app (goodIn_of _ (by decide +kernel)) ggX4_drawn_X0_run
theorem dX4_drawn_0 : decode cX4_drawn 0 = .ok (.iload_n 1, 1) := by decide +kernel
theorem dX4_drawn_1 : decode cX4_drawn 1 = .ok (.iconst 1, 1) := by decide +kernel
theorem dX4_drawn_2 : decode cX4_drawn 2 = .ok (.if_icmp .lt 22, 3) := by decide +kernel
theorem dX4_drawn_5 : decode cX4_drawn 5 = .ok (.iload_n 1, 1) := by decide +kernel
theorem dX4_drawn_6 : decode cX4_drawn 6 = .ok (.bipush 40, 2) := by decide +kernel
theorem dX4_drawn_8 : decode cX4_drawn 8 = .ok (.if_icmp .gt 16, 3) := by decide +kernel
theorem dX4_drawn_11 : decode cX4_drawn 11 = .ok (.iload_n 2, 1) := by decide +kernel
theorem dX4_drawn_12 : decode cX4_drawn 12 = .ok (.ifCond .lt 12, 3) := by decide +kernel
theorem dX4_drawn_15 : decode cX4_drawn 15 = .ok (.iload_n 3, 1) := by decide +kernel
theorem dX4_drawn_16 : decode cX4_drawn 16 = .ok (.ifCond .lt 8, 3) := by decide +kernel
theorem dX4_drawn_19 : decode cX4_drawn 19 = .ok (.iload_n 3, 1) := by decide +kernel
theorem dX4_drawn_20 : decode cX4_drawn 20 = .ok (.iconst 4, 1) := by decide +kernel
theorem dX4_drawn_21 : decode cX4_drawn 21 = .ok (.if_icmp .lt 6, 3) := by decide +kernel
theorem dX4_drawn_24 : decode cX4_drawn 24 = .ok (.ldc 36, 2) := by decide +kernel
theorem dX4_drawn_26 : decode cX4_drawn 26 = .ok (.ireturn, 1) := by decide +kernel
theorem dX4_drawn_27 : decode cX4_drawn 27 = .ok (.aload_n 0, 1) := by decide +kernel
theorem dX4_drawn_28 : decode cX4_drawn 28 = .ok (.getfield 32, 3) := by decide +kernel
theorem dX4_drawn_31 : decode cX4_drawn 31 = .ok (.iload_n 1, 1) := by decide +kernel
theorem dX4_drawn_32 : decode cX4_drawn 32 = .ok (.iload_n 2, 1) := by decide +kernel
theorem dX4_drawn_33 : decode cX4_drawn 33 = .ok (.invokevirtual 198, 3) := by decide +kernel
theorem dX4_drawn_36 : decode cX4_drawn 36 = .ok (.iload_n 3, 1) := by decide +kernel
theorem dX4_drawn_37 : decode cX4_drawn 37 = .ok (.tableswitch 51 0 2 #[27, 35, 43], 27) := by decide +kernel
theorem dX4_drawn_64 : decode cX4_drawn 64 = .ok (.aload_n 0, 1) := by decide +kernel
theorem dX4_drawn_65 : decode cX4_drawn 65 = .ok (.getfield 32, 3) := by decide +kernel
theorem dX4_drawn_68 : decode cX4_drawn 68 = .ok (.getfield 201, 3) := by decide +kernel
theorem dX4_drawn_71 : decode cX4_drawn 71 = .ok (.ireturn, 1) := by decide +kernel
theorem dX4_drawn_72 : decode cX4_drawn 72 = .ok (.aload_n 0, 1) := by decide +kernel
theorem dX4_drawn_73 : decode cX4_drawn 73 = .ok (.getfield 32, 3) := by decide +kernel
theorem dX4_drawn_76 : decode cX4_drawn 76 = .ok (.getfield 204, 3) := by decide +kernel
theorem dX4_drawn_79 : decode cX4_drawn 79 = .ok (.ireturn, 1) := by decide +kernel
theorem dX4_drawn_80 : decode cX4_drawn 80 = .ok (.aload_n 0, 1) := by decide +kernel
theorem dX4_drawn_81 : decode cX4_drawn 81 = .ok (.getfield 32, 3) := by decide +kernel
theorem dX4_drawn_84 : decode cX4_drawn 84 = .ok (.getfield 207, 3) := by decide +kernel
theorem dX4_drawn_87 : decode cX4_drawn 87 = .ok (.ireturn, 1) := by decide +kernel
theorem dX4_drawn_88 : decode cX4_drawn 88 = .ok (.aload_n 0, 1) := by decide +kernel
theorem dX4_drawn_89 : decode cX4_drawn 89 = .ok (.getfield 32, 3) := by decide +kernel
theorem dX4_drawn_92 : decode cX4_drawn 92 = .ok (.getfield 209, 3) := by decide +kernel
theorem dX4_drawn_95 : decode cX4_drawn 95 = .ok (.l2i, 1) := by decide +kernel
theorem dX4_drawn_96 : decode cX4_drawn 96 = .ok (.ireturn, 1) := by decide +kernel
set_option maxRecDepth 20000 in
theorem ggX4_count_X4_closedRoads : GoodIn wsX4_count wsX4_closedRoads := goodIn_rq _ [13, 1, 14, 15, 16, 12, 17, 18, 19, 20, 21, 22, 23, 24, 25, 26, 27, 28, 29, 56, 57, 58, 59, 60, 61, 73, 74, 75, 76, 77, 78, 79] (by decide +kernel) (by decide +kernel)
set_option maxRecDepth 20000 in
theorem gX4_count_X4_closedRoads : GoodIn wsX4_count (wsV RX4 213 RX4 yX4_closedRoads wsX4_closedRoads) := goodIn_app (goodIn_of _ (by decide +kernel)) ggX4_count_X4_closedRoads
set_option maxRecDepth 20000 in
theorem ggX4_count_X4_roadClasses : GoodIn wsX4_count wsX4_roadClasses := goodIn_rq _ [33, 1, 34, 35, 36, 12, 37, 38, 39, 40, 41, 42, 43, 44, 45, 18, 19, 20, 21, 22, 46, 47, 48, 26, 49, 50, 51, 52, 53, 54, 55, 28, 29, 56, 57, 58, 59, 60, 61, 73, 74, 75, 76, 77, 78, 79] (by decide +kernel) (by decide +kernel)
set_option maxRecDepth 20000 in
theorem gX4_count_X4_roadClasses : GoodIn wsX4_count (wsV RX4 216 RX4 yX4_roadClasses wsX4_roadClasses) := goodIn_app (goodIn_of _ (by decide +kernel)) ggX4_count_X4_roadClasses
theorem dX4_count_0 : decode cX4_count 0 = .ok (.iload_n 1, 1) := by decide +kernel
theorem dX4_count_1 : decode cX4_count 1 = .ok (.tableswitch 87 0 6 #[43, 48, 53, 58, 66, 71, 79], 43) := by decide +kernel
theorem dX4_count_44 : decode cX4_count 44 = .ok (.aload_n 0, 1) := by decide +kernel
theorem dX4_count_45 : decode cX4_count 45 = .ok (.getfield 148, 3) := by decide +kernel
theorem dX4_count_48 : decode cX4_count 48 = .ok (.ireturn, 1) := by decide +kernel
theorem dX4_count_49 : decode cX4_count 49 = .ok (.aload_n 0, 1) := by decide +kernel
theorem dX4_count_50 : decode cX4_count 50 = .ok (.invokevirtual 213, 3) := by decide +kernel
theorem dX4_count_53 : decode cX4_count 53 = .ok (.ireturn, 1) := by decide +kernel
theorem dX4_count_54 : decode cX4_count 54 = .ok (.aload_n 0, 1) := by decide +kernel
theorem dX4_count_55 : decode cX4_count 55 = .ok (.invokevirtual 216, 3) := by decide +kernel
theorem dX4_count_58 : decode cX4_count 58 = .ok (.ireturn, 1) := by decide +kernel
theorem dX4_count_59 : decode cX4_count 59 = .ok (.aload_n 0, 1) := by decide +kernel
theorem dX4_count_60 : decode cX4_count 60 = .ok (.getfield 10, 3) := by decide +kernel
theorem dX4_count_63 : decode cX4_count 63 = .ok (.getfield 37, 3) := by decide +kernel
theorem dX4_count_66 : decode cX4_count 66 = .ok (.ireturn, 1) := by decide +kernel
theorem dX4_count_67 : decode cX4_count 67 = .ok (.aload_n 0, 1) := by decide +kernel
theorem dX4_count_68 : decode cX4_count 68 = .ok (.getfield 67, 3) := by decide +kernel
theorem dX4_count_71 : decode cX4_count 71 = .ok (.ireturn, 1) := by decide +kernel
theorem dX4_count_72 : decode cX4_count 72 = .ok (.aload_n 0, 1) := by decide +kernel
theorem dX4_count_73 : decode cX4_count 73 = .ok (.getfield 25, 3) := by decide +kernel
theorem dX4_count_76 : decode cX4_count 76 = .ok (.getfield 156, 3) := by decide +kernel
theorem dX4_count_79 : decode cX4_count 79 = .ok (.ireturn, 1) := by decide +kernel
theorem dX4_count_80 : decode cX4_count 80 = .ok (.aload_n 0, 1) := by decide +kernel
theorem dX4_count_81 : decode cX4_count 81 = .ok (.getfield 25, 3) := by decide +kernel
theorem dX4_count_84 : decode cX4_count 84 = .ok (.getfield 219, 3) := by decide +kernel
theorem dX4_count_87 : decode cX4_count 87 = .ok (.ireturn, 1) := by decide +kernel
theorem dX4_count_88 : decode cX4_count 88 = .ok (.ldc 36, 2) := by decide +kernel
theorem dX4_count_90 : decode cX4_count 90 = .ok (.ireturn, 1) := by decide +kernel
theorem dX4_roadAt_0 : decode cX4_roadAt 0 = .ok (.iload_n 1, 1) := by decide +kernel
theorem dX4_roadAt_1 : decode cX4_roadAt 1 = .ok (.ifCond .lt 29, 3) := by decide +kernel
theorem dX4_roadAt_4 : decode cX4_roadAt 4 = .ok (.iload_n 1, 1) := by decide +kernel
theorem dX4_roadAt_5 : decode cX4_roadAt 5 = .ok (.aload_n 0, 1) := by decide +kernel
theorem dX4_roadAt_6 : decode cX4_roadAt 6 = .ok (.getfield 148, 3) := by decide +kernel
theorem dX4_roadAt_9 : decode cX4_roadAt 9 = .ok (.if_icmp .ge 21, 3) := by decide +kernel
theorem dX4_roadAt_12 : decode cX4_roadAt 12 = .ok (.iload_n 1, 1) := by decide +kernel
theorem dX4_roadAt_13 : decode cX4_roadAt 13 = .ok (.aload_n 0, 1) := by decide +kernel
theorem dX4_roadAt_14 : decode cX4_roadAt 14 = .ok (.getfield 18, 3) := by decide +kernel
theorem dX4_roadAt_17 : decode cX4_roadAt 17 = .ok (.arraylength, 1) := by decide +kernel
theorem dX4_roadAt_18 : decode cX4_roadAt 18 = .ok (.if_icmp .ge 12, 3) := by decide +kernel
theorem dX4_roadAt_21 : decode cX4_roadAt 21 = .ok (.aload_n 0, 1) := by decide +kernel
theorem dX4_roadAt_22 : decode cX4_roadAt 22 = .ok (.getfield 18, 3) := by decide +kernel
theorem dX4_roadAt_25 : decode cX4_roadAt 25 = .ok (.iload_n 1, 1) := by decide +kernel
theorem dX4_roadAt_26 : decode cX4_roadAt 26 = .ok (.aaload, 1) := by decide +kernel
theorem dX4_roadAt_27 : decode cX4_roadAt 27 = .ok (.goto 4, 3) := by decide +kernel
theorem dX4_roadAt_30 : decode cX4_roadAt 30 = .ok (.aconst_null, 1) := by decide +kernel
theorem dX4_roadAt_31 : decode cX4_roadAt 31 = .ok (.areturn, 1) := by decide +kernel
set_option maxRecDepth 20000 in
theorem ggX4_addRoad_X3_init : GoodIn wsX4_addRoad wsX3_init := goodIn_rq _ [10, 11, 12, 13, 14, 15, 16, 7, 17, 18, 19, 20, 21, 22, 23, 24, 25, 26, 27, 28, 35, 36, 37, 38, 39, 40, 41] (by decide +kernel) (by decide +kernel)
set_option maxRecDepth 20000 in
theorem gX4_addRoad_X3_init : GoodIn wsX4_addRoad (wsX3_init) := ggX4_addRoad_X3_init
theorem dX4_addRoad_0 : decode cX4_addRoad 0 = .ok (.iload_n 2, 1) := by decide +kernel
theorem dX4_addRoad_1 : decode cX4_addRoad 1 = .ok (.bipush 20, 2) := by decide +kernel
theorem dX4_addRoad_3 : decode cX4_addRoad 3 = .ok (.if_icmp .le 6, 3) := by decide +kernel
theorem dX4_addRoad_6 : decode cX4_addRoad 6 = .ok (.ldc 56, 2) := by decide +kernel
theorem dX4_addRoad_8 : decode cX4_addRoad 8 = .ok (.ireturn, 1) := by decide +kernel
theorem dX4_addRoad_9 : decode cX4_addRoad 9 = .ok (.aload_n 0, 1) := by decide +kernel
theorem dX4_addRoad_10 : decode cX4_addRoad 10 = .ok (.getfield 148, 3) := by decide +kernel
theorem dX4_addRoad_13 : decode cX4_addRoad 13 = .ok (.ifCond .lt 15, 3) := by decide +kernel
theorem dX4_addRoad_16 : decode cX4_addRoad 16 = .ok (.aload_n 0, 1) := by decide +kernel
theorem dX4_addRoad_17 : decode cX4_addRoad 17 = .ok (.getfield 148, 3) := by decide +kernel
theorem dX4_addRoad_20 : decode cX4_addRoad 20 = .ok (.aload_n 0, 1) := by decide +kernel
theorem dX4_addRoad_21 : decode cX4_addRoad 21 = .ok (.getfield 18, 3) := by decide +kernel
theorem dX4_addRoad_24 : decode cX4_addRoad 24 = .ok (.arraylength, 1) := by decide +kernel
theorem dX4_addRoad_25 : decode cX4_addRoad 25 = .ok (.if_icmp .lt 6, 3) := by decide +kernel
theorem dX4_addRoad_28 : decode cX4_addRoad 28 = .ok (.ldc 41, 2) := by decide +kernel
theorem dX4_addRoad_30 : decode cX4_addRoad 30 = .ok (.ireturn, 1) := by decide +kernel
theorem dX4_addRoad_31 : decode cX4_addRoad 31 = .ok (.aload_n 0, 1) := by decide +kernel
theorem dX4_addRoad_32 : decode cX4_addRoad 32 = .ok (.getfield 148, 3) := by decide +kernel
theorem dX4_addRoad_35 : decode cX4_addRoad 35 = .ok (.istore_n 3, 1) := by decide +kernel
theorem dX4_addRoad_36 : decode cX4_addRoad 36 = .ok (.aload_n 0, 1) := by decide +kernel
theorem dX4_addRoad_37 : decode cX4_addRoad 37 = .ok (.getfield 18, 3) := by decide +kernel
theorem dX4_addRoad_40 : decode cX4_addRoad 40 = .ok (.iload_n 3, 1) := by decide +kernel
theorem dX4_addRoad_41 : decode cX4_addRoad 41 = .ok (.new 16, 3) := by decide +kernel
theorem dX4_addRoad_44 : decode cX4_addRoad 44 = .ok (.dup, 1) := by decide +kernel
theorem dX4_addRoad_45 : decode cX4_addRoad 45 = .ok (.iload_n 1, 1) := by decide +kernel
theorem dX4_addRoad_46 : decode cX4_addRoad 46 = .ok (.iload_n 2, 1) := by decide +kernel
theorem dX4_addRoad_47 : decode cX4_addRoad 47 = .ok (.invokespecial 282, 3) := by decide +kernel
theorem dX4_addRoad_50 : decode cX4_addRoad 50 = .ok (.aastore, 1) := by decide +kernel
theorem dX4_addRoad_51 : decode cX4_addRoad 51 = .ok (.aload_n 0, 1) := by decide +kernel
theorem dX4_addRoad_52 : decode cX4_addRoad 52 = .ok (.dup, 1) := by decide +kernel
theorem dX4_addRoad_53 : decode cX4_addRoad 53 = .ok (.getfield 148, 3) := by decide +kernel
theorem dX4_addRoad_56 : decode cX4_addRoad 56 = .ok (.iconst 1, 1) := by decide +kernel
theorem dX4_addRoad_57 : decode cX4_addRoad 57 = .ok (.iadd, 1) := by decide +kernel
theorem dX4_addRoad_58 : decode cX4_addRoad 58 = .ok (.putfield 148, 3) := by decide +kernel
theorem dX4_addRoad_61 : decode cX4_addRoad 61 = .ok (.iload_n 3, 1) := by decide +kernel
theorem dX4_addRoad_62 : decode cX4_addRoad 62 = .ok (.ireturn, 1) := by decide +kernel
set_option maxRecDepth 20000 in
theorem ggX4_isClosedRoad_X4_roadAt : GoodIn wsX4_isClosedRoad wsX4_roadAt := goodIn_rq _ [5, 6, 7, 15, 16, 17, 18, 19, 20] (by decide +kernel) (by decide +kernel)
set_option maxRecDepth 20000 in
theorem gX4_isClosedRoad_X4_roadAt : GoodIn wsX4_isClosedRoad (wsV RX4 70 RX4 yX4_roadAt wsX4_roadAt) := goodIn_app (goodIn_of _ (by decide +kernel)) ggX4_isClosedRoad_X4_roadAt
set_option maxRecDepth 20000 in
theorem ggX4_isClosedRoad_X3_isClosed : GoodIn wsX4_isClosedRoad wsX3_isClosed := goodIn_rq _ [12, 13, 14, 21, 22, 23, 24, 25, 26, 27] (by decide +kernel) (by decide +kernel)
set_option maxRecDepth 20000 in
theorem gX4_isClosedRoad_X3_isClosed : GoodIn wsX4_isClosedRoad (wsV RX4 93 RX3 yX3_isClosed wsX3_isClosed) := goodIn_app (goodIn_of _ (by decide +kernel)) ggX4_isClosedRoad_X3_isClosed
theorem dX4_isClosedRoad_0 : decode cX4_isClosedRoad 0 = .ok (.aload_n 0, 1) := by decide +kernel
theorem dX4_isClosedRoad_1 : decode cX4_isClosedRoad 1 = .ok (.iload_n 1, 1) := by decide +kernel
theorem dX4_isClosedRoad_2 : decode cX4_isClosedRoad 2 = .ok (.invokevirtual 70, 3) := by decide +kernel
theorem dX4_isClosedRoad_5 : decode cX4_isClosedRoad 5 = .ok (.astore_n 2, 1) := by decide +kernel
theorem dX4_isClosedRoad_6 : decode cX4_isClosedRoad 6 = .ok (.aload_n 2, 1) := by decide +kernel
theorem dX4_isClosedRoad_7 : decode cX4_isClosedRoad 7 = .ok (.ifnull 14, 3) := by decide +kernel
theorem dX4_isClosedRoad_10 : decode cX4_isClosedRoad 10 = .ok (.aload_n 2, 1) := by decide +kernel
theorem dX4_isClosedRoad_11 : decode cX4_isClosedRoad 11 = .ok (.invokevirtual 93, 3) := by decide +kernel
theorem dX4_isClosedRoad_14 : decode cX4_isClosedRoad 14 = .ok (.ifCond .eq 7, 3) := by decide +kernel
theorem dX4_isClosedRoad_17 : decode cX4_isClosedRoad 17 = .ok (.iconst 1, 1) := by decide +kernel
theorem dX4_isClosedRoad_18 : decode cX4_isClosedRoad 18 = .ok (.goto 4, 3) := by decide +kernel
theorem dX4_isClosedRoad_21 : decode cX4_isClosedRoad 21 = .ok (.iconst 0, 1) := by decide +kernel
theorem dX4_isClosedRoad_22 : decode cX4_isClosedRoad 22 = .ok (.ireturn, 1) := by decide +kernel
set_option maxRecDepth 20000 in
theorem ggX4_closedRoads_X4_isClosedRoad : GoodIn wsX4_closedRoads wsX4_isClosedRoad := goodIn_rq _ [6, 7, 8, 9, 5, 10, 1, 11, 12, 13, 14, 15, 16, 17, 18, 19, 20, 21, 22, 23, 24, 25, 26, 27, 28, 29, 30, 31] (by decide +kernel) (by decide +kernel)
set_option maxRecDepth 20000 in
theorem gX4_closedRoads_X4_isClosedRoad : GoodIn wsX4_closedRoads (wsV RX4 262 RX4 yX4_isClosedRoad wsX4_isClosedRoad) := goodIn_app (goodIn_of _ (by decide +kernel)) ggX4_closedRoads_X4_isClosedRoad
theorem dX4_closedRoads_0 : decode cX4_closedRoads 0 = .ok (.iconst 0, 1) := by decide +kernel
theorem dX4_closedRoads_1 : decode cX4_closedRoads 1 = .ok (.istore_n 1, 1) := by decide +kernel
theorem dX4_closedRoads_2 : decode cX4_closedRoads 2 = .ok (.iconst 0, 1) := by decide +kernel
theorem dX4_closedRoads_3 : decode cX4_closedRoads 3 = .ok (.istore_n 2, 1) := by decide +kernel
theorem dX4_closedRoads_4 : decode cX4_closedRoads 4 = .ok (.iload_n 2, 1) := by decide +kernel
theorem dX4_closedRoads_5 : decode cX4_closedRoads 5 = .ok (.aload_n 0, 1) := by decide +kernel
theorem dX4_closedRoads_6 : decode cX4_closedRoads 6 = .ok (.getfield 148, 3) := by decide +kernel
theorem dX4_closedRoads_9 : decode cX4_closedRoads 9 = .ok (.if_icmp .ge 20, 3) := by decide +kernel
theorem dX4_closedRoads_12 : decode cX4_closedRoads 12 = .ok (.aload_n 0, 1) := by decide +kernel
theorem dX4_closedRoads_13 : decode cX4_closedRoads 13 = .ok (.iload_n 2, 1) := by decide +kernel
theorem dX4_closedRoads_14 : decode cX4_closedRoads 14 = .ok (.invokevirtual 262, 3) := by decide +kernel
theorem dX4_closedRoads_17 : decode cX4_closedRoads 17 = .ok (.ifCond .eq 6, 3) := by decide +kernel
theorem dX4_closedRoads_20 : decode cX4_closedRoads 20 = .ok (.iinc 1 1, 3) := by decide +kernel
theorem dX4_closedRoads_23 : decode cX4_closedRoads 23 = .ok (.iinc 2 1, 3) := by decide +kernel
theorem dX4_closedRoads_26 : decode cX4_closedRoads 26 = .ok (.goto (-22), 3) := by decide +kernel
theorem dX4_closedRoads_29 : decode cX4_closedRoads 29 = .ok (.iload_n 1, 1) := by decide +kernel
theorem dX4_closedRoads_30 : decode cX4_closedRoads 30 = .ok (.ireturn, 1) := by decide +kernel
set_option maxRecDepth 20000 in
theorem ggX4_roadClasses_X4_isFirstOfClass : GoodIn wsX4_roadClasses wsX4_isFirstOfClass := goodIn_rq _ [6, 7, 8, 9, 5, 10, 11, 12, 13, 14, 15, 16, 17, 18, 1, 19, 20, 21, 22, 23, 24, 25, 26, 27, 28, 29, 30, 31, 32, 39, 40, 41, 42, 43, 44, 45, 33, 34, 35, 36, 37, 38] (by decide +kernel) (by decide +kernel)
set_option maxRecDepth 20000 in
theorem gX4_roadClasses_X4_isFirstOfClass : GoodIn wsX4_roadClasses (wsV RX4 284 RX4 yX4_isFirstOfClass wsX4_isFirstOfClass) := goodIn_app (goodIn_of _ (by decide +kernel)) ggX4_roadClasses_X4_isFirstOfClass
theorem dX4_roadClasses_0 : decode cX4_roadClasses 0 = .ok (.iconst 0, 1) := by decide +kernel
theorem dX4_roadClasses_1 : decode cX4_roadClasses 1 = .ok (.istore_n 1, 1) := by decide +kernel
theorem dX4_roadClasses_2 : decode cX4_roadClasses 2 = .ok (.iconst 0, 1) := by decide +kernel
theorem dX4_roadClasses_3 : decode cX4_roadClasses 3 = .ok (.istore_n 2, 1) := by decide +kernel
theorem dX4_roadClasses_4 : decode cX4_roadClasses 4 = .ok (.iload_n 2, 1) := by decide +kernel
theorem dX4_roadClasses_5 : decode cX4_roadClasses 5 = .ok (.aload_n 0, 1) := by decide +kernel
theorem dX4_roadClasses_6 : decode cX4_roadClasses 6 = .ok (.getfield 148, 3) := by decide +kernel
theorem dX4_roadClasses_9 : decode cX4_roadClasses 9 = .ok (.if_icmp .ge 20, 3) := by decide +kernel
theorem dX4_roadClasses_12 : decode cX4_roadClasses 12 = .ok (.aload_n 0, 1) := by decide +kernel
theorem dX4_roadClasses_13 : decode cX4_roadClasses 13 = .ok (.iload_n 2, 1) := by decide +kernel
theorem dX4_roadClasses_14 : decode cX4_roadClasses 14 = .ok (.invokevirtual 284, 3) := by decide +kernel
theorem dX4_roadClasses_17 : decode cX4_roadClasses 17 = .ok (.ifCond .eq 6, 3) := by decide +kernel
theorem dX4_roadClasses_20 : decode cX4_roadClasses 20 = .ok (.iinc 1 1, 3) := by decide +kernel
theorem dX4_roadClasses_23 : decode cX4_roadClasses 23 = .ok (.iinc 2 1, 3) := by decide +kernel
theorem dX4_roadClasses_26 : decode cX4_roadClasses 26 = .ok (.goto (-22), 3) := by decide +kernel
theorem dX4_roadClasses_29 : decode cX4_roadClasses 29 = .ok (.iload_n 1, 1) := by decide +kernel
theorem dX4_roadClasses_30 : decode cX4_roadClasses 30 = .ok (.ireturn, 1) := by decide +kernel
set_option maxRecDepth 20000 in
theorem ggX4_isFirstOfClass_X4_alike : GoodIn wsX4_isFirstOfClass wsX4_alike := goodIn_rq _ [5, 6, 7, 8, 9, 10, 11, 12, 4, 13, 14, 15, 16, 17, 18, 19, 20, 21, 22, 23, 24, 25, 26, 27, 28, 29, 30, 31, 32, 33, 34, 35, 36, 37, 38, 39, 40, 41] (by decide +kernel) (by decide +kernel)
set_option maxRecDepth 20000 in
theorem gX4_isFirstOfClass_X4_alike : GoodIn wsX4_isFirstOfClass (wsV RX4 287 RX4 yX4_alike wsX4_alike) := goodIn_app (goodIn_of _ (by decide +kernel)) ggX4_isFirstOfClass_X4_alike
theorem dX4_isFirstOfClass_0 : decode cX4_isFirstOfClass 0 = .ok (.iconst 0, 1) := by decide +kernel
theorem dX4_isFirstOfClass_1 : decode cX4_isFirstOfClass 1 = .ok (.istore_n 2, 1) := by decide +kernel
theorem dX4_isFirstOfClass_2 : decode cX4_isFirstOfClass 2 = .ok (.iload_n 2, 1) := by decide +kernel
theorem dX4_isFirstOfClass_3 : decode cX4_isFirstOfClass 3 = .ok (.iload_n 1, 1) := by decide +kernel
theorem dX4_isFirstOfClass_4 : decode cX4_isFirstOfClass 4 = .ok (.if_icmp .ge 20, 3) := by decide +kernel
theorem dX4_isFirstOfClass_7 : decode cX4_isFirstOfClass 7 = .ok (.aload_n 0, 1) := by decide +kernel
theorem dX4_isFirstOfClass_8 : decode cX4_isFirstOfClass 8 = .ok (.iload_n 2, 1) := by decide +kernel
theorem dX4_isFirstOfClass_9 : decode cX4_isFirstOfClass 9 = .ok (.iload_n 1, 1) := by decide +kernel
theorem dX4_isFirstOfClass_10 : decode cX4_isFirstOfClass 10 = .ok (.invokevirtual 287, 3) := by decide +kernel
theorem dX4_isFirstOfClass_13 : decode cX4_isFirstOfClass 13 = .ok (.ifCond .lt 5, 3) := by decide +kernel
theorem dX4_isFirstOfClass_16 : decode cX4_isFirstOfClass 16 = .ok (.iconst 0, 1) := by decide +kernel
theorem dX4_isFirstOfClass_17 : decode cX4_isFirstOfClass 17 = .ok (.ireturn, 1) := by decide +kernel
theorem dX4_isFirstOfClass_18 : decode cX4_isFirstOfClass 18 = .ok (.iinc 2 1, 3) := by decide +kernel
theorem dX4_isFirstOfClass_21 : decode cX4_isFirstOfClass 21 = .ok (.goto (-19), 3) := by decide +kernel
theorem dX4_isFirstOfClass_24 : decode cX4_isFirstOfClass 24 = .ok (.iconst 1, 1) := by decide +kernel
theorem dX4_isFirstOfClass_25 : decode cX4_isFirstOfClass 25 = .ok (.ireturn, 1) := by decide +kernel
theorem dX4_code_0 : decode cX4_code 0 = .ok (.iload_n 0, 1) := by decide +kernel
theorem dX4_code_1 : decode cX4_code 1 = .ok (.iconst 1, 1) := by decide +kernel
theorem dX4_code_2 : decode cX4_code 2 = .ok (.if_icmp .ne 8, 3) := by decide +kernel
theorem dX4_code_5 : decode cX4_code 5 = .ok (.bipush 82, 2) := by decide +kernel
theorem dX4_code_7 : decode cX4_code 7 = .ok (.goto 5, 3) := by decide +kernel
theorem dX4_code_10 : decode cX4_code 10 = .ok (.bipush 76, 2) := by decide +kernel
theorem dX4_code_12 : decode cX4_code 12 = .ok (.ireturn, 1) := by decide +kernel
theorem dX4_discriminantOf_0 : decode cX4_discriminantOf 0 = .ok (.iload_n 1, 1) := by decide +kernel
theorem dX4_discriminantOf_1 : decode cX4_discriminantOf 1 = .ok (.iload_n 1, 1) := by decide +kernel
theorem dX4_discriminantOf_2 : decode cX4_discriminantOf 2 = .ok (.imul, 1) := by decide +kernel
theorem dX4_discriminantOf_3 : decode cX4_discriminantOf 3 = .ok (.iconst 4, 1) := by decide +kernel
theorem dX4_discriminantOf_4 : decode cX4_discriminantOf 4 = .ok (.iload_n 0, 1) := by decide +kernel
theorem dX4_discriminantOf_5 : decode cX4_discriminantOf 5 = .ok (.imul, 1) := by decide +kernel
theorem dX4_discriminantOf_6 : decode cX4_discriminantOf 6 = .ok (.iload_n 2, 1) := by decide +kernel
theorem dX4_discriminantOf_7 : decode cX4_discriminantOf 7 = .ok (.imul, 1) := by decide +kernel
theorem dX4_discriminantOf_8 : decode cX4_discriminantOf 8 = .ok (.isub, 1) := by decide +kernel
theorem dX4_discriminantOf_9 : decode cX4_discriminantOf 9 = .ok (.ireturn, 1) := by decide +kernel
theorem dX4_commonDivisor_0 : decode cX4_commonDivisor 0 = .ok (.iload_n 0, 1) := by decide +kernel
theorem dX4_commonDivisor_1 : decode cX4_commonDivisor 1 = .ok (.invokestatic 290, 3) := by decide +kernel
theorem dX4_commonDivisor_4 : decode cX4_commonDivisor 4 = .ok (.istore_n 2, 1) := by decide +kernel
theorem dX4_commonDivisor_5 : decode cX4_commonDivisor 5 = .ok (.iload_n 1, 1) := by decide +kernel
theorem dX4_commonDivisor_6 : decode cX4_commonDivisor 6 = .ok (.invokestatic 290, 3) := by decide +kernel
theorem dX4_commonDivisor_9 : decode cX4_commonDivisor 9 = .ok (.istore_n 3, 1) := by decide +kernel
theorem dX4_commonDivisor_10 : decode cX4_commonDivisor 10 = .ok (.iconst 0, 1) := by decide +kernel
theorem dX4_commonDivisor_11 : decode cX4_commonDivisor 11 = .ok (.istore 4, 2) := by decide +kernel
theorem dX4_commonDivisor_13 : decode cX4_commonDivisor 13 = .ok (.iload 4, 2) := by decide +kernel
theorem dX4_commonDivisor_15 : decode cX4_commonDivisor 15 = .ok (.bipush 100, 2) := by decide +kernel
theorem dX4_commonDivisor_17 : decode cX4_commonDivisor 17 = .ok (.if_icmp .ge 23, 3) := by decide +kernel
theorem dX4_commonDivisor_20 : decode cX4_commonDivisor 20 = .ok (.iload_n 3, 1) := by decide +kernel
theorem dX4_commonDivisor_21 : decode cX4_commonDivisor 21 = .ok (.ifCond .le 19, 3) := by decide +kernel
theorem dX4_commonDivisor_24 : decode cX4_commonDivisor 24 = .ok (.iload_n 2, 1) := by decide +kernel
theorem dX4_commonDivisor_25 : decode cX4_commonDivisor 25 = .ok (.iload_n 3, 1) := by decide +kernel
theorem dX4_commonDivisor_26 : decode cX4_commonDivisor 26 = .ok (.irem, 1) := by decide +kernel
theorem dX4_commonDivisor_27 : decode cX4_commonDivisor 27 = .ok (.istore 5, 2) := by decide +kernel
theorem dX4_commonDivisor_29 : decode cX4_commonDivisor 29 = .ok (.iload_n 3, 1) := by decide +kernel
theorem dX4_commonDivisor_30 : decode cX4_commonDivisor 30 = .ok (.istore_n 2, 1) := by decide +kernel
theorem dX4_commonDivisor_31 : decode cX4_commonDivisor 31 = .ok (.iload 5, 2) := by decide +kernel
theorem dX4_commonDivisor_33 : decode cX4_commonDivisor 33 = .ok (.istore_n 3, 1) := by decide +kernel
theorem dX4_commonDivisor_34 : decode cX4_commonDivisor 34 = .ok (.iinc 4 1, 3) := by decide +kernel
theorem dX4_commonDivisor_37 : decode cX4_commonDivisor 37 = .ok (.goto (-24), 3) := by decide +kernel
theorem dX4_commonDivisor_40 : decode cX4_commonDivisor 40 = .ok (.iconst 1, 1) := by decide +kernel
theorem dX4_commonDivisor_41 : decode cX4_commonDivisor 41 = .ok (.iload_n 2, 1) := by decide +kernel
theorem dX4_commonDivisor_42 : decode cX4_commonDivisor 42 = .ok (.invokestatic 295, 3) := by decide +kernel
theorem dX4_commonDivisor_45 : decode cX4_commonDivisor 45 = .ok (.ireturn, 1) := by decide +kernel
theorem dJ6_bitCount_0f7a4_0 : decode cJ6_bitCount_0f7a4 0 = .ok (.iload_n 0, 1) := by decide +kernel
theorem dJ6_bitCount_0f7a4_1 : decode cJ6_bitCount_0f7a4 1 = .ok (.iload_n 0, 1) := by decide +kernel
theorem dJ6_bitCount_0f7a4_2 : decode cJ6_bitCount_0f7a4 2 = .ok (.iconst 1, 1) := by decide +kernel
theorem dJ6_bitCount_0f7a4_3 : decode cJ6_bitCount_0f7a4 3 = .ok (.iushr, 1) := by decide +kernel
theorem dJ6_bitCount_0f7a4_4 : decode cJ6_bitCount_0f7a4 4 = .ok (.ldc_w 265, 3) := by decide +kernel
theorem dJ6_bitCount_0f7a4_7 : decode cJ6_bitCount_0f7a4 7 = .ok (.iand, 1) := by decide +kernel
theorem dJ6_bitCount_0f7a4_8 : decode cJ6_bitCount_0f7a4 8 = .ok (.isub, 1) := by decide +kernel
theorem dJ6_bitCount_0f7a4_9 : decode cJ6_bitCount_0f7a4 9 = .ok (.istore_n 0, 1) := by decide +kernel
theorem dJ6_bitCount_0f7a4_10 : decode cJ6_bitCount_0f7a4 10 = .ok (.iload_n 0, 1) := by decide +kernel
theorem dJ6_bitCount_0f7a4_11 : decode cJ6_bitCount_0f7a4 11 = .ok (.ldc_w 266, 3) := by decide +kernel
theorem dJ6_bitCount_0f7a4_14 : decode cJ6_bitCount_0f7a4 14 = .ok (.iand, 1) := by decide +kernel
theorem dJ6_bitCount_0f7a4_15 : decode cJ6_bitCount_0f7a4 15 = .ok (.iload_n 0, 1) := by decide +kernel
theorem dJ6_bitCount_0f7a4_16 : decode cJ6_bitCount_0f7a4 16 = .ok (.iconst 2, 1) := by decide +kernel
theorem dJ6_bitCount_0f7a4_17 : decode cJ6_bitCount_0f7a4 17 = .ok (.iushr, 1) := by decide +kernel
theorem dJ6_bitCount_0f7a4_18 : decode cJ6_bitCount_0f7a4 18 = .ok (.ldc_w 266, 3) := by decide +kernel
theorem dJ6_bitCount_0f7a4_21 : decode cJ6_bitCount_0f7a4 21 = .ok (.iand, 1) := by decide +kernel
theorem dJ6_bitCount_0f7a4_22 : decode cJ6_bitCount_0f7a4 22 = .ok (.iadd, 1) := by decide +kernel
theorem dJ6_bitCount_0f7a4_23 : decode cJ6_bitCount_0f7a4 23 = .ok (.istore_n 0, 1) := by decide +kernel
theorem dJ6_bitCount_0f7a4_24 : decode cJ6_bitCount_0f7a4 24 = .ok (.iload_n 0, 1) := by decide +kernel
theorem dJ6_bitCount_0f7a4_25 : decode cJ6_bitCount_0f7a4 25 = .ok (.iload_n 0, 1) := by decide +kernel
theorem dJ6_bitCount_0f7a4_26 : decode cJ6_bitCount_0f7a4 26 = .ok (.iconst 4, 1) := by decide +kernel
theorem dJ6_bitCount_0f7a4_27 : decode cJ6_bitCount_0f7a4 27 = .ok (.iushr, 1) := by decide +kernel
theorem dJ6_bitCount_0f7a4_28 : decode cJ6_bitCount_0f7a4 28 = .ok (.iadd, 1) := by decide +kernel
theorem dJ6_bitCount_0f7a4_29 : decode cJ6_bitCount_0f7a4 29 = .ok (.ldc_w 267, 3) := by decide +kernel
theorem dJ6_bitCount_0f7a4_32 : decode cJ6_bitCount_0f7a4 32 = .ok (.iand, 1) := by decide +kernel
theorem dJ6_bitCount_0f7a4_33 : decode cJ6_bitCount_0f7a4 33 = .ok (.istore_n 0, 1) := by decide +kernel
theorem dJ6_bitCount_0f7a4_34 : decode cJ6_bitCount_0f7a4 34 = .ok (.iload_n 0, 1) := by decide +kernel
theorem dJ6_bitCount_0f7a4_35 : decode cJ6_bitCount_0f7a4 35 = .ok (.iload_n 0, 1) := by decide +kernel
theorem dJ6_bitCount_0f7a4_36 : decode cJ6_bitCount_0f7a4 36 = .ok (.bipush 8, 2) := by decide +kernel
theorem dJ6_bitCount_0f7a4_38 : decode cJ6_bitCount_0f7a4 38 = .ok (.iushr, 1) := by decide +kernel
theorem dJ6_bitCount_0f7a4_39 : decode cJ6_bitCount_0f7a4 39 = .ok (.iadd, 1) := by decide +kernel
theorem dJ6_bitCount_0f7a4_40 : decode cJ6_bitCount_0f7a4 40 = .ok (.istore_n 0, 1) := by decide +kernel
theorem dJ6_bitCount_0f7a4_41 : decode cJ6_bitCount_0f7a4 41 = .ok (.iload_n 0, 1) := by decide +kernel
theorem dJ6_bitCount_0f7a4_42 : decode cJ6_bitCount_0f7a4 42 = .ok (.iload_n 0, 1) := by decide +kernel
theorem dJ6_bitCount_0f7a4_43 : decode cJ6_bitCount_0f7a4 43 = .ok (.bipush 16, 2) := by decide +kernel
theorem dJ6_bitCount_0f7a4_45 : decode cJ6_bitCount_0f7a4 45 = .ok (.iushr, 1) := by decide +kernel
theorem dJ6_bitCount_0f7a4_46 : decode cJ6_bitCount_0f7a4 46 = .ok (.iadd, 1) := by decide +kernel
theorem dJ6_bitCount_0f7a4_47 : decode cJ6_bitCount_0f7a4 47 = .ok (.istore_n 0, 1) := by decide +kernel
theorem dJ6_bitCount_0f7a4_48 : decode cJ6_bitCount_0f7a4 48 = .ok (.iload_n 0, 1) := by decide +kernel
theorem dJ6_bitCount_0f7a4_49 : decode cJ6_bitCount_0f7a4 49 = .ok (.bipush 63, 2) := by decide +kernel
theorem dJ6_bitCount_0f7a4_51 : decode cJ6_bitCount_0f7a4 51 = .ok (.iand, 1) := by decide +kernel
theorem dJ6_bitCount_0f7a4_52 : decode cJ6_bitCount_0f7a4 52 = .ok (.ireturn, 1) := by decide +kernel
theorem dJ9_abs_0f7a4_0 : decode cJ9_abs_0f7a4 0 = .ok (.iload_n 0, 1) := by decide +kernel
theorem dJ9_abs_0f7a4_1 : decode cJ9_abs_0f7a4 1 = .ok (.ifCond .ge 8, 3) := by decide +kernel
theorem dJ9_abs_0f7a4_4 : decode cJ9_abs_0f7a4 4 = .ok (.iload_n 0, 1) := by decide +kernel
theorem dJ9_abs_0f7a4_5 : decode cJ9_abs_0f7a4 5 = .ok (.ineg, 1) := by decide +kernel
theorem dJ9_abs_0f7a4_6 : decode cJ9_abs_0f7a4 6 = .ok (.goto 4, 3) := by decide +kernel
theorem dJ9_abs_0f7a4_9 : decode cJ9_abs_0f7a4 9 = .ok (.iload_n 0, 1) := by decide +kernel
theorem dJ9_abs_0f7a4_10 : decode cJ9_abs_0f7a4 10 = .ok (.ireturn, 1) := by decide +kernel
theorem dJ9_max_7cf53_0 : decode cJ9_max_7cf53 0 = .ok (.iload_n 0, 1) := by decide +kernel
theorem dJ9_max_7cf53_1 : decode cJ9_max_7cf53 1 = .ok (.iload_n 1, 1) := by decide +kernel
theorem dJ9_max_7cf53_2 : decode cJ9_max_7cf53 2 = .ok (.if_icmp .lt 7, 3) := by decide +kernel
theorem dJ9_max_7cf53_5 : decode cJ9_max_7cf53 5 = .ok (.iload_n 0, 1) := by decide +kernel
theorem dJ9_max_7cf53_6 : decode cJ9_max_7cf53 6 = .ok (.goto 4, 3) := by decide +kernel
theorem dJ9_max_7cf53_9 : decode cJ9_max_7cf53 9 = .ok (.iload_n 1, 1) := by decide +kernel
theorem dJ9_max_7cf53_10 : decode cJ9_max_7cf53 10 = .ok (.ireturn, 1) := by decide +kernel
theorem dL_cell_0 : decode cL_cell 0 = .ok (.iload_n 1, 1) := by decide +kernel
theorem dL_cell_1 : decode cL_cell 1 = .ok (.aload_n 0, 1) := by decide +kernel
theorem dL_cell_2 : decode cL_cell 2 = .ok (.arraylength, 1) := by decide +kernel
theorem dL_cell_3 : decode cL_cell 3 = .ok (.if_icmp .ge 9, 3) := by decide +kernel
theorem dL_cell_6 : decode cL_cell 6 = .ok (.aload_n 0, 1) := by decide +kernel
theorem dL_cell_7 : decode cL_cell 7 = .ok (.iload_n 1, 1) := by decide +kernel
theorem dL_cell_8 : decode cL_cell 8 = .ok (.iaload, 1) := by decide +kernel
theorem dL_cell_9 : decode cL_cell 9 = .ok (.goto 9, 3) := by decide +kernel
theorem dL_cell_12 : decode cL_cell 12 = .ok (.ldc 7, 2) := by decide +kernel
theorem dL_cell_14 : decode cL_cell 14 = .ok (.iload_n 1, 1) := by decide +kernel
theorem dL_cell_15 : decode cL_cell 15 = .ok (.iconst 1, 1) := by decide +kernel
theorem dL_cell_16 : decode cL_cell 16 = .ok (.iadd, 1) := by decide +kernel
theorem dL_cell_17 : decode cL_cell 17 = .ok (.imul, 1) := by decide +kernel
theorem dL_cell_18 : decode cL_cell 18 = .ok (.ireturn, 1) := by decide +kernel
theorem dL_at_0 : decode cL_at 0 = .ok (.iload_n 0, 1) := by decide +kernel
theorem dL_at_1 : decode cL_at 1 = .ok (.iconst 1, 1) := by decide +kernel
theorem dL_at_2 : decode cL_at 2 = .ok (.iushr, 1) := by decide +kernel
theorem dL_at_3 : decode cL_at 3 = .ok (.iload_n 1, 1) := by decide +kernel
theorem dL_at_4 : decode cL_at 4 = .ok (.irem, 1) := by decide +kernel
theorem dL_at_5 : decode cL_at 5 = .ok (.ireturn, 1) := by decide +kernel
theorem dL_size_0 : decode cL_size 0 = .ok (.iload_n 0, 1) := by decide +kernel
theorem dL_size_1 : decode cL_size 1 = .ok (.bipush 31, 2) := by decide +kernel
theorem dL_size_3 : decode cL_size 3 = .ok (.iand, 1) := by decide +kernel
theorem dL_size_4 : decode cL_size 4 = .ok (.ireturn, 1) := by decide +kernel
theorem dL_bit_0 : decode cL_bit 0 = .ok (.iload_n 0, 1) := by decide +kernel
theorem dL_bit_1 : decode cL_bit 1 = .ok (.iconst 5, 1) := by decide +kernel
theorem dL_bit_2 : decode cL_bit 2 = .ok (.iload_n 1, 1) := by decide +kernel
theorem dL_bit_3 : decode cL_bit 3 = .ok (.iadd, 1) := by decide +kernel
theorem dL_bit_4 : decode cL_bit 4 = .ok (.ishr, 1) := by decide +kernel
theorem dL_bit_5 : decode cL_bit 5 = .ok (.iconst 1, 1) := by decide +kernel
theorem dL_bit_6 : decode cL_bit 6 = .ok (.iand, 1) := by decide +kernel
theorem dL_bit_7 : decode cL_bit 7 = .ok (.ireturn, 1) := by decide +kernel
set_option maxRecDepth 20000 in
theorem ggL_round_L_size : GoodIn wsL_round wsL_size := goodIn_rq _ [4] (by decide +kernel) (by decide +kernel)
set_option maxRecDepth 20000 in
theorem gL_round_L_size : GoodIn wsL_round (va_wsS RL 8 yL_size wsL_size) := goodIn_app (goodIn_of _ (by decide +kernel)) ggL_round_L_size
set_option maxRecDepth 20000 in
theorem ggL_round_L_bit : GoodIn wsL_round wsL_bit := goodIn_rq _ [7] (by decide +kernel) (by decide +kernel)
set_option maxRecDepth 20000 in
theorem gL_round_L_bit : GoodIn wsL_round (va_wsS RL 14 yL_bit wsL_bit) := goodIn_app (goodIn_of _ (by decide +kernel)) ggL_round_L_bit
theorem dL_round_0 : decode cL_round 0 = .ok (.iload_n 0, 1) := by decide +kernel
theorem dL_round_1 : decode cL_round 1 = .ok (.invokestatic 8, 3) := by decide +kernel
theorem dL_round_4 : decode cL_round 4 = .ok (.istore_n 2, 1) := by decide +kernel
theorem dL_round_5 : decode cL_round 5 = .ok (.iload_n 0, 1) := by decide +kernel
theorem dL_round_6 : decode cL_round 6 = .ok (.iload_n 1, 1) := by decide +kernel
theorem dL_round_7 : decode cL_round 7 = .ok (.iload_n 2, 1) := by decide +kernel
theorem dL_round_8 : decode cL_round 8 = .ok (.irem, 1) := by decide +kernel
theorem dL_round_9 : decode cL_round 9 = .ok (.iload_n 2, 1) := by decide +kernel
theorem dL_round_10 : decode cL_round 10 = .ok (.iadd, 1) := by decide +kernel
theorem dL_round_11 : decode cL_round 11 = .ok (.iload_n 2, 1) := by decide +kernel
theorem dL_round_12 : decode cL_round 12 = .ok (.irem, 1) := by decide +kernel
theorem dL_round_13 : decode cL_round 13 = .ok (.invokestatic 14, 3) := by decide +kernel
theorem dL_round_16 : decode cL_round 16 = .ok (.ireturn, 1) := by decide +kernel
set_option maxRecDepth 20000 in
theorem ggL_with_L_size : GoodIn wsL_with wsL_size := goodIn_rq _ [4] (by decide +kernel) (by decide +kernel)
set_option maxRecDepth 20000 in
theorem gL_with_L_size : GoodIn wsL_with (va_wsS RL 8 yL_size wsL_size) := goodIn_app (goodIn_of _ (by decide +kernel)) ggL_with_L_size
theorem dL_with_0 : decode cL_with 0 = .ok (.iload_n 0, 1) := by decide +kernel
theorem dL_with_1 : decode cL_with 1 = .ok (.iconst 1, 1) := by decide +kernel
theorem dL_with_2 : decode cL_with 2 = .ok (.iadd, 1) := by decide +kernel
theorem dL_with_3 : decode cL_with 3 = .ok (.iload_n 1, 1) := by decide +kernel
theorem dL_with_4 : decode cL_with 4 = .ok (.iconst 5, 1) := by decide +kernel
theorem dL_with_5 : decode cL_with 5 = .ok (.iload_n 0, 1) := by decide +kernel
theorem dL_with_6 : decode cL_with 6 = .ok (.invokestatic 8, 3) := by decide +kernel
theorem dL_with_9 : decode cL_with 9 = .ok (.iadd, 1) := by decide +kernel
theorem dL_with_10 : decode cL_with 10 = .ok (.ishl, 1) := by decide +kernel
theorem dL_with_11 : decode cL_with 11 = .ok (.ior, 1) := by decide +kernel
theorem dL_with_12 : decode cL_with 12 = .ok (.ireturn, 1) := by decide +kernel
set_option maxRecDepth 20000 in
theorem ggL_turned_L_size : GoodIn wsL_turned wsL_size := goodIn_rq _ [4] (by decide +kernel) (by decide +kernel)
set_option maxRecDepth 20000 in
theorem gL_turned_L_size : GoodIn wsL_turned (va_wsS RL 8 yL_size wsL_size) := goodIn_app (goodIn_of _ (by decide +kernel)) ggL_turned_L_size
set_option maxRecDepth 20000 in
theorem ggL_turned_L_round : GoodIn wsL_turned wsL_round := goodIn_rq _ [7, 1, 2, 3, 4, 8, 9, 10] (by decide +kernel) (by decide +kernel)
set_option maxRecDepth 20000 in
theorem gL_turned_L_round : GoodIn wsL_turned (va_wsS RL 18 yL_round wsL_round) := goodIn_app (goodIn_of _ (by decide +kernel)) ggL_turned_L_round
set_option maxRecDepth 20000 in
theorem ggL_turned_L_with : GoodIn wsL_turned wsL_with := goodIn_rq _ [13, 1, 2, 3, 4] (by decide +kernel) (by decide +kernel)
set_option maxRecDepth 20000 in
theorem gL_turned_L_with : GoodIn wsL_turned (va_wsS RL 21 yL_with wsL_with) := goodIn_app (goodIn_of _ (by decide +kernel)) ggL_turned_L_with
theorem dL_turned_0 : decode cL_turned 0 = .ok (.iconst 0, 1) := by decide +kernel
theorem dL_turned_1 : decode cL_turned 1 = .ok (.istore_n 2, 1) := by decide +kernel
theorem dL_turned_2 : decode cL_turned 2 = .ok (.iconst 0, 1) := by decide +kernel
theorem dL_turned_3 : decode cL_turned 3 = .ok (.istore_n 3, 1) := by decide +kernel
theorem dL_turned_4 : decode cL_turned 4 = .ok (.iload_n 3, 1) := by decide +kernel
theorem dL_turned_5 : decode cL_turned 5 = .ok (.iload_n 0, 1) := by decide +kernel
theorem dL_turned_6 : decode cL_turned 6 = .ok (.invokestatic 8, 3) := by decide +kernel
theorem dL_turned_9 : decode cL_turned 9 = .ok (.if_icmp .ge 21, 3) := by decide +kernel
theorem dL_turned_12 : decode cL_turned 12 = .ok (.iload_n 2, 1) := by decide +kernel
theorem dL_turned_13 : decode cL_turned 13 = .ok (.iload_n 0, 1) := by decide +kernel
theorem dL_turned_14 : decode cL_turned 14 = .ok (.iload_n 3, 1) := by decide +kernel
theorem dL_turned_15 : decode cL_turned 15 = .ok (.iload_n 1, 1) := by decide +kernel
theorem dL_turned_16 : decode cL_turned 16 = .ok (.iadd, 1) := by decide +kernel
theorem dL_turned_17 : decode cL_turned 17 = .ok (.invokestatic 18, 3) := by decide +kernel
theorem dL_turned_20 : decode cL_turned 20 = .ok (.invokestatic 21, 3) := by decide +kernel
theorem dL_turned_23 : decode cL_turned 23 = .ok (.istore_n 2, 1) := by decide +kernel
theorem dL_turned_24 : decode cL_turned 24 = .ok (.iinc 3 1, 3) := by decide +kernel
theorem dL_turned_27 : decode cL_turned 27 = .ok (.goto (-23), 3) := by decide +kernel
theorem dL_turned_30 : decode cL_turned 30 = .ok (.iload_n 2, 1) := by decide +kernel
theorem dL_turned_31 : decode cL_turned 31 = .ok (.ireturn, 1) := by decide +kernel
end
section
set_option maxRecDepth 20000 in
theorem ggL_back_L_size : GoodIn wsL_back wsL_size := goodIn_rq _ [4] (by decide +kernel) (by decide +kernel)
set_option maxRecDepth 20000 in
theorem gL_back_L_size : GoodIn wsL_back (va_wsS RL 8 yL_size wsL_size) := goodIn_app (goodIn_of _ (by decide +kernel)) ggL_back_L_size
set_option maxRecDepth 20000 in
theorem ggL_back_L_bit : GoodIn wsL_back wsL_bit := goodIn_rq _ [7] (by decide +kernel) (by decide +kernel)
set_option maxRecDepth 20000 in
theorem gL_back_L_bit : GoodIn wsL_back (va_wsS RL 14 yL_bit wsL_bit) := goodIn_app (goodIn_of _ (by decide +kernel)) ggL_back_L_bit
set_option maxRecDepth 20000 in
theorem ggL_back_L_with : GoodIn wsL_back wsL_with := goodIn_rq _ [10, 1, 2, 3, 4] (by decide +kernel) (by decide +kernel)
set_option maxRecDepth 20000 in
theorem gL_back_L_with : GoodIn wsL_back (va_wsS RL 21 yL_with wsL_with) := goodIn_app (goodIn_of _ (by decide +kernel)) ggL_back_L_with
theorem dL_back_0 : decode cL_back 0 = .ok (.iconst 0, 1) := by decide +kernel
theorem dL_back_1 : decode cL_back 1 = .ok (.istore_n 1, 1) := by decide +kernel
theorem dL_back_2 : decode cL_back 2 = .ok (.iload_n 0, 1) := by decide +kernel
theorem dL_back_3 : decode cL_back 3 = .ok (.invokestatic 8, 3) := by decide +kernel
theorem dL_back_6 : decode cL_back 6 = .ok (.iconst 1, 1) := by decide +kernel
theorem dL_back_7 : decode cL_back 7 = .ok (.isub, 1) := by decide +kernel
theorem dL_back_8 : decode cL_back 8 = .ok (.istore_n 2, 1) := by decide +kernel
theorem dL_back_9 : decode cL_back 9 = .ok (.iload_n 2, 1) := by decide +kernel
theorem dL_back_10 : decode cL_back 10 = .ok (.ifCond .lt 19, 3) := by decide +kernel
theorem dL_back_13 : decode cL_back 13 = .ok (.iload_n 1, 1) := by decide +kernel
theorem dL_back_14 : decode cL_back 14 = .ok (.iload_n 0, 1) := by decide +kernel
theorem dL_back_15 : decode cL_back 15 = .ok (.iload_n 2, 1) := by decide +kernel
theorem dL_back_16 : decode cL_back 16 = .ok (.invokestatic 14, 3) := by decide +kernel
theorem dL_back_19 : decode cL_back 19 = .ok (.invokestatic 21, 3) := by decide +kernel
theorem dL_back_22 : decode cL_back 22 = .ok (.istore_n 1, 1) := by decide +kernel
theorem dL_back_23 : decode cL_back 23 = .ok (.iinc 2 (-1), 3) := by decide +kernel
theorem dL_back_26 : decode cL_back 26 = .ok (.goto (-17), 3) := by decide +kernel
theorem dL_back_29 : decode cL_back 29 = .ok (.iload_n 1, 1) := by decide +kernel
theorem dL_back_30 : decode cL_back 30 = .ok (.ireturn, 1) := by decide +kernel
set_option maxRecDepth 20000 in
theorem ggL_mirror_L_size : GoodIn wsL_mirror wsL_size := goodIn_rq _ [4] (by decide +kernel) (by decide +kernel)
set_option maxRecDepth 20000 in
theorem gL_mirror_L_size : GoodIn wsL_mirror (va_wsS RL 8 yL_size wsL_size) := goodIn_app (goodIn_of _ (by decide +kernel)) ggL_mirror_L_size
set_option maxRecDepth 20000 in
theorem ggL_mirror_L_bit : GoodIn wsL_mirror wsL_bit := goodIn_rq _ [7] (by decide +kernel) (by decide +kernel)
set_option maxRecDepth 20000 in
theorem gL_mirror_L_bit : GoodIn wsL_mirror (va_wsS RL 14 yL_bit wsL_bit) := goodIn_app (goodIn_of _ (by decide +kernel)) ggL_mirror_L_bit
set_option maxRecDepth 20000 in
theorem ggL_mirror_L_with : GoodIn wsL_mirror wsL_with := goodIn_rq _ [10, 1, 2, 3, 4] (by decide +kernel) (by decide +kernel)
set_option maxRecDepth 20000 in
theorem gL_mirror_L_with : GoodIn wsL_mirror (va_wsS RL 21 yL_with wsL_with) := goodIn_app (goodIn_of _ (by decide +kernel)) ggL_mirror_L_with
theorem dL_mirror_0 : decode cL_mirror 0 = .ok (.iconst 0, 1) := by decide +kernel
theorem dL_mirror_1 : decode cL_mirror 1 = .ok (.istore_n 1, 1) := by decide +kernel
theorem dL_mirror_2 : decode cL_mirror 2 = .ok (.iconst 0, 1) := by decide +kernel
theorem dL_mirror_3 : decode cL_mirror 3 = .ok (.istore_n 2, 1) := by decide +kernel
theorem dL_mirror_4 : decode cL_mirror 4 = .ok (.iload_n 2, 1) := by decide +kernel
theorem dL_mirror_5 : decode cL_mirror 5 = .ok (.iload_n 0, 1) := by decide +kernel
theorem dL_mirror_6 : decode cL_mirror 6 = .ok (.invokestatic 8, 3) := by decide +kernel
theorem dL_mirror_9 : decode cL_mirror 9 = .ok (.if_icmp .ge 21, 3) := by decide +kernel
theorem dL_mirror_12 : decode cL_mirror 12 = .ok (.iload_n 1, 1) := by decide +kernel
theorem dL_mirror_13 : decode cL_mirror 13 = .ok (.iconst 1, 1) := by decide +kernel
theorem dL_mirror_14 : decode cL_mirror 14 = .ok (.iload_n 0, 1) := by decide +kernel
theorem dL_mirror_15 : decode cL_mirror 15 = .ok (.iload_n 2, 1) := by decide +kernel
theorem dL_mirror_16 : decode cL_mirror 16 = .ok (.invokestatic 14, 3) := by decide +kernel
theorem dL_mirror_19 : decode cL_mirror 19 = .ok (.isub, 1) := by decide +kernel
theorem dL_mirror_20 : decode cL_mirror 20 = .ok (.invokestatic 21, 3) := by decide +kernel
theorem dL_mirror_23 : decode cL_mirror 23 = .ok (.istore_n 1, 1) := by decide +kernel
theorem dL_mirror_24 : decode cL_mirror 24 = .ok (.iinc 2 1, 3) := by decide +kernel
theorem dL_mirror_27 : decode cL_mirror 27 = .ok (.goto (-23), 3) := by decide +kernel
theorem dL_mirror_30 : decode cL_mirror 30 = .ok (.iload_n 1, 1) := by decide +kernel
theorem dL_mirror_31 : decode cL_mirror 31 = .ok (.ireturn, 1) := by decide +kernel
set_option maxRecDepth 20000 in
theorem ggL_join_L_size : GoodIn wsL_join wsL_size := goodIn_rq _ [4] (by decide +kernel) (by decide +kernel)
set_option maxRecDepth 20000 in
theorem gL_join_L_size : GoodIn wsL_join (va_wsS RL 8 yL_size wsL_size) := goodIn_app (goodIn_of _ (by decide +kernel)) ggL_join_L_size
set_option maxRecDepth 20000 in
theorem ggL_join_L_bit : GoodIn wsL_join wsL_bit := goodIn_rq _ [7] (by decide +kernel) (by decide +kernel)
set_option maxRecDepth 20000 in
theorem gL_join_L_bit : GoodIn wsL_join (va_wsS RL 14 yL_bit wsL_bit) := goodIn_app (goodIn_of _ (by decide +kernel)) ggL_join_L_bit
set_option maxRecDepth 20000 in
theorem ggL_join_L_with : GoodIn wsL_join wsL_with := goodIn_rq _ [10, 1, 2, 3, 4] (by decide +kernel) (by decide +kernel)
set_option maxRecDepth 20000 in
theorem gL_join_L_with : GoodIn wsL_join (va_wsS RL 21 yL_with wsL_with) := goodIn_app (goodIn_of _ (by decide +kernel)) ggL_join_L_with
theorem dL_join_0 : decode cL_join 0 = .ok (.iload_n 0, 1) := by decide +kernel
theorem dL_join_1 : decode cL_join 1 = .ok (.istore_n 2, 1) := by decide +kernel
theorem dL_join_2 : decode cL_join 2 = .ok (.iconst 0, 1) := by decide +kernel
theorem dL_join_3 : decode cL_join 3 = .ok (.istore_n 3, 1) := by decide +kernel
theorem dL_join_4 : decode cL_join 4 = .ok (.iload_n 3, 1) := by decide +kernel
theorem dL_join_5 : decode cL_join 5 = .ok (.iload_n 1, 1) := by decide +kernel
theorem dL_join_6 : decode cL_join 6 = .ok (.invokestatic 8, 3) := by decide +kernel
theorem dL_join_9 : decode cL_join 9 = .ok (.if_icmp .ge 19, 3) := by decide +kernel
theorem dL_join_12 : decode cL_join 12 = .ok (.iload_n 2, 1) := by decide +kernel
theorem dL_join_13 : decode cL_join 13 = .ok (.iload_n 1, 1) := by decide +kernel
theorem dL_join_14 : decode cL_join 14 = .ok (.iload_n 3, 1) := by decide +kernel
theorem dL_join_15 : decode cL_join 15 = .ok (.invokestatic 14, 3) := by decide +kernel
theorem dL_join_18 : decode cL_join 18 = .ok (.invokestatic 21, 3) := by decide +kernel
theorem dL_join_21 : decode cL_join 21 = .ok (.istore_n 2, 1) := by decide +kernel
theorem dL_join_22 : decode cL_join 22 = .ok (.iinc 3 1, 3) := by decide +kernel
theorem dL_join_25 : decode cL_join 25 = .ok (.goto (-21), 3) := by decide +kernel
theorem dL_join_28 : decode cL_join 28 = .ok (.iload_n 2, 1) := by decide +kernel
theorem dL_join_29 : decode cL_join 29 = .ok (.ireturn, 1) := by decide +kernel
set_option maxRecDepth 20000 in
theorem ggL_rights_L_size : GoodIn wsL_rights wsL_size := goodIn_rq _ [4] (by decide +kernel) (by decide +kernel)
set_option maxRecDepth 20000 in
theorem gL_rights_L_size : GoodIn wsL_rights (va_wsS RL 8 yL_size wsL_size) := goodIn_app (goodIn_of _ (by decide +kernel)) ggL_rights_L_size
set_option maxRecDepth 20000 in
theorem ggL_rights_L_bit : GoodIn wsL_rights wsL_bit := goodIn_rq _ [7] (by decide +kernel) (by decide +kernel)
set_option maxRecDepth 20000 in
theorem gL_rights_L_bit : GoodIn wsL_rights (va_wsS RL 14 yL_bit wsL_bit) := goodIn_app (goodIn_of _ (by decide +kernel)) ggL_rights_L_bit
theorem dL_rights_0 : decode cL_rights 0 = .ok (.iconst 0, 1) := by decide +kernel
theorem dL_rights_1 : decode cL_rights 1 = .ok (.istore_n 1, 1) := by decide +kernel
theorem dL_rights_2 : decode cL_rights 2 = .ok (.iconst 0, 1) := by decide +kernel
theorem dL_rights_3 : decode cL_rights 3 = .ok (.istore_n 2, 1) := by decide +kernel
theorem dL_rights_4 : decode cL_rights 4 = .ok (.iload_n 2, 1) := by decide +kernel
theorem dL_rights_5 : decode cL_rights 5 = .ok (.iload_n 0, 1) := by decide +kernel
theorem dL_rights_6 : decode cL_rights 6 = .ok (.invokestatic 8, 3) := by decide +kernel
theorem dL_rights_9 : decode cL_rights 9 = .ok (.if_icmp .ge 17, 3) := by decide +kernel
theorem dL_rights_12 : decode cL_rights 12 = .ok (.iload_n 1, 1) := by decide +kernel
theorem dL_rights_13 : decode cL_rights 13 = .ok (.iload_n 0, 1) := by decide +kernel
theorem dL_rights_14 : decode cL_rights 14 = .ok (.iload_n 2, 1) := by decide +kernel
theorem dL_rights_15 : decode cL_rights 15 = .ok (.invokestatic 14, 3) := by decide +kernel
theorem dL_rights_18 : decode cL_rights 18 = .ok (.iadd, 1) := by decide +kernel
theorem dL_rights_19 : decode cL_rights 19 = .ok (.istore_n 1, 1) := by decide +kernel
theorem dL_rights_20 : decode cL_rights 20 = .ok (.iinc 2 1, 3) := by decide +kernel
theorem dL_rights_23 : decode cL_rights 23 = .ok (.goto (-19), 3) := by decide +kernel
theorem dL_rights_26 : decode cL_rights 26 = .ok (.iload_n 1, 1) := by decide +kernel
theorem dL_rights_27 : decode cL_rights 27 = .ok (.ireturn, 1) := by decide +kernel
set_option maxRecDepth 20000 in
theorem ggL_isClosed_L_rights : GoodIn wsL_isClosed wsL_rights := goodIn_rq _ [4, 5, 6, 3, 7, 8, 9, 10] (by decide +kernel) (by decide +kernel)
set_option maxRecDepth 20000 in
theorem gL_isClosed_L_rights : GoodIn wsL_isClosed (va_wsS RL 24 yL_rights wsL_rights) := goodIn_app (goodIn_of _ (by decide +kernel)) ggL_isClosed_L_rights
set_option maxRecDepth 20000 in
theorem ggL_isClosed_L_size : GoodIn wsL_isClosed wsL_size := goodIn_rq _ [7] (by decide +kernel) (by decide +kernel)
set_option maxRecDepth 20000 in
theorem gL_isClosed_L_size : GoodIn wsL_isClosed (va_wsS RL 8 yL_size wsL_size) := goodIn_app (goodIn_of _ (by decide +kernel)) ggL_isClosed_L_size
theorem dL_isClosed_0 : decode cL_isClosed 0 = .ok (.iload_n 0, 1) := by decide +kernel
theorem dL_isClosed_1 : decode cL_isClosed 1 = .ok (.invokestatic 24, 3) := by decide +kernel
theorem dL_isClosed_4 : decode cL_isClosed 4 = .ok (.ifCond .le 18, 3) := by decide +kernel
theorem dL_isClosed_7 : decode cL_isClosed 7 = .ok (.iload_n 0, 1) := by decide +kernel
theorem dL_isClosed_8 : decode cL_isClosed 8 = .ok (.invokestatic 24, 3) := by decide +kernel
theorem dL_isClosed_11 : decode cL_isClosed 11 = .ok (.iload_n 0, 1) := by decide +kernel
theorem dL_isClosed_12 : decode cL_isClosed 12 = .ok (.invokestatic 8, 3) := by decide +kernel
theorem dL_isClosed_15 : decode cL_isClosed 15 = .ok (.if_icmp .ge 7, 3) := by decide +kernel
theorem dL_isClosed_18 : decode cL_isClosed 18 = .ok (.iconst 1, 1) := by decide +kernel
theorem dL_isClosed_19 : decode cL_isClosed 19 = .ok (.goto 4, 3) := by decide +kernel
theorem dL_isClosed_22 : decode cL_isClosed 22 = .ok (.iconst 0, 1) := by decide +kernel
theorem dL_isClosed_23 : decode cL_isClosed 23 = .ok (.ireturn, 1) := by decide +kernel
set_option maxRecDepth 20000 in
theorem ggL_rank_L_size : GoodIn wsL_rank wsL_size := goodIn_rq _ [4] (by decide +kernel) (by decide +kernel)
set_option maxRecDepth 20000 in
theorem gL_rank_L_size : GoodIn wsL_rank (va_wsS RL 8 yL_size wsL_size) := goodIn_app (goodIn_of _ (by decide +kernel)) ggL_rank_L_size
set_option maxRecDepth 20000 in
theorem ggL_rank_L_bit : GoodIn wsL_rank wsL_bit := goodIn_rq _ [7] (by decide +kernel) (by decide +kernel)
set_option maxRecDepth 20000 in
theorem gL_rank_L_bit : GoodIn wsL_rank (va_wsS RL 14 yL_bit wsL_bit) := goodIn_app (goodIn_of _ (by decide +kernel)) ggL_rank_L_bit
theorem dL_rank_0 : decode cL_rank 0 = .ok (.iconst 0, 1) := by decide +kernel
theorem dL_rank_1 : decode cL_rank 1 = .ok (.istore_n 1, 1) := by decide +kernel
theorem dL_rank_2 : decode cL_rank 2 = .ok (.iconst 0, 1) := by decide +kernel
theorem dL_rank_3 : decode cL_rank 3 = .ok (.istore_n 2, 1) := by decide +kernel
theorem dL_rank_4 : decode cL_rank 4 = .ok (.iload_n 2, 1) := by decide +kernel
theorem dL_rank_5 : decode cL_rank 5 = .ok (.iload_n 0, 1) := by decide +kernel
theorem dL_rank_6 : decode cL_rank 6 = .ok (.invokestatic 8, 3) := by decide +kernel
theorem dL_rank_9 : decode cL_rank 9 = .ok (.if_icmp .ge 19, 3) := by decide +kernel
theorem dL_rank_12 : decode cL_rank 12 = .ok (.iconst 2, 1) := by decide +kernel
theorem dL_rank_13 : decode cL_rank 13 = .ok (.iload_n 1, 1) := by decide +kernel
theorem dL_rank_14 : decode cL_rank 14 = .ok (.imul, 1) := by decide +kernel
theorem dL_rank_15 : decode cL_rank 15 = .ok (.iload_n 0, 1) := by decide +kernel
theorem dL_rank_16 : decode cL_rank 16 = .ok (.iload_n 2, 1) := by decide +kernel
theorem dL_rank_17 : decode cL_rank 17 = .ok (.invokestatic 14, 3) := by decide +kernel
theorem dL_rank_20 : decode cL_rank 20 = .ok (.iadd, 1) := by decide +kernel
theorem dL_rank_21 : decode cL_rank 21 = .ok (.istore_n 1, 1) := by decide +kernel
theorem dL_rank_22 : decode cL_rank 22 = .ok (.iinc 2 1, 3) := by decide +kernel
theorem dL_rank_25 : decode cL_rank 25 = .ok (.goto (-21), 3) := by decide +kernel
theorem dL_rank_28 : decode cL_rank 28 = .ok (.iload_n 1, 1) := by decide +kernel
theorem dL_rank_29 : decode cL_rank 29 = .ok (.ireturn, 1) := by decide +kernel
set_option maxRecDepth 20000 in
theorem ggL_least_L_size : GoodIn wsL_least wsL_size := goodIn_rq _ [4] (by decide +kernel) (by decide +kernel)
set_option maxRecDepth 20000 in
theorem gL_least_L_size : GoodIn wsL_least (va_wsS RL 8 yL_size wsL_size) := goodIn_app (goodIn_of _ (by decide +kernel)) ggL_least_L_size
set_option maxRecDepth 20000 in
theorem ggL_least_L_turned : GoodIn wsL_least wsL_turned := goodIn_rq _ [7, 1, 2, 3, 4, 8, 9, 10, 11, 12, 13, 14, 15, 16] (by decide +kernel) (by decide +kernel)
set_option maxRecDepth 20000 in
theorem gL_least_L_turned : GoodIn wsL_least (va_wsS RL 27 yL_turned wsL_turned) := goodIn_app (goodIn_of _ (by decide +kernel)) ggL_least_L_turned
set_option maxRecDepth 20000 in
theorem ggL_least_L_rank : GoodIn wsL_least wsL_rank := goodIn_rq _ [19, 1, 2, 3, 4, 11, 12, 13] (by decide +kernel) (by decide +kernel)
set_option maxRecDepth 20000 in
theorem gL_least_L_rank : GoodIn wsL_least (va_wsS RL 30 yL_rank wsL_rank) := goodIn_app (goodIn_of _ (by decide +kernel)) ggL_least_L_rank
theorem dL_least_0 : decode cL_least 0 = .ok (.iload_n 0, 1) := by decide +kernel
theorem dL_least_1 : decode cL_least 1 = .ok (.istore_n 1, 1) := by decide +kernel
theorem dL_least_2 : decode cL_least 2 = .ok (.iconst 1, 1) := by decide +kernel
theorem dL_least_3 : decode cL_least 3 = .ok (.istore_n 2, 1) := by decide +kernel
theorem dL_least_4 : decode cL_least 4 = .ok (.iload_n 2, 1) := by decide +kernel
theorem dL_least_5 : decode cL_least 5 = .ok (.iload_n 0, 1) := by decide +kernel
theorem dL_least_6 : decode cL_least 6 = .ok (.invokestatic 8, 3) := by decide +kernel
theorem dL_least_9 : decode cL_least 9 = .ok (.if_icmp .ge 30, 3) := by decide +kernel
theorem dL_least_12 : decode cL_least 12 = .ok (.iload_n 0, 1) := by decide +kernel
theorem dL_least_13 : decode cL_least 13 = .ok (.iload_n 2, 1) := by decide +kernel
theorem dL_least_14 : decode cL_least 14 = .ok (.invokestatic 27, 3) := by decide +kernel
theorem dL_least_17 : decode cL_least 17 = .ok (.invokestatic 30, 3) := by decide +kernel
theorem dL_least_20 : decode cL_least 20 = .ok (.iload_n 1, 1) := by decide +kernel
theorem dL_least_21 : decode cL_least 21 = .ok (.invokestatic 30, 3) := by decide +kernel
theorem dL_least_24 : decode cL_least 24 = .ok (.if_icmp .ge 9, 3) := by decide +kernel
theorem dL_least_27 : decode cL_least 27 = .ok (.iload_n 0, 1) := by decide +kernel
theorem dL_least_28 : decode cL_least 28 = .ok (.iload_n 2, 1) := by decide +kernel
theorem dL_least_29 : decode cL_least 29 = .ok (.invokestatic 27, 3) := by decide +kernel
theorem dL_least_32 : decode cL_least 32 = .ok (.istore_n 1, 1) := by decide +kernel
theorem dL_least_33 : decode cL_least 33 = .ok (.iinc 2 1, 3) := by decide +kernel
theorem dL_least_36 : decode cL_least 36 = .ok (.goto (-32), 3) := by decide +kernel
theorem dL_least_39 : decode cL_least 39 = .ok (.iload_n 1, 1) := by decide +kernel
theorem dL_least_40 : decode cL_least 40 = .ok (.ireturn, 1) := by decide +kernel
set_option maxRecDepth 20000 in
theorem ggL_alike_L_size : GoodIn wsL_alike wsL_size := goodIn_rq _ [4] (by decide +kernel) (by decide +kernel)
set_option maxRecDepth 20000 in
theorem gL_alike_L_size : GoodIn wsL_alike (va_wsS RL 8 yL_size wsL_size) := goodIn_app (goodIn_of _ (by decide +kernel)) ggL_alike_L_size
set_option maxRecDepth 20000 in
theorem ggL_alike_L_least : GoodIn wsL_alike wsL_least := goodIn_rq _ [7, 1, 2, 3, 4, 8, 9, 10, 11, 12, 13, 14, 15, 16, 17, 18, 19, 20, 21, 22] (by decide +kernel) (by decide +kernel)
set_option maxRecDepth 20000 in
theorem gL_alike_L_least : GoodIn wsL_alike (va_wsS RL 33 yL_least wsL_least) := goodIn_app (goodIn_of _ (by decide +kernel)) ggL_alike_L_least
set_option maxRecDepth 20000 in
theorem ggL_alike_L_rank : GoodIn wsL_alike wsL_rank := goodIn_rq _ [22, 1, 2, 3, 4, 14, 15, 16] (by decide +kernel) (by decide +kernel)
set_option maxRecDepth 20000 in
theorem gL_alike_L_rank : GoodIn wsL_alike (va_wsS RL 30 yL_rank wsL_rank) := goodIn_app (goodIn_of _ (by decide +kernel)) ggL_alike_L_rank
theorem dL_alike_0 : decode cL_alike 0 = .ok (.iload_n 0, 1) := by decide +kernel
theorem dL_alike_1 : decode cL_alike 1 = .ok (.invokestatic 8, 3) := by decide +kernel
theorem dL_alike_4 : decode cL_alike 4 = .ok (.iload_n 1, 1) := by decide +kernel
theorem dL_alike_5 : decode cL_alike 5 = .ok (.invokestatic 8, 3) := by decide +kernel
theorem dL_alike_8 : decode cL_alike 8 = .ok (.if_icmp .ne 24, 3) := by decide +kernel
theorem dL_alike_11 : decode cL_alike 11 = .ok (.iload_n 0, 1) := by decide +kernel
theorem dL_alike_12 : decode cL_alike 12 = .ok (.invokestatic 33, 3) := by decide +kernel
theorem dL_alike_15 : decode cL_alike 15 = .ok (.invokestatic 30, 3) := by decide +kernel
theorem dL_alike_18 : decode cL_alike 18 = .ok (.iload_n 1, 1) := by decide +kernel
theorem dL_alike_19 : decode cL_alike 19 = .ok (.invokestatic 33, 3) := by decide +kernel
theorem dL_alike_22 : decode cL_alike 22 = .ok (.invokestatic 30, 3) := by decide +kernel
theorem dL_alike_25 : decode cL_alike 25 = .ok (.if_icmp .ne 7, 3) := by decide +kernel
theorem dL_alike_28 : decode cL_alike 28 = .ok (.iconst 1, 1) := by decide +kernel
theorem dL_alike_29 : decode cL_alike 29 = .ok (.goto 4, 3) := by decide +kernel
theorem dL_alike_32 : decode cL_alike 32 = .ok (.iconst 0, 1) := by decide +kernel
theorem dL_alike_33 : decode cL_alike 33 = .ok (.ireturn, 1) := by decide +kernel
set_option maxRecDepth 20000 in
theorem ggL_table_L_size : GoodIn wsL_table wsL_size := goodIn_rq _ [4] (by decide +kernel) (by decide +kernel)
set_option maxRecDepth 20000 in
theorem gL_table_L_size : GoodIn wsL_table (va_wsS RL 8 yL_size wsL_size) := goodIn_app (goodIn_of _ (by decide +kernel)) ggL_table_L_size
set_option maxRecDepth 20000 in
theorem ggL_table_L_bit : GoodIn wsL_table wsL_bit := goodIn_rq _ [7] (by decide +kernel) (by decide +kernel)
set_option maxRecDepth 20000 in
theorem gL_table_L_bit : GoodIn wsL_table (va_wsS RL 14 yL_bit wsL_bit) := goodIn_app (goodIn_of _ (by decide +kernel)) ggL_table_L_bit
theorem dL_table_0 : decode cL_table 0 = .ok (.aload_n 1, 1) := by decide +kernel
theorem dL_table_1 : decode cL_table 1 = .ok (.iconst 0, 1) := by decide +kernel
theorem dL_table_2 : decode cL_table 2 = .ok (.iconst 1, 1) := by decide +kernel
theorem dL_table_3 : decode cL_table 3 = .ok (.iastore, 1) := by decide +kernel
theorem dL_table_4 : decode cL_table 4 = .ok (.aload_n 1, 1) := by decide +kernel
theorem dL_table_5 : decode cL_table 5 = .ok (.iconst 1, 1) := by decide +kernel
theorem dL_table_6 : decode cL_table 6 = .ok (.iconst 0, 1) := by decide +kernel
theorem dL_table_7 : decode cL_table 7 = .ok (.iastore, 1) := by decide +kernel
theorem dL_table_8 : decode cL_table 8 = .ok (.aload_n 1, 1) := by decide +kernel
theorem dL_table_9 : decode cL_table 9 = .ok (.iconst 2, 1) := by decide +kernel
theorem dL_table_10 : decode cL_table 10 = .ok (.iconst 0, 1) := by decide +kernel
theorem dL_table_11 : decode cL_table 11 = .ok (.iastore, 1) := by decide +kernel
theorem dL_table_12 : decode cL_table 12 = .ok (.aload_n 1, 1) := by decide +kernel
theorem dL_table_13 : decode cL_table 13 = .ok (.iconst 3, 1) := by decide +kernel
theorem dL_table_14 : decode cL_table 14 = .ok (.iconst 1, 1) := by decide +kernel
theorem dL_table_15 : decode cL_table 15 = .ok (.iastore, 1) := by decide +kernel
theorem dL_table_16 : decode cL_table 16 = .ok (.iconst 0, 1) := by decide +kernel
theorem dL_table_17 : decode cL_table 17 = .ok (.istore_n 2, 1) := by decide +kernel
theorem dL_table_18 : decode cL_table 18 = .ok (.iload_n 2, 1) := by decide +kernel
theorem dL_table_19 : decode cL_table 19 = .ok (.iload_n 0, 1) := by decide +kernel
theorem dL_table_20 : decode cL_table 20 = .ok (.invokestatic 8, 3) := by decide +kernel
theorem dL_table_23 : decode cL_table 23 = .ok (.if_icmp .ge 39, 3) := by decide +kernel
theorem dL_table_26 : decode cL_table 26 = .ok (.iload_n 0, 1) := by decide +kernel
theorem dL_table_27 : decode cL_table 27 = .ok (.iload_n 2, 1) := by decide +kernel
theorem dL_table_28 : decode cL_table 28 = .ok (.invokestatic 14, 3) := by decide +kernel
theorem dL_table_31 : decode cL_table 31 = .ok (.istore_n 3, 1) := by decide +kernel
theorem dL_table_32 : decode cL_table 32 = .ok (.aload_n 1, 1) := by decide +kernel
theorem dL_table_33 : decode cL_table 33 = .ok (.iload_n 3, 1) := by decide +kernel
theorem dL_table_34 : decode cL_table 34 = .ok (.dup2, 1) := by decide +kernel
theorem dL_table_35 : decode cL_table 35 = .ok (.iaload, 1) := by decide +kernel
theorem dL_table_36 : decode cL_table 36 = .ok (.aload_n 1, 1) := by decide +kernel
theorem dL_table_37 : decode cL_table 37 = .ok (.iconst 1, 1) := by decide +kernel
theorem dL_table_38 : decode cL_table 38 = .ok (.iload_n 3, 1) := by decide +kernel
theorem dL_table_39 : decode cL_table 39 = .ok (.isub, 1) := by decide +kernel
theorem dL_table_40 : decode cL_table 40 = .ok (.iaload, 1) := by decide +kernel
theorem dL_table_41 : decode cL_table 41 = .ok (.iadd, 1) := by decide +kernel
theorem dL_table_42 : decode cL_table 42 = .ok (.iastore, 1) := by decide +kernel
theorem dL_table_43 : decode cL_table 43 = .ok (.aload_n 1, 1) := by decide +kernel
theorem dL_table_44 : decode cL_table 44 = .ok (.iconst 2, 1) := by decide +kernel
theorem dL_table_45 : decode cL_table 45 = .ok (.iload_n 3, 1) := by decide +kernel
theorem dL_table_46 : decode cL_table 46 = .ok (.iadd, 1) := by decide +kernel
theorem dL_table_47 : decode cL_table 47 = .ok (.dup2, 1) := by decide +kernel
theorem dL_table_48 : decode cL_table 48 = .ok (.iaload, 1) := by decide +kernel
theorem dL_table_49 : decode cL_table 49 = .ok (.aload_n 1, 1) := by decide +kernel
theorem dL_table_50 : decode cL_table 50 = .ok (.iconst 3, 1) := by decide +kernel
theorem dL_table_51 : decode cL_table 51 = .ok (.iload_n 3, 1) := by decide +kernel
theorem dL_table_52 : decode cL_table 52 = .ok (.isub, 1) := by decide +kernel
theorem dL_table_53 : decode cL_table 53 = .ok (.iaload, 1) := by decide +kernel
theorem dL_table_54 : decode cL_table 54 = .ok (.iadd, 1) := by decide +kernel
theorem dL_table_55 : decode cL_table 55 = .ok (.iastore, 1) := by decide +kernel
theorem dL_table_56 : decode cL_table 56 = .ok (.iinc 2 1, 3) := by decide +kernel
theorem dL_table_59 : decode cL_table 59 = .ok (.goto (-41), 3) := by decide +kernel
theorem dL_table_62 : decode cL_table 62 = .ok (.return_, 1) := by decide +kernel
theorem dL_gcd_0 : decode cL_gcd 0 = .ok (.iload_n 0, 1) := by decide +kernel
theorem dL_gcd_1 : decode cL_gcd 1 = .ok (.ifCond .ge 8, 3) := by decide +kernel
theorem dL_gcd_4 : decode cL_gcd 4 = .ok (.iload_n 0, 1) := by decide +kernel
theorem dL_gcd_5 : decode cL_gcd 5 = .ok (.ineg, 1) := by decide +kernel
theorem dL_gcd_6 : decode cL_gcd 6 = .ok (.goto 4, 3) := by decide +kernel
theorem dL_gcd_9 : decode cL_gcd 9 = .ok (.iload_n 0, 1) := by decide +kernel
theorem dL_gcd_10 : decode cL_gcd 10 = .ok (.istore_n 2, 1) := by decide +kernel
theorem dL_gcd_11 : decode cL_gcd 11 = .ok (.iload_n 1, 1) := by decide +kernel
theorem dL_gcd_12 : decode cL_gcd 12 = .ok (.ifCond .ge 8, 3) := by decide +kernel
theorem dL_gcd_15 : decode cL_gcd 15 = .ok (.iload_n 1, 1) := by decide +kernel
theorem dL_gcd_16 : decode cL_gcd 16 = .ok (.ineg, 1) := by decide +kernel
theorem dL_gcd_17 : decode cL_gcd 17 = .ok (.goto 4, 3) := by decide +kernel
theorem dL_gcd_20 : decode cL_gcd 20 = .ok (.iload_n 1, 1) := by decide +kernel
theorem dL_gcd_21 : decode cL_gcd 21 = .ok (.istore_n 3, 1) := by decide +kernel
theorem dL_gcd_22 : decode cL_gcd 22 = .ok (.iload_n 3, 1) := by decide +kernel
theorem dL_gcd_23 : decode cL_gcd 23 = .ok (.ifCond .eq 16, 3) := by decide +kernel
theorem dL_gcd_26 : decode cL_gcd 26 = .ok (.iload_n 2, 1) := by decide +kernel
theorem dL_gcd_27 : decode cL_gcd 27 = .ok (.iload_n 3, 1) := by decide +kernel
theorem dL_gcd_28 : decode cL_gcd 28 = .ok (.irem, 1) := by decide +kernel
theorem dL_gcd_29 : decode cL_gcd 29 = .ok (.istore 4, 2) := by decide +kernel
theorem dL_gcd_31 : decode cL_gcd 31 = .ok (.iload_n 3, 1) := by decide +kernel
theorem dL_gcd_32 : decode cL_gcd 32 = .ok (.istore_n 2, 1) := by decide +kernel
theorem dL_gcd_33 : decode cL_gcd 33 = .ok (.iload 4, 2) := by decide +kernel
theorem dL_gcd_35 : decode cL_gcd 35 = .ok (.istore_n 3, 1) := by decide +kernel
theorem dL_gcd_36 : decode cL_gcd 36 = .ok (.goto (-14), 3) := by decide +kernel
theorem dL_gcd_39 : decode cL_gcd 39 = .ok (.iload_n 2, 1) := by decide +kernel
theorem dL_gcd_40 : decode cL_gcd 40 = .ok (.ireturn, 1) := by decide +kernel
set_option maxRecDepth 20000 in
theorem ggL_wordBy_L_at : GoodIn wsL_wordBy wsL_at := goodIn_rq _ [4] (by decide +kernel) (by decide +kernel)
set_option maxRecDepth 20000 in
theorem gL_wordBy_L_at : GoodIn wsL_wordBy (va_wsS RL 36 yL_at wsL_at) := goodIn_app (goodIn_of _ (by decide +kernel)) ggL_wordBy_L_at
set_option maxRecDepth 20000 in
theorem ggL_wordBy_L_bit : GoodIn wsL_wordBy wsL_bit := goodIn_rq _ [7] (by decide +kernel) (by decide +kernel)
set_option maxRecDepth 20000 in
theorem gL_wordBy_L_bit : GoodIn wsL_wordBy (va_wsS RL 14 yL_bit wsL_bit) := goodIn_app (goodIn_of _ (by decide +kernel)) ggL_wordBy_L_bit
set_option maxRecDepth 20000 in
theorem ggL_wordBy_L_with : GoodIn wsL_wordBy wsL_with := goodIn_rq _ [10, 11, 12, 3, 13] (by decide +kernel) (by decide +kernel)
set_option maxRecDepth 20000 in
theorem gL_wordBy_L_with : GoodIn wsL_wordBy (va_wsS RL 21 yL_with wsL_with) := goodIn_app (goodIn_of _ (by decide +kernel)) ggL_wordBy_L_with
theorem dL_wordBy_0 : decode cL_wordBy 0 = .ok (.iconst 0, 1) := by decide +kernel
theorem dL_wordBy_1 : decode cL_wordBy 1 = .ok (.istore_n 2, 1) := by decide +kernel
theorem dL_wordBy_2 : decode cL_wordBy 2 = .ok (.iconst 1, 1) := by decide +kernel
theorem dL_wordBy_3 : decode cL_wordBy 3 = .ok (.iload_n 0, 1) := by decide +kernel
theorem dL_wordBy_4 : decode cL_wordBy 4 = .ok (.iload_n 1, 1) := by decide +kernel
theorem dL_wordBy_5 : decode cL_wordBy 5 = .ok (.invokestatic 36, 3) := by decide +kernel
theorem dL_wordBy_8 : decode cL_wordBy 8 = .ok (.iadd, 1) := by decide +kernel
theorem dL_wordBy_9 : decode cL_wordBy 9 = .ok (.istore_n 3, 1) := by decide +kernel
theorem dL_wordBy_10 : decode cL_wordBy 10 = .ok (.iconst 0, 1) := by decide +kernel
theorem dL_wordBy_11 : decode cL_wordBy 11 = .ok (.istore 4, 2) := by decide +kernel
theorem dL_wordBy_13 : decode cL_wordBy 13 = .ok (.iload 4, 2) := by decide +kernel
theorem dL_wordBy_15 : decode cL_wordBy 15 = .ok (.iload_n 3, 1) := by decide +kernel
theorem dL_wordBy_16 : decode cL_wordBy 16 = .ok (.if_icmp .ge 51, 3) := by decide +kernel
theorem dL_wordBy_19 : decode cL_wordBy 19 = .ok (.iload_n 2, 1) := by decide +kernel
theorem dL_wordBy_20 : decode cL_wordBy 20 = .ok (.iload_n 0, 1) := by decide +kernel
theorem dL_wordBy_21 : decode cL_wordBy 21 = .ok (.iconst 5, 1) := by decide +kernel
theorem dL_wordBy_22 : decode cL_wordBy 22 = .ok (.invokestatic 36, 3) := by decide +kernel
theorem dL_wordBy_25 : decode cL_wordBy 25 = .ok (.ifCond .ne 21, 3) := by decide +kernel
theorem dL_wordBy_28 : decode cL_wordBy 28 = .ok (.iload 4, 2) := by decide +kernel
theorem dL_wordBy_30 : decode cL_wordBy 30 = .ok (.ifCond .le 16, 3) := by decide +kernel
theorem dL_wordBy_33 : decode cL_wordBy 33 = .ok (.iconst 1, 1) := by decide +kernel
theorem dL_wordBy_34 : decode cL_wordBy 34 = .ok (.iload_n 2, 1) := by decide +kernel
theorem dL_wordBy_35 : decode cL_wordBy 35 = .ok (.iload 4, 2) := by decide +kernel
theorem dL_wordBy_37 : decode cL_wordBy 37 = .ok (.iconst 1, 1) := by decide +kernel
theorem dL_wordBy_38 : decode cL_wordBy 38 = .ok (.isub, 1) := by decide +kernel
theorem dL_wordBy_39 : decode cL_wordBy 39 = .ok (.invokestatic 14, 3) := by decide +kernel
theorem dL_wordBy_42 : decode cL_wordBy 42 = .ok (.isub, 1) := by decide +kernel
theorem dL_wordBy_43 : decode cL_wordBy 43 = .ok (.goto 14, 3) := by decide +kernel
theorem dL_wordBy_46 : decode cL_wordBy 46 = .ok (.iload_n 0, 1) := by decide +kernel
theorem dL_wordBy_47 : decode cL_wordBy 47 = .ok (.iconst 4, 1) := by decide +kernel
theorem dL_wordBy_48 : decode cL_wordBy 48 = .ok (.iload 4, 2) := by decide +kernel
theorem dL_wordBy_50 : decode cL_wordBy 50 = .ok (.iadd, 1) := by decide +kernel
theorem dL_wordBy_51 : decode cL_wordBy 51 = .ok (.bipush 31, 2) := by decide +kernel
theorem dL_wordBy_53 : decode cL_wordBy 53 = .ok (.irem, 1) := by decide +kernel
theorem dL_wordBy_54 : decode cL_wordBy 54 = .ok (.ishr, 1) := by decide +kernel
theorem dL_wordBy_55 : decode cL_wordBy 55 = .ok (.iconst 1, 1) := by decide +kernel
theorem dL_wordBy_56 : decode cL_wordBy 56 = .ok (.iand, 1) := by decide +kernel
theorem dL_wordBy_57 : decode cL_wordBy 57 = .ok (.invokestatic 21, 3) := by decide +kernel
theorem dL_wordBy_60 : decode cL_wordBy 60 = .ok (.istore_n 2, 1) := by decide +kernel
theorem dL_wordBy_61 : decode cL_wordBy 61 = .ok (.iinc 4 1, 3) := by decide +kernel
theorem dL_wordBy_64 : decode cL_wordBy 64 = .ok (.goto (-51), 3) := by decide +kernel
theorem dL_wordBy_67 : decode cL_wordBy 67 = .ok (.iload_n 2, 1) := by decide +kernel
theorem dL_wordBy_68 : decode cL_wordBy 68 = .ok (.ireturn, 1) := by decide +kernel
set_option maxRecDepth 20000 in
theorem ggL_write_L_size : GoodIn wsL_write wsL_size := goodIn_rq _ [4] (by decide +kernel) (by decide +kernel)
set_option maxRecDepth 20000 in
theorem gL_write_L_size : GoodIn wsL_write (va_wsS RL 8 yL_size wsL_size) := goodIn_app (goodIn_of _ (by decide +kernel)) ggL_write_L_size
set_option maxRecDepth 20000 in
theorem ggL_write_L_bit : GoodIn wsL_write wsL_bit := goodIn_rq _ [7] (by decide +kernel) (by decide +kernel)
set_option maxRecDepth 20000 in
theorem gL_write_L_bit : GoodIn wsL_write (va_wsS RL 14 yL_bit wsL_bit) := goodIn_app (goodIn_of _ (by decide +kernel)) ggL_write_L_bit
set_option maxRecDepth 20000 in
theorem ggL_write_L_at : GoodIn wsL_write wsL_at := goodIn_rq _ [10] (by decide +kernel) (by decide +kernel)
set_option maxRecDepth 20000 in
theorem gL_write_L_at : GoodIn wsL_write (va_wsS RL 36 yL_at wsL_at) := goodIn_app (goodIn_of _ (by decide +kernel)) ggL_write_L_at
theorem dL_write_0 : decode cL_write 0 = .ok (.iconst 0, 1) := by decide +kernel
theorem dL_write_1 : decode cL_write 1 = .ok (.istore_n 3, 1) := by decide +kernel
theorem dL_write_2 : decode cL_write 2 = .ok (.iconst 0, 1) := by decide +kernel
theorem dL_write_3 : decode cL_write 3 = .ok (.istore 4, 2) := by decide +kernel
theorem dL_write_5 : decode cL_write 5 = .ok (.iload 4, 2) := by decide +kernel
theorem dL_write_7 : decode cL_write 7 = .ok (.iload_n 0, 1) := by decide +kernel
theorem dL_write_8 : decode cL_write 8 = .ok (.invokestatic 8, 3) := by decide +kernel
theorem dL_write_11 : decode cL_write 11 = .ok (.if_icmp .ge 116, 3) := by decide +kernel
theorem dL_write_14 : decode cL_write 14 = .ok (.iconst 1, 1) := by decide +kernel
theorem dL_write_15 : decode cL_write 15 = .ok (.istore 5, 2) := by decide +kernel
theorem dL_write_17 : decode cL_write 17 = .ok (.iload 5, 2) := by decide +kernel
theorem dL_write_19 : decode cL_write 19 = .ok (.bipush 9, 2) := by decide +kernel
theorem dL_write_21 : decode cL_write 21 = .ok (.if_icmp .ge 39, 3) := by decide +kernel
theorem dL_write_24 : decode cL_write 24 = .ok (.iload 4, 2) := by decide +kernel
theorem dL_write_26 : decode cL_write 26 = .ok (.iload 5, 2) := by decide +kernel
theorem dL_write_28 : decode cL_write 28 = .ok (.iadd, 1) := by decide +kernel
theorem dL_write_29 : decode cL_write 29 = .ok (.iload_n 0, 1) := by decide +kernel
theorem dL_write_30 : decode cL_write 30 = .ok (.invokestatic 8, 3) := by decide +kernel
theorem dL_write_33 : decode cL_write 33 = .ok (.if_icmp .ge 27, 3) := by decide +kernel
theorem dL_write_36 : decode cL_write 36 = .ok (.iload_n 0, 1) := by decide +kernel
theorem dL_write_37 : decode cL_write 37 = .ok (.iload 4, 2) := by decide +kernel
theorem dL_write_39 : decode cL_write 39 = .ok (.iload 5, 2) := by decide +kernel
theorem dL_write_41 : decode cL_write 41 = .ok (.iadd, 1) := by decide +kernel
theorem dL_write_42 : decode cL_write 42 = .ok (.invokestatic 14, 3) := by decide +kernel
theorem dL_write_45 : decode cL_write 45 = .ok (.iload_n 0, 1) := by decide +kernel
theorem dL_write_46 : decode cL_write 46 = .ok (.iload 4, 2) := by decide +kernel
theorem dL_write_48 : decode cL_write 48 = .ok (.invokestatic 14, 3) := by decide +kernel
theorem dL_write_51 : decode cL_write 51 = .ok (.if_icmp .ne 9, 3) := by decide +kernel
theorem dL_write_54 : decode cL_write 54 = .ok (.iinc 5 1, 3) := by decide +kernel
theorem dL_write_57 : decode cL_write 57 = .ok (.goto (-40), 3) := by decide +kernel
theorem dL_write_60 : decode cL_write 60 = .ok (.aload_n 2, 1) := by decide +kernel
theorem dL_write_61 : decode cL_write 61 = .ok (.iload_n 3, 1) := by decide +kernel
theorem dL_write_62 : decode cL_write 62 = .ok (.iinc 3 1, 3) := by decide +kernel
theorem dL_write_65 : decode cL_write 65 = .ok (.iload_n 0, 1) := by decide +kernel
theorem dL_write_66 : decode cL_write 66 = .ok (.iload 4, 2) := by decide +kernel
theorem dL_write_68 : decode cL_write 68 = .ok (.invokestatic 14, 3) := by decide +kernel
theorem dL_write_71 : decode cL_write 71 = .ok (.iconst 1, 1) := by decide +kernel
theorem dL_write_72 : decode cL_write 72 = .ok (.if_icmp .ne 8, 3) := by decide +kernel
theorem dL_write_75 : decode cL_write 75 = .ok (.bipush 82, 2) := by decide +kernel
theorem dL_write_77 : decode cL_write 77 = .ok (.goto 5, 3) := by decide +kernel
theorem dL_write_80 : decode cL_write 80 = .ok (.bipush 76, 2) := by decide +kernel
theorem dL_write_82 : decode cL_write 82 = .ok (.iastore, 1) := by decide +kernel
theorem dL_write_83 : decode cL_write 83 = .ok (.iload 5, 2) := by decide +kernel
theorem dL_write_85 : decode cL_write 85 = .ok (.iconst 1, 1) := by decide +kernel
theorem dL_write_86 : decode cL_write 86 = .ok (.if_icmp .le 35, 3) := by decide +kernel
theorem dL_write_89 : decode cL_write 89 = .ok (.iload_n 1, 1) := by decide +kernel
theorem dL_write_90 : decode cL_write 90 = .ok (.iload 4, 2) := by decide +kernel
theorem dL_write_92 : decode cL_write 92 = .ok (.ishr, 1) := by decide +kernel
theorem dL_write_93 : decode cL_write 93 = .ok (.iconst 3, 1) := by decide +kernel
theorem dL_write_94 : decode cL_write 94 = .ok (.invokestatic 36, 3) := by decide +kernel
theorem dL_write_97 : decode cL_write 97 = .ok (.ifCond .le 24, 3) := by decide +kernel
theorem dL_write_100 : decode cL_write 100 = .ok (.aload_n 2, 1) := by decide +kernel
theorem dL_write_101 : decode cL_write 101 = .ok (.iload_n 3, 1) := by decide +kernel
theorem dL_write_102 : decode cL_write 102 = .ok (.iinc 3 1, 3) := by decide +kernel
theorem dL_write_105 : decode cL_write 105 = .ok (.bipush 48, 2) := by decide +kernel
theorem dL_write_107 : decode cL_write 107 = .ok (.iload 5, 2) := by decide +kernel
theorem dL_write_109 : decode cL_write 109 = .ok (.iadd, 1) := by decide +kernel
theorem dL_write_110 : decode cL_write 110 = .ok (.iastore, 1) := by decide +kernel
theorem dL_write_111 : decode cL_write 111 = .ok (.iload 4, 2) := by decide +kernel
theorem dL_write_113 : decode cL_write 113 = .ok (.iload 5, 2) := by decide +kernel
theorem dL_write_115 : decode cL_write 115 = .ok (.iadd, 1) := by decide +kernel
theorem dL_write_116 : decode cL_write 116 = .ok (.istore 4, 2) := by decide +kernel
theorem dL_write_118 : decode cL_write 118 = .ok (.goto 6, 3) := by decide +kernel
theorem dL_write_121 : decode cL_write 121 = .ok (.iinc 4 1, 3) := by decide +kernel
theorem dL_write_124 : decode cL_write 124 = .ok (.goto (-119), 3) := by decide +kernel
theorem dL_write_127 : decode cL_write 127 = .ok (.iload_n 3, 1) := by decide +kernel
theorem dL_write_128 : decode cL_write 128 = .ok (.ireturn, 1) := by decide +kernel
set_option maxRecDepth 20000 in
theorem ggL_spell_X4_letter : GoodIn wsL_spell wsX4_letter := goodIn_rq _ [5, 6, 7, 8, 9, 10, 11, 12, 13, 14, 15, 16, 17, 18, 19, 20, 21, 22, 23, 24, 25, 26, 27, 28, 29, 30, 31, 32, 33, 34, 35, 36] (by decide +kernel) (by decide +kernel)
set_option maxRecDepth 20000 in
theorem gL_spell_X4_letter : GoodIn wsL_spell (wsV RL 39 RX4 yX4_letter wsX4_letter) := goodIn_app (goodIn_of _ (by decide +kernel)) ggL_spell_X4_letter
theorem dL_spell_0 : decode cL_spell 0 = .ok (.iconst 0, 1) := by decide +kernel
theorem dL_spell_1 : decode cL_spell 1 = .ok (.istore_n 3, 1) := by decide +kernel
theorem dL_spell_2 : decode cL_spell 2 = .ok (.iload_n 3, 1) := by decide +kernel
theorem dL_spell_3 : decode cL_spell 3 = .ok (.iload_n 2, 1) := by decide +kernel
theorem dL_spell_4 : decode cL_spell 4 = .ok (.if_icmp .ge 24, 3) := by decide +kernel
theorem dL_spell_7 : decode cL_spell 7 = .ok (.aload_n 0, 1) := by decide +kernel
theorem dL_spell_8 : decode cL_spell 8 = .ok (.aload_n 1, 1) := by decide +kernel
theorem dL_spell_9 : decode cL_spell 9 = .ok (.iload_n 3, 1) := by decide +kernel
theorem dL_spell_10 : decode cL_spell 10 = .ok (.iaload, 1) := by decide +kernel
theorem dL_spell_11 : decode cL_spell 11 = .ok (.invokevirtual 39, 3) := by decide +kernel
theorem dL_spell_14 : decode cL_spell 14 = .ok (.iload_n 3, 1) := by decide +kernel
theorem dL_spell_15 : decode cL_spell 15 = .ok (.iconst 1, 1) := by decide +kernel
theorem dL_spell_16 : decode cL_spell 16 = .ok (.iadd, 1) := by decide +kernel
theorem dL_spell_17 : decode cL_spell 17 = .ok (.if_icmp .eq 5, 3) := by decide +kernel
theorem dL_spell_20 : decode cL_spell 20 = .ok (.iconst 0, 1) := by decide +kernel
theorem dL_spell_21 : decode cL_spell 21 = .ok (.ireturn, 1) := by decide +kernel
theorem dL_spell_22 : decode cL_spell 22 = .ok (.iinc 3 1, 3) := by decide +kernel
theorem dL_spell_25 : decode cL_spell 25 = .ok (.goto (-23), 3) := by decide +kernel
theorem dL_spell_28 : decode cL_spell 28 = .ok (.iconst 1, 1) := by decide +kernel
theorem dL_spell_29 : decode cL_spell 29 = .ok (.ireturn, 1) := by decide +kernel
set_option maxRecDepth 20000 in
theorem ggL_crossings_L_size : GoodIn wsL_crossings wsL_size := goodIn_rq _ [4] (by decide +kernel) (by decide +kernel)
set_option maxRecDepth 20000 in
theorem gL_crossings_L_size : GoodIn wsL_crossings (va_wsS RL 8 yL_size wsL_size) := goodIn_app (goodIn_of _ (by decide +kernel)) ggL_crossings_L_size
set_option maxRecDepth 20000 in
theorem ggL_crossings_L_bit : GoodIn wsL_crossings wsL_bit := goodIn_rq _ [7] (by decide +kernel) (by decide +kernel)
set_option maxRecDepth 20000 in
theorem gL_crossings_L_bit : GoodIn wsL_crossings (va_wsS RL 14 yL_bit wsL_bit) := goodIn_app (goodIn_of _ (by decide +kernel)) ggL_crossings_L_bit
set_option maxRecDepth 20000 in
theorem ggL_crossings_L_round : GoodIn wsL_crossings wsL_round := goodIn_rq _ [10, 1, 2, 3, 4, 5, 6, 7] (by decide +kernel) (by decide +kernel)
set_option maxRecDepth 20000 in
theorem gL_crossings_L_round : GoodIn wsL_crossings (va_wsS RL 18 yL_round wsL_round) := goodIn_app (goodIn_of _ (by decide +kernel)) ggL_crossings_L_round
theorem dL_crossings_0 : decode cL_crossings 0 = .ok (.iconst 0, 1) := by decide +kernel
theorem dL_crossings_1 : decode cL_crossings 1 = .ok (.istore_n 2, 1) := by decide +kernel
theorem dL_crossings_2 : decode cL_crossings 2 = .ok (.iconst 0, 1) := by decide +kernel
theorem dL_crossings_3 : decode cL_crossings 3 = .ok (.istore_n 3, 1) := by decide +kernel
theorem dL_crossings_4 : decode cL_crossings 4 = .ok (.iload_n 3, 1) := by decide +kernel
theorem dL_crossings_5 : decode cL_crossings 5 = .ok (.iload_n 0, 1) := by decide +kernel
theorem dL_crossings_6 : decode cL_crossings 6 = .ok (.invokestatic 8, 3) := by decide +kernel
theorem dL_crossings_9 : decode cL_crossings 9 = .ok (.if_icmp .ge 111, 3) := by decide +kernel
theorem dL_crossings_12 : decode cL_crossings 12 = .ok (.iconst 0, 1) := by decide +kernel
theorem dL_crossings_13 : decode cL_crossings 13 = .ok (.istore 4, 2) := by decide +kernel
theorem dL_crossings_15 : decode cL_crossings 15 = .ok (.iload 4, 2) := by decide +kernel
theorem dL_crossings_17 : decode cL_crossings 17 = .ok (.iload_n 1, 1) := by decide +kernel
theorem dL_crossings_18 : decode cL_crossings 18 = .ok (.invokestatic 8, 3) := by decide +kernel
theorem dL_crossings_21 : decode cL_crossings 21 = .ok (.if_icmp .ge 93, 3) := by decide +kernel
theorem dL_crossings_24 : decode cL_crossings 24 = .ok (.iload_n 0, 1) := by decide +kernel
theorem dL_crossings_25 : decode cL_crossings 25 = .ok (.iload_n 3, 1) := by decide +kernel
theorem dL_crossings_26 : decode cL_crossings 26 = .ok (.invokestatic 14, 3) := by decide +kernel
theorem dL_crossings_29 : decode cL_crossings 29 = .ok (.iload_n 1, 1) := by decide +kernel
theorem dL_crossings_30 : decode cL_crossings 30 = .ok (.iload 4, 2) := by decide +kernel
theorem dL_crossings_32 : decode cL_crossings 32 = .ok (.invokestatic 14, 3) := by decide +kernel
theorem dL_crossings_35 : decode cL_crossings 35 = .ok (.if_icmp .ne 6, 3) := by decide +kernel
theorem dL_crossings_38 : decode cL_crossings 38 = .ok (.goto 70, 3) := by decide +kernel
theorem dL_crossings_41 : decode cL_crossings 41 = .ok (.iconst 1, 1) := by decide +kernel
theorem dL_crossings_42 : decode cL_crossings 42 = .ok (.istore 5, 2) := by decide +kernel
theorem dL_crossings_44 : decode cL_crossings 44 = .ok (.iload 5, 2) := by decide +kernel
theorem dL_crossings_46 : decode cL_crossings 46 = .ok (.iload_n 0, 1) := by decide +kernel
theorem dL_crossings_47 : decode cL_crossings 47 = .ok (.invokestatic 8, 3) := by decide +kernel
theorem dL_crossings_50 : decode cL_crossings 50 = .ok (.iload_n 1, 1) := by decide +kernel
theorem dL_crossings_51 : decode cL_crossings 51 = .ok (.invokestatic 8, 3) := by decide +kernel
theorem dL_crossings_54 : decode cL_crossings 54 = .ok (.iadd, 1) := by decide +kernel
theorem dL_crossings_55 : decode cL_crossings 55 = .ok (.if_icmp .gt 29, 3) := by decide +kernel
theorem dL_crossings_58 : decode cL_crossings 58 = .ok (.iload_n 0, 1) := by decide +kernel
theorem dL_crossings_59 : decode cL_crossings 59 = .ok (.iload_n 3, 1) := by decide +kernel
theorem dL_crossings_60 : decode cL_crossings 60 = .ok (.iload 5, 2) := by decide +kernel
theorem dL_crossings_62 : decode cL_crossings 62 = .ok (.isub, 1) := by decide +kernel
theorem dL_crossings_63 : decode cL_crossings 63 = .ok (.invokestatic 18, 3) := by decide +kernel
theorem dL_crossings_66 : decode cL_crossings 66 = .ok (.iload_n 1, 1) := by decide +kernel
theorem dL_crossings_67 : decode cL_crossings 67 = .ok (.iload 4, 2) := by decide +kernel
theorem dL_crossings_69 : decode cL_crossings 69 = .ok (.iload 5, 2) := by decide +kernel
theorem dL_crossings_71 : decode cL_crossings 71 = .ok (.isub, 1) := by decide +kernel
theorem dL_crossings_72 : decode cL_crossings 72 = .ok (.invokestatic 18, 3) := by decide +kernel
theorem dL_crossings_75 : decode cL_crossings 75 = .ok (.if_icmp .ne 9, 3) := by decide +kernel
theorem dL_crossings_78 : decode cL_crossings 78 = .ok (.iinc 5 1, 3) := by decide +kernel
theorem dL_crossings_81 : decode cL_crossings 81 = .ok (.goto (-37), 3) := by decide +kernel
theorem dL_crossings_84 : decode cL_crossings 84 = .ok (.iload_n 2, 1) := by decide +kernel
theorem dL_crossings_85 : decode cL_crossings 85 = .ok (.iload_n 0, 1) := by decide +kernel
theorem dL_crossings_86 : decode cL_crossings 86 = .ok (.iload_n 3, 1) := by decide +kernel
theorem dL_crossings_87 : decode cL_crossings 87 = .ok (.iload 5, 2) := by decide +kernel
theorem dL_crossings_89 : decode cL_crossings 89 = .ok (.isub, 1) := by decide +kernel
theorem dL_crossings_90 : decode cL_crossings 90 = .ok (.invokestatic 18, 3) := by decide +kernel
theorem dL_crossings_93 : decode cL_crossings 93 = .ok (.iload_n 0, 1) := by decide +kernel
theorem dL_crossings_94 : decode cL_crossings 94 = .ok (.iload_n 3, 1) := by decide +kernel
theorem dL_crossings_95 : decode cL_crossings 95 = .ok (.invokestatic 14, 3) := by decide +kernel
theorem dL_crossings_98 : decode cL_crossings 98 = .ok (.if_icmp .ne 7, 3) := by decide +kernel
theorem dL_crossings_101 : decode cL_crossings 101 = .ok (.iconst 0, 1) := by decide +kernel
theorem dL_crossings_102 : decode cL_crossings 102 = .ok (.goto 4, 3) := by decide +kernel
theorem dL_crossings_105 : decode cL_crossings 105 = .ok (.iconst 1, 1) := by decide +kernel
theorem dL_crossings_106 : decode cL_crossings 106 = .ok (.iadd, 1) := by decide +kernel
theorem dL_crossings_107 : decode cL_crossings 107 = .ok (.istore_n 2, 1) := by decide +kernel
theorem dL_crossings_108 : decode cL_crossings 108 = .ok (.iinc 4 1, 3) := by decide +kernel
theorem dL_crossings_111 : decode cL_crossings 111 = .ok (.goto (-96), 3) := by decide +kernel
theorem dL_crossings_114 : decode cL_crossings 114 = .ok (.iinc 3 1, 3) := by decide +kernel
theorem dL_crossings_117 : decode cL_crossings 117 = .ok (.goto (-113), 3) := by decide +kernel
theorem dL_crossings_120 : decode cL_crossings 120 = .ok (.iload_n 2, 1) := by decide +kernel
theorem dL_crossings_121 : decode cL_crossings 121 = .ok (.ireturn, 1) := by decide +kernel
set_option maxRecDepth 20000 in
theorem ggL_period_L_turned : GoodIn wsL_period wsL_turned := goodIn_rq _ [4, 5, 6, 3, 7, 8, 9, 10, 11, 12, 13, 14, 15, 16] (by decide +kernel) (by decide +kernel)
set_option maxRecDepth 20000 in
theorem gL_period_L_turned : GoodIn wsL_period (va_wsS RL 27 yL_turned wsL_turned) := goodIn_app (goodIn_of _ (by decide +kernel)) ggL_period_L_turned
theorem dL_period_0 : decode cL_period 0 = .ok (.iconst 1, 1) := by decide +kernel
theorem dL_period_1 : decode cL_period 1 = .ok (.istore_n 1, 1) := by decide +kernel
theorem dL_period_2 : decode cL_period 2 = .ok (.iload_n 0, 1) := by decide +kernel
theorem dL_period_3 : decode cL_period 3 = .ok (.iload_n 1, 1) := by decide +kernel
theorem dL_period_4 : decode cL_period 4 = .ok (.invokestatic 27, 3) := by decide +kernel
theorem dL_period_7 : decode cL_period 7 = .ok (.iload_n 0, 1) := by decide +kernel
theorem dL_period_8 : decode cL_period 8 = .ok (.if_icmp .eq 9, 3) := by decide +kernel
theorem dL_period_11 : decode cL_period 11 = .ok (.iinc 1 1, 3) := by decide +kernel
theorem dL_period_14 : decode cL_period 14 = .ok (.goto (-12), 3) := by decide +kernel
theorem dL_period_17 : decode cL_period 17 = .ok (.iload_n 1, 1) := by decide +kernel
theorem dL_period_18 : decode cL_period 18 = .ok (.ireturn, 1) := by decide +kernel
set_option maxRecDepth 20000 in
theorem ggL_road_L_size : GoodIn wsL_road wsL_size := goodIn_rq _ [8] (by decide +kernel) (by decide +kernel)
set_option maxRecDepth 20000 in
theorem gL_road_L_size : GoodIn wsL_road (va_wsS RL 8 yL_size wsL_size) := goodIn_app (goodIn_of _ (by decide +kernel)) ggL_road_L_size
set_option maxRecDepth 20000 in
theorem ggL_road_L_turned : GoodIn wsL_road wsL_turned := goodIn_rq _ [11, 5, 6, 7, 8, 12, 13, 14, 15, 16, 17, 18, 19, 20] (by decide +kernel) (by decide +kernel)
set_option maxRecDepth 20000 in
theorem gL_road_L_turned : GoodIn wsL_road (va_wsS RL 27 yL_turned wsL_turned) := goodIn_app (goodIn_of _ (by decide +kernel)) ggL_road_L_turned
set_option maxRecDepth 20000 in
theorem ggL_road_L_least : GoodIn wsL_road wsL_least := goodIn_rq _ [23, 5, 6, 7, 8, 9, 10, 11, 12, 13, 14, 15, 16, 17, 18, 19, 20, 24, 25, 26] (by decide +kernel) (by decide +kernel)
set_option maxRecDepth 20000 in
theorem gL_road_L_least : GoodIn wsL_road (va_wsS RL 33 yL_least wsL_least) := goodIn_app (goodIn_of _ (by decide +kernel)) ggL_road_L_least
set_option maxRecDepth 20000 in
theorem ggL_road_L_table : GoodIn wsL_road wsL_table := goodIn_rq _ [29, 5, 6, 7, 8, 15, 16, 17] (by decide +kernel) (by decide +kernel)
set_option maxRecDepth 20000 in
theorem gL_road_L_table : GoodIn wsL_road (va_wsS RL 44 yL_table wsL_table) := goodIn_app (goodIn_of _ (by decide +kernel)) ggL_road_L_table
set_option maxRecDepth 20000 in
theorem ggL_road_X4_road : GoodIn wsL_road wsX4_road := goodIn_rq _ [34, 35, 36, 37, 38, 39, 40, 41, 33, 42, 43, 44, 45, 46, 47, 48, 49, 50, 51, 52, 53, 54, 55, 56, 57, 58, 59, 60, 61, 62, 63, 64, 65, 66, 67, 68, 69, 70, 71, 72, 73, 74, 75, 76, 77, 78, 79, 80, 81, 82, 83, 84, 85, 86, 87, 88, 89, 90, 91, 92, 93, 94, 95, 96, 97, 98, 162, 163, 164, 165, 166, 167, 168, 169, 170, 171, 172, 173, 174] (by decide +kernel) (by decide +kernel)
set_option maxRecDepth 20000 in
theorem gL_road_X4_road : GoodIn wsL_road (wsV RL 48 RX4 yX4_road wsX4_road) := goodIn_app (goodIn_of _ (by decide +kernel)) ggL_road_X4_road
set_option maxRecDepth 20000 in
theorem ggL_road_L_rights : GoodIn wsL_road wsL_rights := goodIn_rq _ [101, 5, 6, 7, 8, 15, 16, 17] (by decide +kernel) (by decide +kernel)
set_option maxRecDepth 20000 in
theorem gL_road_L_rights : GoodIn wsL_road (va_wsS RL 24 yL_rights wsL_rights) := goodIn_app (goodIn_of _ (by decide +kernel)) ggL_road_L_rights
set_option maxRecDepth 20000 in
theorem ggL_road_L_period : GoodIn wsL_road wsL_period := goodIn_rq _ [104, 9, 10, 7, 11, 5, 6, 8, 12, 13, 14, 15, 16, 17, 18, 19, 20] (by decide +kernel) (by decide +kernel)
set_option maxRecDepth 20000 in
theorem gL_road_L_period : GoodIn wsL_road (va_wsS RL 51 yL_period wsL_period) := goodIn_app (goodIn_of _ (by decide +kernel)) ggL_road_L_period
set_option maxRecDepth 20000 in
theorem ggL_road_L_isClosed : GoodIn wsL_road wsL_isClosed := goodIn_rq _ [107, 99, 100, 7, 101, 5, 6, 8, 15, 16, 17] (by decide +kernel) (by decide +kernel)
set_option maxRecDepth 20000 in
theorem gL_road_L_isClosed : GoodIn wsL_road (va_wsS RL 54 yL_isClosed wsL_isClosed) := goodIn_app (goodIn_of _ (by decide +kernel)) ggL_road_L_isClosed
set_option maxRecDepth 20000 in
theorem ggL_road_L_back : GoodIn wsL_road wsL_back := goodIn_rq _ [110, 5, 6, 7, 8, 15, 16, 17, 18, 19, 20] (by decide +kernel) (by decide +kernel)
set_option maxRecDepth 20000 in
theorem gL_road_L_back : GoodIn wsL_road (va_wsS RL 58 yL_back wsL_back) := goodIn_app (goodIn_of _ (by decide +kernel)) ggL_road_L_back
set_option maxRecDepth 20000 in
theorem ggL_road_L_alike : GoodIn wsL_road wsL_alike := goodIn_rq _ [113, 5, 6, 7, 8, 21, 22, 23, 9, 10, 11, 12, 13, 14, 15, 16, 17, 18, 19, 20, 24, 25, 26] (by decide +kernel) (by decide +kernel)
set_option maxRecDepth 20000 in
theorem gL_road_L_alike : GoodIn wsL_road (va_wsS RL 61 yL_alike wsL_alike) := goodIn_app (goodIn_of _ (by decide +kernel)) ggL_road_L_alike
set_option maxRecDepth 20000 in
theorem ggL_road_L_mirror : GoodIn wsL_road wsL_mirror := goodIn_rq _ [116, 5, 6, 7, 8, 15, 16, 17, 18, 19, 20] (by decide +kernel) (by decide +kernel)
set_option maxRecDepth 20000 in
theorem gL_road_L_mirror : GoodIn wsL_road (va_wsS RL 65 yL_mirror wsL_mirror) := goodIn_app (goodIn_of _ (by decide +kernel)) ggL_road_L_mirror
set_option maxRecDepth 20000 in
theorem ggL_road_X4_sign : GoodIn wsL_road wsX4_sign := goodIn_rq _ [120, 36, 35, 39, 40, 41, 33, 42, 43, 44, 121, 88, 89, 55, 90, 57, 59, 122, 123, 124, 162, 163, 164, 165, 166, 167, 168, 169, 170, 171, 172, 173, 174] (by decide +kernel) (by decide +kernel)
set_option maxRecDepth 20000 in
theorem gL_road_X4_sign : GoodIn wsL_road (wsV RL 69 RX4 yX4_sign wsX4_sign) := goodIn_app (goodIn_of _ (by decide +kernel)) ggL_road_X4_sign
set_option maxRecDepth 20000 in
theorem ggL_road_L_bit : GoodIn wsL_road wsL_bit := goodIn_rq _ [17] (by decide +kernel) (by decide +kernel)
set_option maxRecDepth 20000 in
theorem gL_road_L_bit : GoodIn wsL_road (va_wsS RL 14 yL_bit wsL_bit) := goodIn_app (goodIn_of _ (by decide +kernel)) ggL_road_L_bit
set_option maxRecDepth 20000 in
theorem ggL_road_X4_table : GoodIn wsL_road wsX4_table := goodIn_rq _ [128, 35, 129, 130, 131, 132, 38, 39, 40, 41, 33, 42, 43, 44, 162, 163, 164, 165, 166, 167, 168, 169, 170, 171, 172, 173, 174] (by decide +kernel) (by decide +kernel)
set_option maxRecDepth 20000 in
theorem gL_road_X4_table : GoodIn wsL_road (wsV RL 72 RX4 yX4_table wsX4_table) := goodIn_app (goodIn_of _ (by decide +kernel)) ggL_road_X4_table
set_option maxRecDepth 20000 in
theorem ggL_road_X4_end : GoodIn wsL_road wsX4_end := goodIn_rq _ [136, 35, 129, 130, 131, 132, 38, 39, 40, 41, 33, 42, 43, 44, 162, 163, 164, 165, 166, 167, 168, 169, 170, 171, 172, 173, 174] (by decide +kernel) (by decide +kernel)
set_option maxRecDepth 20000 in
theorem gL_road_X4_end : GoodIn wsL_road (wsV RL 74 RX4 yX4_end wsX4_end) := goodIn_app (goodIn_of _ (by decide +kernel)) ggL_road_X4_end
set_option maxRecDepth 20000 in
theorem ggL_road_L_gcd : GoodIn wsL_road wsL_gcd := goodIn_rq _ [139] (by decide +kernel) (by decide +kernel)
set_option maxRecDepth 20000 in
theorem gL_road_L_gcd : GoodIn wsL_road (va_wsS RL 77 yL_gcd wsL_gcd) := goodIn_app (goodIn_of _ (by decide +kernel)) ggL_road_L_gcd
set_option maxRecDepth 20000 in
theorem ggL_road_X4_form : GoodIn wsL_road wsX4_form := goodIn_rq _ [143, 35, 38, 144, 39, 40, 41, 33, 42, 43, 44, 79, 80, 81, 55, 82, 57, 68, 145, 146, 147, 148, 149, 78, 77, 150, 151, 152, 153, 154, 155, 156, 157, 158, 159, 160, 161, 169, 170, 171, 172, 173, 174, 162, 163, 164, 165, 166, 167, 168] (by decide +kernel) (by decide +kernel)
set_option maxRecDepth 20000 in
theorem gL_road_X4_form : GoodIn wsL_road (wsV RL 80 RX4 yX4_form wsX4_form) := goodIn_app (goodIn_of _ (by decide +kernel)) ggL_road_X4_form
theorem dL_road_0 : decode cL_road 0 = .ok (.iload_n 2, 1) := by decide +kernel
theorem dL_road_1 : decode cL_road 1 = .ok (.invokestatic 8, 3) := by decide +kernel
theorem dL_road_4 : decode cL_road 4 = .ok (.istore 4, 2) := by decide +kernel
theorem dL_road_6 : decode cL_road 6 = .ok (.iconst 0, 1) := by decide +kernel
theorem dL_road_7 : decode cL_road 7 = .ok (.istore 5, 2) := by decide +kernel
theorem dL_road_9 : decode cL_road 9 = .ok (.iload_n 2, 1) := by decide +kernel
theorem dL_road_10 : decode cL_road 10 = .ok (.iload 5, 2) := by decide +kernel
theorem dL_road_12 : decode cL_road 12 = .ok (.invokestatic 27, 3) := by decide +kernel
theorem dL_road_15 : decode cL_road 15 = .ok (.iload_n 2, 1) := by decide +kernel
theorem dL_road_16 : decode cL_road 16 = .ok (.invokestatic 33, 3) := by decide +kernel
theorem dL_road_19 : decode cL_road 19 = .ok (.if_icmp .eq 9, 3) := by decide +kernel
theorem dL_road_22 : decode cL_road 22 = .ok (.iinc 5 1, 3) := by decide +kernel
theorem dL_road_25 : decode cL_road 25 = .ok (.goto (-16), 3) := by decide +kernel
theorem dL_road_28 : decode cL_road 28 = .ok (.iload_n 2, 1) := by decide +kernel
theorem dL_road_29 : decode cL_road 29 = .ok (.aload_n 3, 1) := by decide +kernel
theorem dL_road_30 : decode cL_road 30 = .ok (.invokestatic 44, 3) := by decide +kernel
theorem dL_road_33 : decode cL_road 33 = .ok (.aload_n 0, 1) := by decide +kernel
theorem dL_road_34 : decode cL_road 34 = .ok (.iload_n 1, 1) := by decide +kernel
theorem dL_road_35 : decode cL_road 35 = .ok (.iconst 0, 1) := by decide +kernel
theorem dL_road_36 : decode cL_road 36 = .ok (.invokevirtual 48, 3) := by decide +kernel
theorem dL_road_39 : decode cL_road 39 = .ok (.iload 4, 2) := by decide +kernel
theorem dL_road_41 : decode cL_road 41 = .ok (.if_icmp .ne 94, 3) := by decide +kernel
end
section
theorem dL_road_44 : decode cL_road 44 = .ok (.aload_n 0, 1) := by decide +kernel
theorem dL_road_45 : decode cL_road 45 = .ok (.iload_n 1, 1) := by decide +kernel
theorem dL_road_46 : decode cL_road 46 = .ok (.iconst 1, 1) := by decide +kernel
theorem dL_road_47 : decode cL_road 47 = .ok (.invokevirtual 48, 3) := by decide +kernel
theorem dL_road_50 : decode cL_road 50 = .ok (.iload 4, 2) := by decide +kernel
theorem dL_road_52 : decode cL_road 52 = .ok (.iload_n 2, 1) := by decide +kernel
theorem dL_road_53 : decode cL_road 53 = .ok (.invokestatic 24, 3) := by decide +kernel
theorem dL_road_56 : decode cL_road 56 = .ok (.isub, 1) := by decide +kernel
theorem dL_road_57 : decode cL_road 57 = .ok (.if_icmp .ne 78, 3) := by decide +kernel
theorem dL_road_60 : decode cL_road 60 = .ok (.aload_n 0, 1) := by decide +kernel
theorem dL_road_61 : decode cL_road 61 = .ok (.iload_n 1, 1) := by decide +kernel
theorem dL_road_62 : decode cL_road 62 = .ok (.iconst 2, 1) := by decide +kernel
theorem dL_road_63 : decode cL_road 63 = .ok (.invokevirtual 48, 3) := by decide +kernel
theorem dL_road_66 : decode cL_road 66 = .ok (.iload_n 2, 1) := by decide +kernel
theorem dL_road_67 : decode cL_road 67 = .ok (.invokestatic 24, 3) := by decide +kernel
theorem dL_road_70 : decode cL_road 70 = .ok (.if_icmp .ne 65, 3) := by decide +kernel
theorem dL_road_73 : decode cL_road 73 = .ok (.aload_n 0, 1) := by decide +kernel
theorem dL_road_74 : decode cL_road 74 = .ok (.iload_n 1, 1) := by decide +kernel
theorem dL_road_75 : decode cL_road 75 = .ok (.iconst 3, 1) := by decide +kernel
theorem dL_road_76 : decode cL_road 76 = .ok (.invokevirtual 48, 3) := by decide +kernel
theorem dL_road_79 : decode cL_road 79 = .ok (.iload_n 2, 1) := by decide +kernel
theorem dL_road_80 : decode cL_road 80 = .ok (.invokestatic 51, 3) := by decide +kernel
theorem dL_road_83 : decode cL_road 83 = .ok (.if_icmp .ne 52, 3) := by decide +kernel
theorem dL_road_86 : decode cL_road 86 = .ok (.aload_n 0, 1) := by decide +kernel
theorem dL_road_87 : decode cL_road 87 = .ok (.iload_n 1, 1) := by decide +kernel
theorem dL_road_88 : decode cL_road 88 = .ok (.iconst 4, 1) := by decide +kernel
theorem dL_road_89 : decode cL_road 89 = .ok (.invokevirtual 48, 3) := by decide +kernel
theorem dL_road_92 : decode cL_road 92 = .ok (.iload 5, 2) := by decide +kernel
theorem dL_road_94 : decode cL_road 94 = .ok (.if_icmp .ne 41, 3) := by decide +kernel
theorem dL_road_97 : decode cL_road 97 = .ok (.aload_n 0, 1) := by decide +kernel
theorem dL_road_98 : decode cL_road 98 = .ok (.iload_n 1, 1) := by decide +kernel
theorem dL_road_99 : decode cL_road 99 = .ok (.iconst 5, 1) := by decide +kernel
theorem dL_road_100 : decode cL_road 100 = .ok (.invokevirtual 48, 3) := by decide +kernel
theorem dL_road_103 : decode cL_road 103 = .ok (.aload_n 3, 1) := by decide +kernel
theorem dL_road_104 : decode cL_road 104 = .ok (.iconst 0, 1) := by decide +kernel
theorem dL_road_105 : decode cL_road 105 = .ok (.iaload, 1) := by decide +kernel
theorem dL_road_106 : decode cL_road 106 = .ok (.aload_n 3, 1) := by decide +kernel
theorem dL_road_107 : decode cL_road 107 = .ok (.iconst 3, 1) := by decide +kernel
theorem dL_road_108 : decode cL_road 108 = .ok (.iaload, 1) := by decide +kernel
theorem dL_road_109 : decode cL_road 109 = .ok (.iadd, 1) := by decide +kernel
theorem dL_road_110 : decode cL_road 110 = .ok (.if_icmp .ne 25, 3) := by decide +kernel
theorem dL_road_113 : decode cL_road 113 = .ok (.aload_n 0, 1) := by decide +kernel
theorem dL_road_114 : decode cL_road 114 = .ok (.iload_n 1, 1) := by decide +kernel
theorem dL_road_115 : decode cL_road 115 = .ok (.bipush 6, 2) := by decide +kernel
theorem dL_road_117 : decode cL_road 117 = .ok (.invokevirtual 48, 3) := by decide +kernel
theorem dL_road_120 : decode cL_road 120 = .ok (.iload_n 2, 1) := by decide +kernel
theorem dL_road_121 : decode cL_road 121 = .ok (.invokestatic 54, 3) := by decide +kernel
theorem dL_road_124 : decode cL_road 124 = .ok (.ifCond .eq 7, 3) := by decide +kernel
theorem dL_road_127 : decode cL_road 127 = .ok (.iconst 1, 1) := by decide +kernel
theorem dL_road_128 : decode cL_road 128 = .ok (.goto 4, 3) := by decide +kernel
theorem dL_road_131 : decode cL_road 131 = .ok (.iconst 0, 1) := by decide +kernel
theorem dL_road_132 : decode cL_road 132 = .ok (.if_icmp .eq 5, 3) := by decide +kernel
theorem dL_road_135 : decode cL_road 135 = .ok (.iconst 0, 1) := by decide +kernel
theorem dL_road_136 : decode cL_road 136 = .ok (.ireturn, 1) := by decide +kernel
theorem dL_road_137 : decode cL_road 137 = .ok (.aload_n 0, 1) := by decide +kernel
theorem dL_road_138 : decode cL_road 138 = .ok (.iload_n 1, 1) := by decide +kernel
theorem dL_road_139 : decode cL_road 139 = .ok (.bipush 7, 2) := by decide +kernel
theorem dL_road_141 : decode cL_road 141 = .ok (.invokevirtual 48, 3) := by decide +kernel
theorem dL_road_144 : decode cL_road 144 = .ok (.iload_n 2, 1) := by decide +kernel
theorem dL_road_145 : decode cL_road 145 = .ok (.iload_n 2, 1) := by decide +kernel
theorem dL_road_146 : decode cL_road 146 = .ok (.invokestatic 58, 3) := by decide +kernel
theorem dL_road_149 : decode cL_road 149 = .ok (.invokestatic 61, 3) := by decide +kernel
theorem dL_road_152 : decode cL_road 152 = .ok (.ifCond .eq 7, 3) := by decide +kernel
theorem dL_road_155 : decode cL_road 155 = .ok (.iconst 1, 1) := by decide +kernel
theorem dL_road_156 : decode cL_road 156 = .ok (.goto 4, 3) := by decide +kernel
theorem dL_road_159 : decode cL_road 159 = .ok (.iconst 0, 1) := by decide +kernel
theorem dL_road_160 : decode cL_road 160 = .ok (.if_icmp .ne 70, 3) := by decide +kernel
theorem dL_road_163 : decode cL_road 163 = .ok (.aload_n 0, 1) := by decide +kernel
theorem dL_road_164 : decode cL_road 164 = .ok (.iload_n 1, 1) := by decide +kernel
theorem dL_road_165 : decode cL_road 165 = .ok (.bipush 8, 2) := by decide +kernel
theorem dL_road_167 : decode cL_road 167 = .ok (.invokevirtual 48, 3) := by decide +kernel
theorem dL_road_170 : decode cL_road 170 = .ok (.iload_n 2, 1) := by decide +kernel
theorem dL_road_171 : decode cL_road 171 = .ok (.iload_n 2, 1) := by decide +kernel
theorem dL_road_172 : decode cL_road 172 = .ok (.invokestatic 65, 3) := by decide +kernel
theorem dL_road_175 : decode cL_road 175 = .ok (.invokestatic 61, 3) := by decide +kernel
theorem dL_road_178 : decode cL_road 178 = .ok (.ifCond .eq 7, 3) := by decide +kernel
theorem dL_road_181 : decode cL_road 181 = .ok (.iconst 1, 1) := by decide +kernel
theorem dL_road_182 : decode cL_road 182 = .ok (.goto 4, 3) := by decide +kernel
theorem dL_road_185 : decode cL_road 185 = .ok (.iconst 0, 1) := by decide +kernel
theorem dL_road_186 : decode cL_road 186 = .ok (.if_icmp .ne 44, 3) := by decide +kernel
theorem dL_road_189 : decode cL_road 189 = .ok (.aload_n 0, 1) := by decide +kernel
theorem dL_road_190 : decode cL_road 190 = .ok (.iload_n 1, 1) := by decide +kernel
theorem dL_road_191 : decode cL_road 191 = .ok (.bipush 9, 2) := by decide +kernel
theorem dL_road_193 : decode cL_road 193 = .ok (.invokevirtual 48, 3) := by decide +kernel
theorem dL_road_196 : decode cL_road 196 = .ok (.iload_n 2, 1) := by decide +kernel
theorem dL_road_197 : decode cL_road 197 = .ok (.iload_n 2, 1) := by decide +kernel
theorem dL_road_198 : decode cL_road 198 = .ok (.invokestatic 65, 3) := by decide +kernel
theorem dL_road_201 : decode cL_road 201 = .ok (.invokestatic 58, 3) := by decide +kernel
theorem dL_road_204 : decode cL_road 204 = .ok (.invokestatic 61, 3) := by decide +kernel
theorem dL_road_207 : decode cL_road 207 = .ok (.ifCond .eq 7, 3) := by decide +kernel
theorem dL_road_210 : decode cL_road 210 = .ok (.iconst 1, 1) := by decide +kernel
theorem dL_road_211 : decode cL_road 211 = .ok (.goto 4, 3) := by decide +kernel
theorem dL_road_214 : decode cL_road 214 = .ok (.iconst 0, 1) := by decide +kernel
theorem dL_road_215 : decode cL_road 215 = .ok (.if_icmp .ne 15, 3) := by decide +kernel
theorem dL_road_218 : decode cL_road 218 = .ok (.aload_n 0, 1) := by decide +kernel
theorem dL_road_219 : decode cL_road 219 = .ok (.iload_n 1, 1) := by decide +kernel
theorem dL_road_220 : decode cL_road 220 = .ok (.bipush 10, 2) := by decide +kernel
theorem dL_road_222 : decode cL_road 222 = .ok (.invokevirtual 48, 3) := by decide +kernel
theorem dL_road_225 : decode cL_road 225 = .ok (.ldc 68, 2) := by decide +kernel
theorem dL_road_227 : decode cL_road 227 = .ok (.if_icmp .eq 5, 3) := by decide +kernel
theorem dL_road_230 : decode cL_road 230 = .ok (.iconst 0, 1) := by decide +kernel
theorem dL_road_231 : decode cL_road 231 = .ok (.ireturn, 1) := by decide +kernel
theorem dL_road_232 : decode cL_road 232 = .ok (.iconst 0, 1) := by decide +kernel
theorem dL_road_233 : decode cL_road 233 = .ok (.istore 6, 2) := by decide +kernel
theorem dL_road_235 : decode cL_road 235 = .ok (.iload 6, 2) := by decide +kernel
theorem dL_road_237 : decode cL_road 237 = .ok (.iload 4, 2) := by decide +kernel
theorem dL_road_239 : decode cL_road 239 = .ok (.if_icmp .ge 38, 3) := by decide +kernel
theorem dL_road_242 : decode cL_road 242 = .ok (.aload_n 0, 1) := by decide +kernel
theorem dL_road_243 : decode cL_road 243 = .ok (.iload_n 1, 1) := by decide +kernel
theorem dL_road_244 : decode cL_road 244 = .ok (.iload 6, 2) := by decide +kernel
theorem dL_road_246 : decode cL_road 246 = .ok (.invokevirtual 69, 3) := by decide +kernel
theorem dL_road_249 : decode cL_road 249 = .ok (.iload_n 2, 1) := by decide +kernel
theorem dL_road_250 : decode cL_road 250 = .ok (.iload 6, 2) := by decide +kernel
theorem dL_road_252 : decode cL_road 252 = .ok (.invokestatic 14, 3) := by decide +kernel
theorem dL_road_255 : decode cL_road 255 = .ok (.iconst 1, 1) := by decide +kernel
theorem dL_road_256 : decode cL_road 256 = .ok (.if_icmp .ne 8, 3) := by decide +kernel
theorem dL_road_259 : decode cL_road 259 = .ok (.bipush 82, 2) := by decide +kernel
theorem dL_road_261 : decode cL_road 261 = .ok (.goto 5, 3) := by decide +kernel
theorem dL_road_264 : decode cL_road 264 = .ok (.bipush 76, 2) := by decide +kernel
theorem dL_road_266 : decode cL_road 266 = .ok (.if_icmp .eq 5, 3) := by decide +kernel
theorem dL_road_269 : decode cL_road 269 = .ok (.iconst 0, 1) := by decide +kernel
theorem dL_road_270 : decode cL_road 270 = .ok (.ireturn, 1) := by decide +kernel
theorem dL_road_271 : decode cL_road 271 = .ok (.iinc 6 1, 3) := by decide +kernel
theorem dL_road_274 : decode cL_road 274 = .ok (.goto (-39), 3) := by decide +kernel
theorem dL_road_277 : decode cL_road 277 = .ok (.iconst 0, 1) := by decide +kernel
theorem dL_road_278 : decode cL_road 278 = .ok (.istore 6, 2) := by decide +kernel
theorem dL_road_280 : decode cL_road 280 = .ok (.iload 6, 2) := by decide +kernel
theorem dL_road_282 : decode cL_road 282 = .ok (.iconst 4, 1) := by decide +kernel
theorem dL_road_283 : decode cL_road 283 = .ok (.if_icmp .ge 25, 3) := by decide +kernel
theorem dL_road_286 : decode cL_road 286 = .ok (.aload_n 0, 1) := by decide +kernel
theorem dL_road_287 : decode cL_road 287 = .ok (.iload_n 1, 1) := by decide +kernel
theorem dL_road_288 : decode cL_road 288 = .ok (.iload 6, 2) := by decide +kernel
theorem dL_road_290 : decode cL_road 290 = .ok (.invokevirtual 72, 3) := by decide +kernel
theorem dL_road_293 : decode cL_road 293 = .ok (.aload_n 3, 1) := by decide +kernel
theorem dL_road_294 : decode cL_road 294 = .ok (.iload 6, 2) := by decide +kernel
theorem dL_road_296 : decode cL_road 296 = .ok (.iaload, 1) := by decide +kernel
theorem dL_road_297 : decode cL_road 297 = .ok (.if_icmp .eq 5, 3) := by decide +kernel
theorem dL_road_300 : decode cL_road 300 = .ok (.iconst 0, 1) := by decide +kernel
theorem dL_road_301 : decode cL_road 301 = .ok (.ireturn, 1) := by decide +kernel
theorem dL_road_302 : decode cL_road 302 = .ok (.iinc 6 1, 3) := by decide +kernel
theorem dL_road_305 : decode cL_road 305 = .ok (.goto (-25), 3) := by decide +kernel
theorem dL_road_308 : decode cL_road 308 = .ok (.aload_n 3, 1) := by decide +kernel
theorem dL_road_309 : decode cL_road 309 = .ok (.iconst 0, 1) := by decide +kernel
theorem dL_road_310 : decode cL_road 310 = .ok (.iaload, 1) := by decide +kernel
theorem dL_road_311 : decode cL_road 311 = .ok (.i2l, 1) := by decide +kernel
theorem dL_road_312 : decode cL_road 312 = .ok (.aload_n 3, 1) := by decide +kernel
theorem dL_road_313 : decode cL_road 313 = .ok (.iconst 3, 1) := by decide +kernel
theorem dL_road_314 : decode cL_road 314 = .ok (.iaload, 1) := by decide +kernel
theorem dL_road_315 : decode cL_road 315 = .ok (.i2l, 1) := by decide +kernel
theorem dL_road_316 : decode cL_road 316 = .ok (.lmul, 1) := by decide +kernel
theorem dL_road_317 : decode cL_road 317 = .ok (.aload_n 3, 1) := by decide +kernel
theorem dL_road_318 : decode cL_road 318 = .ok (.iconst 1, 1) := by decide +kernel
theorem dL_road_319 : decode cL_road 319 = .ok (.iaload, 1) := by decide +kernel
theorem dL_road_320 : decode cL_road 320 = .ok (.i2l, 1) := by decide +kernel
theorem dL_road_321 : decode cL_road 321 = .ok (.aload_n 3, 1) := by decide +kernel
theorem dL_road_322 : decode cL_road 322 = .ok (.iconst 2, 1) := by decide +kernel
theorem dL_road_323 : decode cL_road 323 = .ok (.iaload, 1) := by decide +kernel
theorem dL_road_324 : decode cL_road 324 = .ok (.i2l, 1) := by decide +kernel
theorem dL_road_325 : decode cL_road 325 = .ok (.lmul, 1) := by decide +kernel
theorem dL_road_326 : decode cL_road 326 = .ok (.lsub, 1) := by decide +kernel
theorem dL_road_327 : decode cL_road 327 = .ok (.lconst 1, 1) := by decide +kernel
theorem dL_road_328 : decode cL_road 328 = .ok (.lcmp, 1) := by decide +kernel
theorem dL_road_329 : decode cL_road 329 = .ok (.ifCond .ne 56, 3) := by decide +kernel
theorem dL_road_332 : decode cL_road 332 = .ok (.aload_n 0, 1) := by decide +kernel
theorem dL_road_333 : decode cL_road 333 = .ok (.iload_n 1, 1) := by decide +kernel
theorem dL_road_334 : decode cL_road 334 = .ok (.iconst 0, 1) := by decide +kernel
theorem dL_road_335 : decode cL_road 335 = .ok (.invokevirtual 74, 3) := by decide +kernel
theorem dL_road_338 : decode cL_road 338 = .ok (.aload_n 3, 1) := by decide +kernel
theorem dL_road_339 : decode cL_road 339 = .ok (.iconst 0, 1) := by decide +kernel
theorem dL_road_340 : decode cL_road 340 = .ok (.iaload, 1) := by decide +kernel
theorem dL_road_341 : decode cL_road 341 = .ok (.aload_n 3, 1) := by decide +kernel
theorem dL_road_342 : decode cL_road 342 = .ok (.iconst 1, 1) := by decide +kernel
theorem dL_road_343 : decode cL_road 343 = .ok (.iaload, 1) := by decide +kernel
theorem dL_road_344 : decode cL_road 344 = .ok (.iadd, 1) := by decide +kernel
theorem dL_road_345 : decode cL_road 345 = .ok (.if_icmp .ne 40, 3) := by decide +kernel
theorem dL_road_348 : decode cL_road 348 = .ok (.aload_n 0, 1) := by decide +kernel
theorem dL_road_349 : decode cL_road 349 = .ok (.iload_n 1, 1) := by decide +kernel
theorem dL_road_350 : decode cL_road 350 = .ok (.iconst 1, 1) := by decide +kernel
theorem dL_road_351 : decode cL_road 351 = .ok (.invokevirtual 74, 3) := by decide +kernel
theorem dL_road_354 : decode cL_road 354 = .ok (.aload_n 3, 1) := by decide +kernel
theorem dL_road_355 : decode cL_road 355 = .ok (.iconst 2, 1) := by decide +kernel
theorem dL_road_356 : decode cL_road 356 = .ok (.iaload, 1) := by decide +kernel
theorem dL_road_357 : decode cL_road 357 = .ok (.aload_n 3, 1) := by decide +kernel
theorem dL_road_358 : decode cL_road 358 = .ok (.iconst 3, 1) := by decide +kernel
theorem dL_road_359 : decode cL_road 359 = .ok (.iaload, 1) := by decide +kernel
theorem dL_road_360 : decode cL_road 360 = .ok (.iadd, 1) := by decide +kernel
theorem dL_road_361 : decode cL_road 361 = .ok (.if_icmp .ne 24, 3) := by decide +kernel
theorem dL_road_364 : decode cL_road 364 = .ok (.aload_n 3, 1) := by decide +kernel
theorem dL_road_365 : decode cL_road 365 = .ok (.iconst 0, 1) := by decide +kernel
theorem dL_road_366 : decode cL_road 366 = .ok (.iaload, 1) := by decide +kernel
theorem dL_road_367 : decode cL_road 367 = .ok (.aload_n 3, 1) := by decide +kernel
theorem dL_road_368 : decode cL_road 368 = .ok (.iconst 1, 1) := by decide +kernel
theorem dL_road_369 : decode cL_road 369 = .ok (.iaload, 1) := by decide +kernel
theorem dL_road_370 : decode cL_road 370 = .ok (.iadd, 1) := by decide +kernel
theorem dL_road_371 : decode cL_road 371 = .ok (.aload_n 3, 1) := by decide +kernel
theorem dL_road_372 : decode cL_road 372 = .ok (.iconst 2, 1) := by decide +kernel
theorem dL_road_373 : decode cL_road 373 = .ok (.iaload, 1) := by decide +kernel
theorem dL_road_374 : decode cL_road 374 = .ok (.aload_n 3, 1) := by decide +kernel
theorem dL_road_375 : decode cL_road 375 = .ok (.iconst 3, 1) := by decide +kernel
theorem dL_road_376 : decode cL_road 376 = .ok (.iaload, 1) := by decide +kernel
theorem dL_road_377 : decode cL_road 377 = .ok (.iadd, 1) := by decide +kernel
theorem dL_road_378 : decode cL_road 378 = .ok (.invokestatic 77, 3) := by decide +kernel
theorem dL_road_381 : decode cL_road 381 = .ok (.iconst 1, 1) := by decide +kernel
theorem dL_road_382 : decode cL_road 382 = .ok (.if_icmp .eq 5, 3) := by decide +kernel
theorem dL_road_385 : decode cL_road 385 = .ok (.iconst 0, 1) := by decide +kernel
theorem dL_road_386 : decode cL_road 386 = .ok (.ireturn, 1) := by decide +kernel
theorem dL_road_387 : decode cL_road 387 = .ok (.iload_n 2, 1) := by decide +kernel
theorem dL_road_388 : decode cL_road 388 = .ok (.invokestatic 54, 3) := by decide +kernel
theorem dL_road_391 : decode cL_road 391 = .ok (.ifCond .ne 54, 3) := by decide +kernel
theorem dL_road_394 : decode cL_road 394 = .ok (.aload_n 0, 1) := by decide +kernel
theorem dL_road_395 : decode cL_road 395 = .ok (.iload_n 1, 1) := by decide +kernel
theorem dL_road_396 : decode cL_road 396 = .ok (.iconst 0, 1) := by decide +kernel
theorem dL_road_397 : decode cL_road 397 = .ok (.invokevirtual 80, 3) := by decide +kernel
theorem dL_road_400 : decode cL_road 400 = .ok (.ldc 83, 2) := by decide +kernel
theorem dL_road_402 : decode cL_road 402 = .ok (.if_icmp .ne 41, 3) := by decide +kernel
theorem dL_road_405 : decode cL_road 405 = .ok (.aload_n 0, 1) := by decide +kernel
theorem dL_road_406 : decode cL_road 406 = .ok (.iload_n 1, 1) := by decide +kernel
theorem dL_road_407 : decode cL_road 407 = .ok (.iconst 5, 1) := by decide +kernel
theorem dL_road_408 : decode cL_road 408 = .ok (.invokevirtual 80, 3) := by decide +kernel
theorem dL_road_411 : decode cL_road 411 = .ok (.ldc 68, 2) := by decide +kernel
theorem dL_road_413 : decode cL_road 413 = .ok (.if_icmp .ne 30, 3) := by decide +kernel
theorem dL_road_416 : decode cL_road 416 = .ok (.aload_n 0, 1) := by decide +kernel
theorem dL_road_417 : decode cL_road 417 = .ok (.iload_n 1, 1) := by decide +kernel
theorem dL_road_418 : decode cL_road 418 = .ok (.iload 4, 2) := by decide +kernel
theorem dL_road_420 : decode cL_road 420 = .ok (.invokevirtual 69, 3) := by decide +kernel
theorem dL_road_423 : decode cL_road 423 = .ok (.ldc 84, 2) := by decide +kernel
theorem dL_road_425 : decode cL_road 425 = .ok (.if_icmp .ne 18, 3) := by decide +kernel
theorem dL_road_428 : decode cL_road 428 = .ok (.aload_n 0, 1) := by decide +kernel
theorem dL_road_429 : decode cL_road 429 = .ok (.iload_n 1, 1) := by decide +kernel
theorem dL_road_430 : decode cL_road 430 = .ok (.iconst (-1), 1) := by decide +kernel
theorem dL_road_431 : decode cL_road 431 = .ok (.invokevirtual 69, 3) := by decide +kernel
theorem dL_road_434 : decode cL_road 434 = .ok (.ldc 84, 2) := by decide +kernel
theorem dL_road_436 : decode cL_road 436 = .ok (.if_icmp .ne 7, 3) := by decide +kernel
theorem dL_road_439 : decode cL_road 439 = .ok (.iconst 1, 1) := by decide +kernel
theorem dL_road_440 : decode cL_road 440 = .ok (.goto 4, 3) := by decide +kernel
theorem dL_road_443 : decode cL_road 443 = .ok (.iconst 0, 1) := by decide +kernel
theorem dL_road_444 : decode cL_road 444 = .ok (.ireturn, 1) := by decide +kernel
theorem dL_road_445 : decode cL_road 445 = .ok (.aload_n 3, 1) := by decide +kernel
theorem dL_road_446 : decode cL_road 446 = .ok (.iconst 2, 1) := by decide +kernel
theorem dL_road_447 : decode cL_road 447 = .ok (.iaload, 1) := by decide +kernel
theorem dL_road_448 : decode cL_road 448 = .ok (.aload_n 3, 1) := by decide +kernel
theorem dL_road_449 : decode cL_road 449 = .ok (.iconst 3, 1) := by decide +kernel
theorem dL_road_450 : decode cL_road 450 = .ok (.iaload, 1) := by decide +kernel
theorem dL_road_451 : decode cL_road 451 = .ok (.aload_n 3, 1) := by decide +kernel
theorem dL_road_452 : decode cL_road 452 = .ok (.iconst 0, 1) := by decide +kernel
theorem dL_road_453 : decode cL_road 453 = .ok (.iaload, 1) := by decide +kernel
theorem dL_road_454 : decode cL_road 454 = .ok (.isub, 1) := by decide +kernel
theorem dL_road_455 : decode cL_road 455 = .ok (.invokestatic 77, 3) := by decide +kernel
theorem dL_road_458 : decode cL_road 458 = .ok (.aload_n 3, 1) := by decide +kernel
theorem dL_road_459 : decode cL_road 459 = .ok (.iconst 1, 1) := by decide +kernel
theorem dL_road_460 : decode cL_road 460 = .ok (.iaload, 1) := by decide +kernel
theorem dL_road_461 : decode cL_road 461 = .ok (.invokestatic 77, 3) := by decide +kernel
theorem dL_road_464 : decode cL_road 464 = .ok (.istore 6, 2) := by decide +kernel
theorem dL_road_466 : decode cL_road 466 = .ok (.aload_n 3, 1) := by decide +kernel
theorem dL_road_467 : decode cL_road 467 = .ok (.iconst 2, 1) := by decide +kernel
theorem dL_road_468 : decode cL_road 468 = .ok (.iaload, 1) := by decide +kernel
theorem dL_road_469 : decode cL_road 469 = .ok (.iload 6, 2) := by decide +kernel
theorem dL_road_471 : decode cL_road 471 = .ok (.idiv, 1) := by decide +kernel
theorem dL_road_472 : decode cL_road 472 = .ok (.istore 7, 2) := by decide +kernel
theorem dL_road_474 : decode cL_road 474 = .ok (.aload_n 3, 1) := by decide +kernel
theorem dL_road_475 : decode cL_road 475 = .ok (.iconst 3, 1) := by decide +kernel
theorem dL_road_476 : decode cL_road 476 = .ok (.iaload, 1) := by decide +kernel
theorem dL_road_477 : decode cL_road 477 = .ok (.aload_n 3, 1) := by decide +kernel
theorem dL_road_478 : decode cL_road 478 = .ok (.iconst 0, 1) := by decide +kernel
theorem dL_road_479 : decode cL_road 479 = .ok (.iaload, 1) := by decide +kernel
theorem dL_road_480 : decode cL_road 480 = .ok (.isub, 1) := by decide +kernel
theorem dL_road_481 : decode cL_road 481 = .ok (.iload 6, 2) := by decide +kernel
theorem dL_road_483 : decode cL_road 483 = .ok (.idiv, 1) := by decide +kernel
theorem dL_road_484 : decode cL_road 484 = .ok (.istore 8, 2) := by decide +kernel
theorem dL_road_486 : decode cL_road 486 = .ok (.aload_n 3, 1) := by decide +kernel
theorem dL_road_487 : decode cL_road 487 = .ok (.iconst 1, 1) := by decide +kernel
theorem dL_road_488 : decode cL_road 488 = .ok (.iaload, 1) := by decide +kernel
theorem dL_road_489 : decode cL_road 489 = .ok (.ineg, 1) := by decide +kernel
theorem dL_road_490 : decode cL_road 490 = .ok (.iload 6, 2) := by decide +kernel
theorem dL_road_492 : decode cL_road 492 = .ok (.idiv, 1) := by decide +kernel
theorem dL_road_493 : decode cL_road 493 = .ok (.istore 9, 2) := by decide +kernel
theorem dL_road_495 : decode cL_road 495 = .ok (.aload_n 3, 1) := by decide +kernel
theorem dL_road_496 : decode cL_road 496 = .ok (.iconst 0, 1) := by decide +kernel
theorem dL_road_497 : decode cL_road 497 = .ok (.iaload, 1) := by decide +kernel
theorem dL_road_498 : decode cL_road 498 = .ok (.aload_n 3, 1) := by decide +kernel
theorem dL_road_499 : decode cL_road 499 = .ok (.iconst 3, 1) := by decide +kernel
theorem dL_road_500 : decode cL_road 500 = .ok (.iaload, 1) := by decide +kernel
theorem dL_road_501 : decode cL_road 501 = .ok (.iadd, 1) := by decide +kernel
theorem dL_road_502 : decode cL_road 502 = .ok (.i2l, 1) := by decide +kernel
theorem dL_road_503 : decode cL_road 503 = .ok (.lstore 10, 2) := by decide +kernel
theorem dL_road_505 : decode cL_road 505 = .ok (.aload_n 0, 1) := by decide +kernel
theorem dL_road_506 : decode cL_road 506 = .ok (.iload_n 1, 1) := by decide +kernel
theorem dL_road_507 : decode cL_road 507 = .ok (.iconst 0, 1) := by decide +kernel
theorem dL_road_508 : decode cL_road 508 = .ok (.invokevirtual 80, 3) := by decide +kernel
theorem dL_road_511 : decode cL_road 511 = .ok (.iload 7, 2) := by decide +kernel
theorem dL_road_513 : decode cL_road 513 = .ok (.if_icmp .ne 119, 3) := by decide +kernel
theorem dL_road_516 : decode cL_road 516 = .ok (.aload_n 0, 1) := by decide +kernel
theorem dL_road_517 : decode cL_road 517 = .ok (.iload_n 1, 1) := by decide +kernel
theorem dL_road_518 : decode cL_road 518 = .ok (.iconst 1, 1) := by decide +kernel
theorem dL_road_519 : decode cL_road 519 = .ok (.invokevirtual 80, 3) := by decide +kernel
theorem dL_road_522 : decode cL_road 522 = .ok (.iload 8, 2) := by decide +kernel
theorem dL_road_524 : decode cL_road 524 = .ok (.if_icmp .ne 108, 3) := by decide +kernel
theorem dL_road_527 : decode cL_road 527 = .ok (.aload_n 0, 1) := by decide +kernel
theorem dL_road_528 : decode cL_road 528 = .ok (.iload_n 1, 1) := by decide +kernel
theorem dL_road_529 : decode cL_road 529 = .ok (.iconst 2, 1) := by decide +kernel
theorem dL_road_530 : decode cL_road 530 = .ok (.invokevirtual 80, 3) := by decide +kernel
theorem dL_road_533 : decode cL_road 533 = .ok (.iload 9, 2) := by decide +kernel
theorem dL_road_535 : decode cL_road 535 = .ok (.if_icmp .ne 97, 3) := by decide +kernel
theorem dL_road_538 : decode cL_road 538 = .ok (.aload_n 0, 1) := by decide +kernel
theorem dL_road_539 : decode cL_road 539 = .ok (.iload_n 1, 1) := by decide +kernel
theorem dL_road_540 : decode cL_road 540 = .ok (.iconst 3, 1) := by decide +kernel
theorem dL_road_541 : decode cL_road 541 = .ok (.invokevirtual 80, 3) := by decide +kernel
theorem dL_road_544 : decode cL_road 544 = .ok (.iload 6, 2) := by decide +kernel
theorem dL_road_546 : decode cL_road 546 = .ok (.if_icmp .ne 86, 3) := by decide +kernel
theorem dL_road_549 : decode cL_road 549 = .ok (.aload_n 0, 1) := by decide +kernel
theorem dL_road_550 : decode cL_road 550 = .ok (.iload_n 1, 1) := by decide +kernel
theorem dL_road_551 : decode cL_road 551 = .ok (.iconst 4, 1) := by decide +kernel
theorem dL_road_552 : decode cL_road 552 = .ok (.invokevirtual 80, 3) := by decide +kernel
theorem dL_road_555 : decode cL_road 555 = .ok (.iload 8, 2) := by decide +kernel
theorem dL_road_557 : decode cL_road 557 = .ok (.iload 8, 2) := by decide +kernel
theorem dL_road_559 : decode cL_road 559 = .ok (.imul, 1) := by decide +kernel
theorem dL_road_560 : decode cL_road 560 = .ok (.iconst 4, 1) := by decide +kernel
theorem dL_road_561 : decode cL_road 561 = .ok (.iload 7, 2) := by decide +kernel
theorem dL_road_563 : decode cL_road 563 = .ok (.imul, 1) := by decide +kernel
theorem dL_road_564 : decode cL_road 564 = .ok (.iload 9, 2) := by decide +kernel
theorem dL_road_566 : decode cL_road 566 = .ok (.imul, 1) := by decide +kernel
theorem dL_road_567 : decode cL_road 567 = .ok (.isub, 1) := by decide +kernel
theorem dL_road_568 : decode cL_road 568 = .ok (.if_icmp .ne 64, 3) := by decide +kernel
theorem dL_road_571 : decode cL_road 571 = .ok (.iload 7, 2) := by decide +kernel
theorem dL_road_573 : decode cL_road 573 = .ok (.ifCond .le 59, 3) := by decide +kernel
theorem dL_road_576 : decode cL_road 576 = .ok (.iload 9, 2) := by decide +kernel
theorem dL_road_578 : decode cL_road 578 = .ok (.ifCond .ge 54, 3) := by decide +kernel
theorem dL_road_581 : decode cL_road 581 = .ok (.lload 10, 2) := by decide +kernel
theorem dL_road_583 : decode cL_road 583 = .ok (.lload 10, 2) := by decide +kernel
theorem dL_road_585 : decode cL_road 585 = .ok (.lmul, 1) := by decide +kernel
theorem dL_road_586 : decode cL_road 586 = .ok (.ldc2_w 85, 3) := by decide +kernel
theorem dL_road_589 : decode cL_road 589 = .ok (.lsub, 1) := by decide +kernel
theorem dL_road_590 : decode cL_road 590 = .ok (.iload 6, 2) := by decide +kernel
theorem dL_road_592 : decode cL_road 592 = .ok (.i2l, 1) := by decide +kernel
theorem dL_road_593 : decode cL_road 593 = .ok (.iload 6, 2) := by decide +kernel
theorem dL_road_595 : decode cL_road 595 = .ok (.i2l, 1) := by decide +kernel
theorem dL_road_596 : decode cL_road 596 = .ok (.lmul, 1) := by decide +kernel
theorem dL_road_597 : decode cL_road 597 = .ok (.iload 8, 2) := by decide +kernel
theorem dL_road_599 : decode cL_road 599 = .ok (.iload 8, 2) := by decide +kernel
theorem dL_road_601 : decode cL_road 601 = .ok (.imul, 1) := by decide +kernel
theorem dL_road_602 : decode cL_road 602 = .ok (.iconst 4, 1) := by decide +kernel
theorem dL_road_603 : decode cL_road 603 = .ok (.iload 7, 2) := by decide +kernel
theorem dL_road_605 : decode cL_road 605 = .ok (.imul, 1) := by decide +kernel
theorem dL_road_606 : decode cL_road 606 = .ok (.iload 9, 2) := by decide +kernel
theorem dL_road_608 : decode cL_road 608 = .ok (.imul, 1) := by decide +kernel
theorem dL_road_609 : decode cL_road 609 = .ok (.isub, 1) := by decide +kernel
theorem dL_road_610 : decode cL_road 610 = .ok (.i2l, 1) := by decide +kernel
theorem dL_road_611 : decode cL_road 611 = .ok (.lmul, 1) := by decide +kernel
theorem dL_road_612 : decode cL_road 612 = .ok (.lcmp, 1) := by decide +kernel
theorem dL_road_613 : decode cL_road 613 = .ok (.ifCond .ne 19, 3) := by decide +kernel
theorem dL_road_616 : decode cL_road 616 = .ok (.aload_n 0, 1) := by decide +kernel
theorem dL_road_617 : decode cL_road 617 = .ok (.iload_n 1, 1) := by decide +kernel
theorem dL_road_618 : decode cL_road 618 = .ok (.iload 4, 2) := by decide +kernel
theorem dL_road_620 : decode cL_road 620 = .ok (.invokevirtual 69, 3) := by decide +kernel
theorem dL_road_623 : decode cL_road 623 = .ok (.ldc 84, 2) := by decide +kernel
theorem dL_road_625 : decode cL_road 625 = .ok (.if_icmp .ne 7, 3) := by decide +kernel
theorem dL_road_628 : decode cL_road 628 = .ok (.iconst 1, 1) := by decide +kernel
theorem dL_road_629 : decode cL_road 629 = .ok (.goto 4, 3) := by decide +kernel
theorem dL_road_632 : decode cL_road 632 = .ok (.iconst 0, 1) := by decide +kernel
theorem dL_road_633 : decode cL_road 633 = .ok (.ireturn, 1) := by decide +kernel
set_option maxRecDepth 20000 in
theorem ggL_stands_L_road : GoodIn wsL_stands wsL_road := goodIn_rq _ [7, 3, 8, 2, 9, 10, 11, 6, 12, 13, 14, 15, 16, 17, 18, 19, 20, 21, 22, 23, 24, 25, 26, 27, 28, 29, 30, 31, 32, 33, 34, 35, 36, 37, 38, 39, 40, 41, 42, 43, 44, 45, 46, 47, 48, 49, 50, 51, 52, 53, 54, 55, 56, 57, 58, 59, 60, 61, 62, 63, 64, 65, 66, 67, 68, 69, 70, 71, 72, 73, 74, 75, 76, 77, 78, 79, 80, 81, 82, 83, 84, 85, 86, 87, 88, 89, 90, 91, 92, 93, 94, 95, 96, 97, 98, 99, 100, 101, 102, 103, 104, 105, 106, 107, 108, 109, 110, 111, 112, 113, 114, 115, 116, 117, 118, 119, 120, 121, 122, 123, 124, 125, 126, 127, 128, 129, 130, 131, 132, 133, 134, 135, 136, 137, 138, 139, 140, 141, 142, 143, 144, 145, 146, 147, 148, 149, 150, 151, 152, 153, 154, 155, 156, 157, 158, 159, 160, 161, 162, 163, 164, 165, 211, 212, 213, 214, 215, 216, 217, 218, 219, 220, 221, 222, 223] (by decide +kernel) (by decide +kernel)
set_option maxRecDepth 20000 in
theorem gL_stands_L_road : GoodIn wsL_stands (va_wsS RL 87 yL_road wsL_road) := goodIn_app (goodIn_of _ (by decide +kernel)) ggL_stands_L_road
set_option maxRecDepth 20000 in
theorem ggL_stands_L_isClosed : GoodIn wsL_stands wsL_isClosed := goodIn_rq _ [111, 103, 104, 6, 105, 10, 11, 12, 19, 20, 21] (by decide +kernel) (by decide +kernel)
set_option maxRecDepth 20000 in
theorem gL_stands_L_isClosed : GoodIn wsL_stands (va_wsS RL 54 yL_isClosed wsL_isClosed) := goodIn_app (goodIn_of _ (by decide +kernel)) ggL_stands_L_isClosed
set_option maxRecDepth 20000 in
theorem ggL_stands_L_alike : GoodIn wsL_stands wsL_alike := goodIn_rq _ [117, 10, 11, 6, 12, 25, 26, 27, 13, 14, 15, 16, 17, 18, 19, 20, 21, 22, 23, 24, 28, 29, 30] (by decide +kernel) (by decide +kernel)
set_option maxRecDepth 20000 in
theorem gL_stands_L_alike : GoodIn wsL_stands (va_wsS RL 61 yL_alike wsL_alike) := goodIn_app (goodIn_of _ (by decide +kernel)) ggL_stands_L_alike
set_option maxRecDepth 20000 in
theorem ggL_stands_L_size : GoodIn wsL_stands wsL_size := goodIn_rq _ [12] (by decide +kernel) (by decide +kernel)
set_option maxRecDepth 20000 in
theorem gL_stands_L_size : GoodIn wsL_stands (va_wsS RL 8 yL_size wsL_size) := goodIn_app (goodIn_of _ (by decide +kernel)) ggL_stands_L_size
set_option maxRecDepth 20000 in
theorem ggL_stands_L_turned : GoodIn wsL_stands wsL_turned := goodIn_rq _ [15, 10, 11, 6, 12, 16, 17, 18, 19, 20, 21, 22, 23, 24] (by decide +kernel) (by decide +kernel)
set_option maxRecDepth 20000 in
theorem gL_stands_L_turned : GoodIn wsL_stands (va_wsS RL 27 yL_turned wsL_turned) := goodIn_app (goodIn_of _ (by decide +kernel)) ggL_stands_L_turned
set_option maxRecDepth 20000 in
theorem ggL_stands_X4_alike : GoodIn wsL_stands wsX4_alike := goodIn_rq _ [169, 39, 40, 41, 170, 43, 44, 45, 37, 46, 47, 48, 171, 65, 66, 59, 67, 63, 62, 68, 69, 70, 71, 61, 72, 211, 212, 213, 214, 215, 216, 217, 218, 219, 220, 221, 222, 223] (by decide +kernel) (by decide +kernel)
set_option maxRecDepth 20000 in
theorem gL_stands_X4_alike : GoodIn wsL_stands (wsV RL 91 RX4 yX4_alike wsX4_alike) := goodIn_app (goodIn_of _ (by decide +kernel)) ggL_stands_X4_alike
set_option maxRecDepth 20000 in
theorem ggL_stands_X4_count : GoodIn wsL_stands wsX4_count := goodIn_rq _ [175, 47, 176, 177, 178, 179, 180, 181, 42, 182, 183, 184, 37, 185, 186, 187, 188, 189, 43, 44, 45, 46, 48, 83, 84, 85, 59, 86, 61, 72, 190, 191, 192, 193, 194, 195, 196, 197, 198, 167, 168, 169, 39, 40, 41, 170, 171, 65, 66, 67, 63, 62, 68, 69, 70, 71, 218, 219, 220, 221, 222, 223, 224, 225, 226, 227, 228, 229, 230, 231, 232, 233, 234, 211, 212, 213, 214, 215, 216, 217] (by decide +kernel) (by decide +kernel)
set_option maxRecDepth 20000 in
theorem gL_stands_X4_count : GoodIn wsL_stands (wsV RL 93 RX4 yX4_count wsX4_count) := goodIn_app (goodIn_of _ (by decide +kernel)) ggL_stands_X4_count
set_option maxRecDepth 20000 in
theorem ggL_stands_X4_road : GoodIn wsL_stands wsX4_road := goodIn_rq _ [38, 39, 40, 41, 42, 43, 44, 45, 37, 46, 47, 48, 49, 50, 51, 52, 53, 54, 55, 56, 57, 58, 59, 60, 61, 62, 63, 64, 65, 66, 67, 68, 69, 70, 71, 72, 73, 74, 75, 76, 77, 78, 79, 80, 81, 82, 83, 84, 85, 86, 87, 88, 89, 90, 91, 92, 93, 94, 95, 96, 97, 98, 99, 100, 101, 102, 211, 212, 213, 214, 215, 216, 217, 218, 219, 220, 221, 222, 223] (by decide +kernel) (by decide +kernel)
set_option maxRecDepth 20000 in
theorem gL_stands_X4_road : GoodIn wsL_stands (wsV RL 48 RX4 yX4_road wsX4_road) := goodIn_app (goodIn_of _ (by decide +kernel)) ggL_stands_X4_road
set_option maxRecDepth 20000 in
theorem ggL_stands_X4_sign : GoodIn wsL_stands wsX4_sign := goodIn_rq _ [124, 40, 39, 43, 44, 45, 37, 46, 47, 48, 125, 92, 93, 59, 94, 61, 63, 126, 127, 128, 211, 212, 213, 214, 215, 216, 217, 218, 219, 220, 221, 222, 223] (by decide +kernel) (by decide +kernel)
set_option maxRecDepth 20000 in
theorem gL_stands_X4_sign : GoodIn wsL_stands (wsV RL 69 RX4 yX4_sign wsX4_sign) := goodIn_app (goodIn_of _ (by decide +kernel)) ggL_stands_X4_sign
set_option maxRecDepth 20000 in
theorem ggL_stands_X4_table : GoodIn wsL_stands wsX4_table := goodIn_rq _ [132, 39, 133, 134, 135, 136, 42, 43, 44, 45, 37, 46, 47, 48, 211, 212, 213, 214, 215, 216, 217, 218, 219, 220, 221, 222, 223] (by decide +kernel) (by decide +kernel)
set_option maxRecDepth 20000 in
theorem gL_stands_X4_table : GoodIn wsL_stands (wsV RL 72 RX4 yX4_table wsX4_table) := goodIn_app (goodIn_of _ (by decide +kernel)) ggL_stands_X4_table
set_option maxRecDepth 20000 in
theorem ggL_stands_X4_form : GoodIn wsL_stands wsX4_form := goodIn_rq _ [147, 39, 42, 148, 43, 44, 45, 37, 46, 47, 48, 83, 84, 85, 59, 86, 61, 72, 149, 150, 151, 152, 153, 82, 81, 154, 155, 156, 157, 158, 159, 160, 161, 162, 163, 164, 165, 218, 219, 220, 221, 222, 223, 211, 212, 213, 214, 215, 216, 217] (by decide +kernel) (by decide +kernel)
set_option maxRecDepth 20000 in
theorem gL_stands_X4_form : GoodIn wsL_stands (wsV RL 80 RX4 yX4_form wsX4_form) := goodIn_app (goodIn_of _ (by decide +kernel)) ggL_stands_X4_form
set_option maxRecDepth 20000 in
theorem ggL_stands_X4_end : GoodIn wsL_stands wsX4_end := goodIn_rq _ [140, 39, 133, 134, 135, 136, 42, 43, 44, 45, 37, 46, 47, 48, 211, 212, 213, 214, 215, 216, 217, 218, 219, 220, 221, 222, 223] (by decide +kernel) (by decide +kernel)
set_option maxRecDepth 20000 in
theorem gL_stands_X4_end : GoodIn wsL_stands (wsV RL 74 RX4 yX4_end wsX4_end) := goodIn_app (goodIn_of _ (by decide +kernel)) ggL_stands_X4_end
set_option maxRecDepth 20000 in
theorem ggL_stands_X4_cross : GoodIn wsL_stands wsX4_cross := goodIn_rq _ [202, 39, 148, 43, 44, 45, 37, 46, 47, 48, 83, 84, 85, 59, 86, 61, 72, 203, 204, 205, 206, 63, 91, 92, 93, 94, 207, 208, 209, 210, 218, 219, 220, 221, 222, 223, 211, 212, 213, 214, 215, 216, 217] (by decide +kernel) (by decide +kernel)
set_option maxRecDepth 20000 in
theorem gL_stands_X4_cross : GoodIn wsL_stands (wsV RL 96 RX4 yX4_cross wsX4_cross) := goodIn_app (goodIn_of _ (by decide +kernel)) ggL_stands_X4_cross
theorem dL_stands_0 : decode cL_stands 0 = .ok (.iconst 0, 1) := by decide +kernel
theorem dL_stands_1 : decode cL_stands 1 = .ok (.istore 4, 2) := by decide +kernel
theorem dL_stands_3 : decode cL_stands 3 = .ok (.iconst 0, 1) := by decide +kernel
theorem dL_stands_4 : decode cL_stands 4 = .ok (.istore 5, 2) := by decide +kernel
theorem dL_stands_6 : decode cL_stands 6 = .ok (.iconst 0, 1) := by decide +kernel
theorem dL_stands_7 : decode cL_stands 7 = .ok (.istore 6, 2) := by decide +kernel
theorem dL_stands_9 : decode cL_stands 9 = .ok (.iload 6, 2) := by decide +kernel
theorem dL_stands_11 : decode cL_stands 11 = .ok (.iload_n 2, 1) := by decide +kernel
theorem dL_stands_12 : decode cL_stands 12 = .ok (.if_icmp .ge 179, 3) := by decide +kernel
theorem dL_stands_15 : decode cL_stands 15 = .ok (.aload_n 0, 1) := by decide +kernel
theorem dL_stands_16 : decode cL_stands 16 = .ok (.iload 6, 2) := by decide +kernel
theorem dL_stands_18 : decode cL_stands 18 = .ok (.aload_n 1, 1) := by decide +kernel
theorem dL_stands_19 : decode cL_stands 19 = .ok (.iload 6, 2) := by decide +kernel
theorem dL_stands_21 : decode cL_stands 21 = .ok (.iaload, 1) := by decide +kernel
theorem dL_stands_22 : decode cL_stands 22 = .ok (.aload_n 3, 1) := by decide +kernel
theorem dL_stands_23 : decode cL_stands 23 = .ok (.invokestatic 87, 3) := by decide +kernel
theorem dL_stands_26 : decode cL_stands 26 = .ok (.ifCond .ne 5, 3) := by decide +kernel
theorem dL_stands_29 : decode cL_stands 29 = .ok (.iconst 0, 1) := by decide +kernel
theorem dL_stands_30 : decode cL_stands 30 = .ok (.ireturn, 1) := by decide +kernel
theorem dL_stands_31 : decode cL_stands 31 = .ok (.iload 4, 2) := by decide +kernel
theorem dL_stands_33 : decode cL_stands 33 = .ok (.aload_n 1, 1) := by decide +kernel
theorem dL_stands_34 : decode cL_stands 34 = .ok (.iload 6, 2) := by decide +kernel
theorem dL_stands_36 : decode cL_stands 36 = .ok (.iaload, 1) := by decide +kernel
theorem dL_stands_37 : decode cL_stands 37 = .ok (.invokestatic 54, 3) := by decide +kernel
theorem dL_stands_40 : decode cL_stands 40 = .ok (.ifCond .eq 7, 3) := by decide +kernel
theorem dL_stands_43 : decode cL_stands 43 = .ok (.iconst 1, 1) := by decide +kernel
theorem dL_stands_44 : decode cL_stands 44 = .ok (.goto 4, 3) := by decide +kernel
theorem dL_stands_47 : decode cL_stands 47 = .ok (.iconst 0, 1) := by decide +kernel
theorem dL_stands_48 : decode cL_stands 48 = .ok (.iadd, 1) := by decide +kernel
theorem dL_stands_49 : decode cL_stands 49 = .ok (.istore 4, 2) := by decide +kernel
theorem dL_stands_51 : decode cL_stands 51 = .ok (.iconst 1, 1) := by decide +kernel
theorem dL_stands_52 : decode cL_stands 52 = .ok (.istore 7, 2) := by decide +kernel
theorem dL_stands_54 : decode cL_stands 54 = .ok (.iconst 0, 1) := by decide +kernel
theorem dL_stands_55 : decode cL_stands 55 = .ok (.istore 8, 2) := by decide +kernel
theorem dL_stands_57 : decode cL_stands 57 = .ok (.iload 8, 2) := by decide +kernel
theorem dL_stands_59 : decode cL_stands 59 = .ok (.iload 6, 2) := by decide +kernel
theorem dL_stands_61 : decode cL_stands 61 = .ok (.if_icmp .ge 33, 3) := by decide +kernel
theorem dL_stands_64 : decode cL_stands 64 = .ok (.iload 7, 2) := by decide +kernel
theorem dL_stands_66 : decode cL_stands 66 = .ok (.aload_n 1, 1) := by decide +kernel
theorem dL_stands_67 : decode cL_stands 67 = .ok (.iload 6, 2) := by decide +kernel
theorem dL_stands_69 : decode cL_stands 69 = .ok (.iaload, 1) := by decide +kernel
theorem dL_stands_70 : decode cL_stands 70 = .ok (.aload_n 1, 1) := by decide +kernel
theorem dL_stands_71 : decode cL_stands 71 = .ok (.iload 8, 2) := by decide +kernel
theorem dL_stands_73 : decode cL_stands 73 = .ok (.iaload, 1) := by decide +kernel
theorem dL_stands_74 : decode cL_stands 74 = .ok (.invokestatic 61, 3) := by decide +kernel
theorem dL_stands_77 : decode cL_stands 77 = .ok (.ifCond .ne 7, 3) := by decide +kernel
theorem dL_stands_80 : decode cL_stands 80 = .ok (.iconst 1, 1) := by decide +kernel
theorem dL_stands_81 : decode cL_stands 81 = .ok (.goto 4, 3) := by decide +kernel
theorem dL_stands_84 : decode cL_stands 84 = .ok (.iconst 0, 1) := by decide +kernel
theorem dL_stands_85 : decode cL_stands 85 = .ok (.iand, 1) := by decide +kernel
theorem dL_stands_86 : decode cL_stands 86 = .ok (.istore 7, 2) := by decide +kernel
theorem dL_stands_88 : decode cL_stands 88 = .ok (.iinc 8 1, 3) := by decide +kernel
theorem dL_stands_91 : decode cL_stands 91 = .ok (.goto (-34), 3) := by decide +kernel
theorem dL_stands_94 : decode cL_stands 94 = .ok (.iload 5, 2) := by decide +kernel
theorem dL_stands_96 : decode cL_stands 96 = .ok (.iload 7, 2) := by decide +kernel
theorem dL_stands_98 : decode cL_stands 98 = .ok (.ifCond .eq 7, 3) := by decide +kernel
theorem dL_stands_101 : decode cL_stands 101 = .ok (.iconst 1, 1) := by decide +kernel
theorem dL_stands_102 : decode cL_stands 102 = .ok (.goto 4, 3) := by decide +kernel
theorem dL_stands_105 : decode cL_stands 105 = .ok (.iconst 0, 1) := by decide +kernel
theorem dL_stands_106 : decode cL_stands 106 = .ok (.iadd, 1) := by decide +kernel
theorem dL_stands_107 : decode cL_stands 107 = .ok (.istore 5, 2) := by decide +kernel
theorem dL_stands_109 : decode cL_stands 109 = .ok (.iconst 0, 1) := by decide +kernel
theorem dL_stands_110 : decode cL_stands 110 = .ok (.istore 8, 2) := by decide +kernel
theorem dL_stands_112 : decode cL_stands 112 = .ok (.iload 8, 2) := by decide +kernel
theorem dL_stands_114 : decode cL_stands 114 = .ok (.iload_n 2, 1) := by decide +kernel
theorem dL_stands_115 : decode cL_stands 115 = .ok (.if_icmp .ge 70, 3) := by decide +kernel
theorem dL_stands_118 : decode cL_stands 118 = .ok (.ldc 90, 2) := by decide +kernel
theorem dL_stands_120 : decode cL_stands 120 = .ok (.istore 9, 2) := by decide +kernel
theorem dL_stands_122 : decode cL_stands 122 = .ok (.aload_n 1, 1) := by decide +kernel
theorem dL_stands_123 : decode cL_stands 123 = .ok (.iload 6, 2) := by decide +kernel
theorem dL_stands_125 : decode cL_stands 125 = .ok (.iaload, 1) := by decide +kernel
theorem dL_stands_126 : decode cL_stands 126 = .ok (.invokestatic 8, 3) := by decide +kernel
theorem dL_stands_129 : decode cL_stands 129 = .ok (.iconst 1, 1) := by decide +kernel
theorem dL_stands_130 : decode cL_stands 130 = .ok (.isub, 1) := by decide +kernel
theorem dL_stands_131 : decode cL_stands 131 = .ok (.istore 10, 2) := by decide +kernel
theorem dL_stands_133 : decode cL_stands 133 = .ok (.iload 10, 2) := by decide +kernel
theorem dL_stands_135 : decode cL_stands 135 = .ok (.ifCond .lt 29, 3) := by decide +kernel
theorem dL_stands_138 : decode cL_stands 138 = .ok (.aload_n 1, 1) := by decide +kernel
theorem dL_stands_139 : decode cL_stands 139 = .ok (.iload 6, 2) := by decide +kernel
theorem dL_stands_141 : decode cL_stands 141 = .ok (.iaload, 1) := by decide +kernel
theorem dL_stands_142 : decode cL_stands 142 = .ok (.iload 10, 2) := by decide +kernel
theorem dL_stands_144 : decode cL_stands 144 = .ok (.invokestatic 27, 3) := by decide +kernel
theorem dL_stands_147 : decode cL_stands 147 = .ok (.aload_n 1, 1) := by decide +kernel
theorem dL_stands_148 : decode cL_stands 148 = .ok (.iload 8, 2) := by decide +kernel
theorem dL_stands_150 : decode cL_stands 150 = .ok (.iaload, 1) := by decide +kernel
theorem dL_stands_151 : decode cL_stands 151 = .ok (.if_icmp .ne 7, 3) := by decide +kernel
theorem dL_stands_154 : decode cL_stands 154 = .ok (.iload 10, 2) := by decide +kernel
theorem dL_stands_156 : decode cL_stands 156 = .ok (.istore 9, 2) := by decide +kernel
theorem dL_stands_158 : decode cL_stands 158 = .ok (.iinc 10 (-1), 3) := by decide +kernel
theorem dL_stands_161 : decode cL_stands 161 = .ok (.goto (-28), 3) := by decide +kernel
theorem dL_stands_164 : decode cL_stands 164 = .ok (.aload_n 0, 1) := by decide +kernel
theorem dL_stands_165 : decode cL_stands 165 = .ok (.iload 6, 2) := by decide +kernel
theorem dL_stands_167 : decode cL_stands 167 = .ok (.iload 8, 2) := by decide +kernel
theorem dL_stands_169 : decode cL_stands 169 = .ok (.invokevirtual 91, 3) := by decide +kernel
theorem dL_stands_172 : decode cL_stands 172 = .ok (.iload 9, 2) := by decide +kernel
theorem dL_stands_174 : decode cL_stands 174 = .ok (.if_icmp .eq 5, 3) := by decide +kernel
theorem dL_stands_177 : decode cL_stands 177 = .ok (.iconst 0, 1) := by decide +kernel
theorem dL_stands_178 : decode cL_stands 178 = .ok (.ireturn, 1) := by decide +kernel
theorem dL_stands_179 : decode cL_stands 179 = .ok (.iinc 8 1, 3) := by decide +kernel
theorem dL_stands_182 : decode cL_stands 182 = .ok (.goto (-70), 3) := by decide +kernel
theorem dL_stands_185 : decode cL_stands 185 = .ok (.iinc 6 1, 3) := by decide +kernel
theorem dL_stands_188 : decode cL_stands 188 = .ok (.goto (-179), 3) := by decide +kernel
theorem dL_stands_191 : decode cL_stands 191 = .ok (.aload_n 0, 1) := by decide +kernel
theorem dL_stands_192 : decode cL_stands 192 = .ok (.iconst 0, 1) := by decide +kernel
theorem dL_stands_193 : decode cL_stands 193 = .ok (.invokevirtual 93, 3) := by decide +kernel
theorem dL_stands_196 : decode cL_stands 196 = .ok (.iload_n 2, 1) := by decide +kernel
theorem dL_stands_197 : decode cL_stands 197 = .ok (.if_icmp .ne 142, 3) := by decide +kernel
theorem dL_stands_200 : decode cL_stands 200 = .ok (.aload_n 0, 1) := by decide +kernel
theorem dL_stands_201 : decode cL_stands 201 = .ok (.iconst 1, 1) := by decide +kernel
theorem dL_stands_202 : decode cL_stands 202 = .ok (.invokevirtual 93, 3) := by decide +kernel
theorem dL_stands_205 : decode cL_stands 205 = .ok (.iload 4, 2) := by decide +kernel
theorem dL_stands_207 : decode cL_stands 207 = .ok (.if_icmp .ne 132, 3) := by decide +kernel
theorem dL_stands_210 : decode cL_stands 210 = .ok (.aload_n 0, 1) := by decide +kernel
theorem dL_stands_211 : decode cL_stands 211 = .ok (.iconst 2, 1) := by decide +kernel
theorem dL_stands_212 : decode cL_stands 212 = .ok (.invokevirtual 93, 3) := by decide +kernel
theorem dL_stands_215 : decode cL_stands 215 = .ok (.iload 5, 2) := by decide +kernel
theorem dL_stands_217 : decode cL_stands 217 = .ok (.if_icmp .ne 122, 3) := by decide +kernel
theorem dL_stands_220 : decode cL_stands 220 = .ok (.aload_n 0, 1) := by decide +kernel
theorem dL_stands_221 : decode cL_stands 221 = .ok (.iload_n 2, 1) := by decide +kernel
theorem dL_stands_222 : decode cL_stands 222 = .ok (.iconst 0, 1) := by decide +kernel
theorem dL_stands_223 : decode cL_stands 223 = .ok (.invokevirtual 48, 3) := by decide +kernel
theorem dL_stands_226 : decode cL_stands 226 = .ok (.ldc 84, 2) := by decide +kernel
theorem dL_stands_228 : decode cL_stands 228 = .ok (.if_icmp .ne 111, 3) := by decide +kernel
theorem dL_stands_231 : decode cL_stands 231 = .ok (.aload_n 0, 1) := by decide +kernel
theorem dL_stands_232 : decode cL_stands 232 = .ok (.iconst (-1), 1) := by decide +kernel
theorem dL_stands_233 : decode cL_stands 233 = .ok (.iconst 0, 1) := by decide +kernel
theorem dL_stands_234 : decode cL_stands 234 = .ok (.invokevirtual 48, 3) := by decide +kernel
theorem dL_stands_237 : decode cL_stands 237 = .ok (.ldc 84, 2) := by decide +kernel
theorem dL_stands_239 : decode cL_stands 239 = .ok (.if_icmp .ne 100, 3) := by decide +kernel
theorem dL_stands_242 : decode cL_stands 242 = .ok (.aload_n 0, 1) := by decide +kernel
theorem dL_stands_243 : decode cL_stands 243 = .ok (.iload_n 2, 1) := by decide +kernel
theorem dL_stands_244 : decode cL_stands 244 = .ok (.iconst 0, 1) := by decide +kernel
theorem dL_stands_245 : decode cL_stands 245 = .ok (.invokevirtual 69, 3) := by decide +kernel
theorem dL_stands_248 : decode cL_stands 248 = .ok (.ldc 84, 2) := by decide +kernel
theorem dL_stands_250 : decode cL_stands 250 = .ok (.if_icmp .ne 89, 3) := by decide +kernel
theorem dL_stands_253 : decode cL_stands 253 = .ok (.aload_n 0, 1) := by decide +kernel
theorem dL_stands_254 : decode cL_stands 254 = .ok (.iload_n 2, 1) := by decide +kernel
theorem dL_stands_255 : decode cL_stands 255 = .ok (.iconst 0, 1) := by decide +kernel
theorem dL_stands_256 : decode cL_stands 256 = .ok (.invokevirtual 72, 3) := by decide +kernel
theorem dL_stands_259 : decode cL_stands 259 = .ok (.ldc 84, 2) := by decide +kernel
theorem dL_stands_261 : decode cL_stands 261 = .ok (.if_icmp .ne 78, 3) := by decide +kernel
theorem dL_stands_264 : decode cL_stands 264 = .ok (.aload_n 0, 1) := by decide +kernel
theorem dL_stands_265 : decode cL_stands 265 = .ok (.iload_n 2, 1) := by decide +kernel
theorem dL_stands_266 : decode cL_stands 266 = .ok (.bipush 9, 2) := by decide +kernel
theorem dL_stands_268 : decode cL_stands 268 = .ok (.invokevirtual 80, 3) := by decide +kernel
theorem dL_stands_271 : decode cL_stands 271 = .ok (.ldc 84, 2) := by decide +kernel
theorem dL_stands_273 : decode cL_stands 273 = .ok (.if_icmp .ne 66, 3) := by decide +kernel
theorem dL_stands_276 : decode cL_stands 276 = .ok (.aload_n 0, 1) := by decide +kernel
theorem dL_stands_277 : decode cL_stands 277 = .ok (.iload_n 2, 1) := by decide +kernel
theorem dL_stands_278 : decode cL_stands 278 = .ok (.iconst 0, 1) := by decide +kernel
theorem dL_stands_279 : decode cL_stands 279 = .ok (.invokevirtual 74, 3) := by decide +kernel
theorem dL_stands_282 : decode cL_stands 282 = .ok (.ldc 84, 2) := by decide +kernel
theorem dL_stands_284 : decode cL_stands 284 = .ok (.if_icmp .ne 55, 3) := by decide +kernel
theorem dL_stands_287 : decode cL_stands 287 = .ok (.aload_n 0, 1) := by decide +kernel
theorem dL_stands_288 : decode cL_stands 288 = .ok (.iload_n 2, 1) := by decide +kernel
theorem dL_stands_289 : decode cL_stands 289 = .ok (.iconst 0, 1) := by decide +kernel
theorem dL_stands_290 : decode cL_stands 290 = .ok (.invokevirtual 91, 3) := by decide +kernel
theorem dL_stands_293 : decode cL_stands 293 = .ok (.ldc 84, 2) := by decide +kernel
theorem dL_stands_295 : decode cL_stands 295 = .ok (.if_icmp .ne 44, 3) := by decide +kernel
theorem dL_stands_298 : decode cL_stands 298 = .ok (.aload_n 0, 1) := by decide +kernel
theorem dL_stands_299 : decode cL_stands 299 = .ok (.iconst 0, 1) := by decide +kernel
theorem dL_stands_300 : decode cL_stands 300 = .ok (.iload_n 2, 1) := by decide +kernel
theorem dL_stands_301 : decode cL_stands 301 = .ok (.invokevirtual 96, 3) := by decide +kernel
theorem dL_stands_304 : decode cL_stands 304 = .ok (.ldc 84, 2) := by decide +kernel
theorem dL_stands_306 : decode cL_stands 306 = .ok (.if_icmp .ne 33, 3) := by decide +kernel
theorem dL_stands_309 : decode cL_stands 309 = .ok (.iload_n 2, 1) := by decide +kernel
theorem dL_stands_310 : decode cL_stands 310 = .ok (.ifCond .eq 25, 3) := by decide +kernel
theorem dL_stands_313 : decode cL_stands 313 = .ok (.aload_n 0, 1) := by decide +kernel
theorem dL_stands_314 : decode cL_stands 314 = .ok (.iconst 0, 1) := by decide +kernel
theorem dL_stands_315 : decode cL_stands 315 = .ok (.iconst 4, 1) := by decide +kernel
theorem dL_stands_316 : decode cL_stands 316 = .ok (.invokevirtual 72, 3) := by decide +kernel
theorem dL_stands_319 : decode cL_stands 319 = .ok (.ldc 68, 2) := by decide +kernel
theorem dL_stands_321 : decode cL_stands 321 = .ok (.if_icmp .ne 18, 3) := by decide +kernel
theorem dL_stands_324 : decode cL_stands 324 = .ok (.aload_n 0, 1) := by decide +kernel
theorem dL_stands_325 : decode cL_stands 325 = .ok (.iconst 0, 1) := by decide +kernel
theorem dL_stands_326 : decode cL_stands 326 = .ok (.iconst 2, 1) := by decide +kernel
theorem dL_stands_327 : decode cL_stands 327 = .ok (.invokevirtual 74, 3) := by decide +kernel
theorem dL_stands_330 : decode cL_stands 330 = .ok (.ldc 68, 2) := by decide +kernel
theorem dL_stands_332 : decode cL_stands 332 = .ok (.if_icmp .ne 7, 3) := by decide +kernel
theorem dL_stands_335 : decode cL_stands 335 = .ok (.iconst 1, 1) := by decide +kernel
theorem dL_stands_336 : decode cL_stands 336 = .ok (.goto 4, 3) := by decide +kernel
theorem dL_stands_339 : decode cL_stands 339 = .ok (.iconst 0, 1) := by decide +kernel
theorem dL_stands_340 : decode cL_stands 340 = .ok (.ireturn, 1) := by decide +kernel
set_option maxRecDepth 20000 in
theorem ggL_crosses_L_isClosed : GoodIn wsL_crosses wsL_isClosed := goodIn_rq _ [5, 6, 7, 4, 8, 9, 10, 11, 12, 13, 14] (by decide +kernel) (by decide +kernel)
set_option maxRecDepth 20000 in
theorem gL_crosses_L_isClosed : GoodIn wsL_crosses (va_wsS RL 54 yL_isClosed wsL_isClosed) := goodIn_app (goodIn_of _ (by decide +kernel)) ggL_crosses_L_isClosed
set_option maxRecDepth 20000 in
theorem ggL_crosses_L_crossings : GoodIn wsL_crosses wsL_crossings := goodIn_rq _ [17, 9, 10, 4, 11, 12, 13, 14, 18, 19, 20] (by decide +kernel) (by decide +kernel)
set_option maxRecDepth 20000 in
theorem gL_crosses_L_crossings : GoodIn wsL_crosses (va_wsS RL 99 yL_crossings wsL_crossings) := goodIn_app (goodIn_of _ (by decide +kernel)) ggL_crosses_L_crossings
set_option maxRecDepth 20000 in
theorem ggL_crosses_X4_cross : GoodIn wsL_crosses wsX4_cross := goodIn_rq _ [25, 26, 27, 28, 29, 30, 24, 31, 32, 33, 34, 35, 36, 37, 38, 39, 40, 41, 42, 43, 44, 45, 46, 47, 48, 49, 50, 51, 52, 53, 78, 79, 80, 81, 82, 83, 84, 85, 86, 87, 88, 89, 90] (by decide +kernel) (by decide +kernel)
set_option maxRecDepth 20000 in
theorem gL_crosses_X4_cross : GoodIn wsL_crosses (wsV RL 96 RX4 yX4_cross wsX4_cross) := goodIn_app (goodIn_of _ (by decide +kernel)) ggL_crosses_X4_cross
set_option maxRecDepth 20000 in
theorem ggL_crosses_L_turned : GoodIn wsL_crosses wsL_turned := goodIn_rq _ [56, 9, 10, 4, 11, 18, 19, 20, 12, 13, 14, 57, 58, 59] (by decide +kernel) (by decide +kernel)
set_option maxRecDepth 20000 in
theorem gL_crosses_L_turned : GoodIn wsL_crosses (va_wsS RL 27 yL_turned wsL_turned) := goodIn_app (goodIn_of _ (by decide +kernel)) ggL_crosses_L_turned
set_option maxRecDepth 20000 in
theorem ggL_crosses_L_mirror : GoodIn wsL_crosses wsL_mirror := goodIn_rq _ [62, 9, 10, 4, 11, 12, 13, 14, 57, 58, 59] (by decide +kernel) (by decide +kernel)
set_option maxRecDepth 20000 in
theorem gL_crosses_L_mirror : GoodIn wsL_crosses (va_wsS RL 65 yL_mirror wsL_mirror) := goodIn_app (goodIn_of _ (by decide +kernel)) ggL_crosses_L_mirror
set_option maxRecDepth 20000 in
theorem ggL_crosses_L_back : GoodIn wsL_crosses wsL_back := goodIn_rq _ [65, 9, 10, 4, 11, 12, 13, 14, 57, 58, 59] (by decide +kernel) (by decide +kernel)
set_option maxRecDepth 20000 in
theorem gL_crosses_L_back : GoodIn wsL_crosses (va_wsS RL 58 yL_back wsL_back) := goodIn_app (goodIn_of _ (by decide +kernel)) ggL_crosses_L_back
set_option maxRecDepth 20000 in
theorem ggL_crosses_L_size : GoodIn wsL_crosses wsL_size := goodIn_rq _ [11] (by decide +kernel) (by decide +kernel)
set_option maxRecDepth 20000 in
theorem gL_crosses_L_size : GoodIn wsL_crosses (va_wsS RL 8 yL_size wsL_size) := goodIn_app (goodIn_of _ (by decide +kernel)) ggL_crosses_L_size
set_option maxRecDepth 20000 in
theorem ggL_crosses_L_join : GoodIn wsL_crosses wsL_join := goodIn_rq _ [68, 9, 10, 4, 11, 12, 13, 14, 57, 58, 59] (by decide +kernel) (by decide +kernel)
set_option maxRecDepth 20000 in
theorem gL_crosses_L_join : GoodIn wsL_crosses (va_wsS RL 102 yL_join wsL_join) := goodIn_app (goodIn_of _ (by decide +kernel)) ggL_crosses_L_join
set_option maxRecDepth 20000 in
theorem ggL_crosses_L_alike : GoodIn wsL_crosses wsL_alike := goodIn_rq _ [71, 9, 10, 4, 11, 72, 73, 74, 54, 55, 56, 18, 19, 20, 12, 13, 14, 57, 58, 59, 75, 76, 77] (by decide +kernel) (by decide +kernel)
end
section
set_option maxRecDepth 20000 in
theorem gL_crosses_L_alike : GoodIn wsL_crosses (va_wsS RL 61 yL_alike wsL_alike) := goodIn_app (goodIn_of _ (by decide +kernel)) ggL_crosses_L_alike
theorem dL_crosses_0 : decode cL_crosses 0 = .ok (.iconst 0, 1) := by decide +kernel
theorem dL_crosses_1 : decode cL_crosses 1 = .ok (.istore_n 3, 1) := by decide +kernel
theorem dL_crosses_2 : decode cL_crosses 2 = .ok (.iload_n 3, 1) := by decide +kernel
theorem dL_crosses_3 : decode cL_crosses 3 = .ok (.iload_n 2, 1) := by decide +kernel
theorem dL_crosses_4 : decode cL_crosses 4 = .ok (.if_icmp .ge 230, 3) := by decide +kernel
theorem dL_crosses_7 : decode cL_crosses 7 = .ok (.iconst 0, 1) := by decide +kernel
theorem dL_crosses_8 : decode cL_crosses 8 = .ok (.istore 4, 2) := by decide +kernel
theorem dL_crosses_10 : decode cL_crosses 10 = .ok (.iload 4, 2) := by decide +kernel
theorem dL_crosses_12 : decode cL_crosses 12 = .ok (.iload_n 2, 1) := by decide +kernel
theorem dL_crosses_13 : decode cL_crosses 13 = .ok (.if_icmp .ge 215, 3) := by decide +kernel
theorem dL_crosses_16 : decode cL_crosses 16 = .ok (.aload_n 1, 1) := by decide +kernel
theorem dL_crosses_17 : decode cL_crosses 17 = .ok (.iload_n 3, 1) := by decide +kernel
theorem dL_crosses_18 : decode cL_crosses 18 = .ok (.iaload, 1) := by decide +kernel
theorem dL_crosses_19 : decode cL_crosses 19 = .ok (.invokestatic 54, 3) := by decide +kernel
theorem dL_crosses_22 : decode cL_crosses 22 = .ok (.ifCond .eq 17, 3) := by decide +kernel
theorem dL_crosses_25 : decode cL_crosses 25 = .ok (.aload_n 1, 1) := by decide +kernel
theorem dL_crosses_26 : decode cL_crosses 26 = .ok (.iload 4, 2) := by decide +kernel
theorem dL_crosses_28 : decode cL_crosses 28 = .ok (.iaload, 1) := by decide +kernel
theorem dL_crosses_29 : decode cL_crosses 29 = .ok (.invokestatic 54, 3) := by decide +kernel
theorem dL_crosses_32 : decode cL_crosses 32 = .ok (.ifCond .eq 7, 3) := by decide +kernel
theorem dL_crosses_35 : decode cL_crosses 35 = .ok (.iconst 1, 1) := by decide +kernel
theorem dL_crosses_36 : decode cL_crosses 36 = .ok (.goto 4, 3) := by decide +kernel
theorem dL_crosses_39 : decode cL_crosses 39 = .ok (.iconst 0, 1) := by decide +kernel
theorem dL_crosses_40 : decode cL_crosses 40 = .ok (.istore 5, 2) := by decide +kernel
theorem dL_crosses_42 : decode cL_crosses 42 = .ok (.iload 5, 2) := by decide +kernel
theorem dL_crosses_44 : decode cL_crosses 44 = .ok (.ifCond .eq 16, 3) := by decide +kernel
theorem dL_crosses_47 : decode cL_crosses 47 = .ok (.aload_n 1, 1) := by decide +kernel
theorem dL_crosses_48 : decode cL_crosses 48 = .ok (.iload_n 3, 1) := by decide +kernel
theorem dL_crosses_49 : decode cL_crosses 49 = .ok (.iaload, 1) := by decide +kernel
theorem dL_crosses_50 : decode cL_crosses 50 = .ok (.aload_n 1, 1) := by decide +kernel
theorem dL_crosses_51 : decode cL_crosses 51 = .ok (.iload 4, 2) := by decide +kernel
theorem dL_crosses_53 : decode cL_crosses 53 = .ok (.iaload, 1) := by decide +kernel
theorem dL_crosses_54 : decode cL_crosses 54 = .ok (.invokestatic 99, 3) := by decide +kernel
theorem dL_crosses_57 : decode cL_crosses 57 = .ok (.goto 5, 3) := by decide +kernel
theorem dL_crosses_60 : decode cL_crosses 60 = .ok (.ldc 83, 2) := by decide +kernel
theorem dL_crosses_62 : decode cL_crosses 62 = .ok (.istore 6, 2) := by decide +kernel
theorem dL_crosses_64 : decode cL_crosses 64 = .ok (.aload_n 0, 1) := by decide +kernel
theorem dL_crosses_65 : decode cL_crosses 65 = .ok (.iload_n 3, 1) := by decide +kernel
theorem dL_crosses_66 : decode cL_crosses 66 = .ok (.iload 4, 2) := by decide +kernel
theorem dL_crosses_68 : decode cL_crosses 68 = .ok (.invokevirtual 96, 3) := by decide +kernel
theorem dL_crosses_71 : decode cL_crosses 71 = .ok (.iload 6, 2) := by decide +kernel
theorem dL_crosses_73 : decode cL_crosses 73 = .ok (.if_icmp .eq 5, 3) := by decide +kernel
theorem dL_crosses_76 : decode cL_crosses 76 = .ok (.iconst 0, 1) := by decide +kernel
theorem dL_crosses_77 : decode cL_crosses 77 = .ok (.ireturn, 1) := by decide +kernel
theorem dL_crosses_78 : decode cL_crosses 78 = .ok (.iload 5, 2) := by decide +kernel
theorem dL_crosses_80 : decode cL_crosses 80 = .ok (.ifCond .ne 6, 3) := by decide +kernel
theorem dL_crosses_83 : decode cL_crosses 83 = .ok (.goto 139, 3) := by decide +kernel
theorem dL_crosses_86 : decode cL_crosses 86 = .ok (.aload_n 1, 1) := by decide +kernel
theorem dL_crosses_87 : decode cL_crosses 87 = .ok (.iload 4, 2) := by decide +kernel
theorem dL_crosses_89 : decode cL_crosses 89 = .ok (.iaload, 1) := by decide +kernel
theorem dL_crosses_90 : decode cL_crosses 90 = .ok (.aload_n 1, 1) := by decide +kernel
theorem dL_crosses_91 : decode cL_crosses 91 = .ok (.iload_n 3, 1) := by decide +kernel
theorem dL_crosses_92 : decode cL_crosses 92 = .ok (.iaload, 1) := by decide +kernel
theorem dL_crosses_93 : decode cL_crosses 93 = .ok (.invokestatic 99, 3) := by decide +kernel
theorem dL_crosses_96 : decode cL_crosses 96 = .ok (.iload 6, 2) := by decide +kernel
theorem dL_crosses_98 : decode cL_crosses 98 = .ok (.if_icmp .ne 64, 3) := by decide +kernel
theorem dL_crosses_101 : decode cL_crosses 101 = .ok (.aload_n 1, 1) := by decide +kernel
theorem dL_crosses_102 : decode cL_crosses 102 = .ok (.iload_n 3, 1) := by decide +kernel
theorem dL_crosses_103 : decode cL_crosses 103 = .ok (.iaload, 1) := by decide +kernel
theorem dL_crosses_104 : decode cL_crosses 104 = .ok (.iconst 1, 1) := by decide +kernel
theorem dL_crosses_105 : decode cL_crosses 105 = .ok (.invokestatic 27, 3) := by decide +kernel
theorem dL_crosses_108 : decode cL_crosses 108 = .ok (.aload_n 1, 1) := by decide +kernel
theorem dL_crosses_109 : decode cL_crosses 109 = .ok (.iload 4, 2) := by decide +kernel
theorem dL_crosses_111 : decode cL_crosses 111 = .ok (.iaload, 1) := by decide +kernel
theorem dL_crosses_112 : decode cL_crosses 112 = .ok (.invokestatic 99, 3) := by decide +kernel
theorem dL_crosses_115 : decode cL_crosses 115 = .ok (.iload 6, 2) := by decide +kernel
theorem dL_crosses_117 : decode cL_crosses 117 = .ok (.if_icmp .ne 45, 3) := by decide +kernel
theorem dL_crosses_120 : decode cL_crosses 120 = .ok (.aload_n 1, 1) := by decide +kernel
theorem dL_crosses_121 : decode cL_crosses 121 = .ok (.iload_n 3, 1) := by decide +kernel
theorem dL_crosses_122 : decode cL_crosses 122 = .ok (.iaload, 1) := by decide +kernel
theorem dL_crosses_123 : decode cL_crosses 123 = .ok (.invokestatic 65, 3) := by decide +kernel
theorem dL_crosses_126 : decode cL_crosses 126 = .ok (.aload_n 1, 1) := by decide +kernel
theorem dL_crosses_127 : decode cL_crosses 127 = .ok (.iload 4, 2) := by decide +kernel
theorem dL_crosses_129 : decode cL_crosses 129 = .ok (.iaload, 1) := by decide +kernel
theorem dL_crosses_130 : decode cL_crosses 130 = .ok (.invokestatic 65, 3) := by decide +kernel
theorem dL_crosses_133 : decode cL_crosses 133 = .ok (.invokestatic 99, 3) := by decide +kernel
theorem dL_crosses_136 : decode cL_crosses 136 = .ok (.iload 6, 2) := by decide +kernel
theorem dL_crosses_138 : decode cL_crosses 138 = .ok (.if_icmp .ne 24, 3) := by decide +kernel
theorem dL_crosses_141 : decode cL_crosses 141 = .ok (.aload_n 1, 1) := by decide +kernel
theorem dL_crosses_142 : decode cL_crosses 142 = .ok (.iload_n 3, 1) := by decide +kernel
theorem dL_crosses_143 : decode cL_crosses 143 = .ok (.iaload, 1) := by decide +kernel
theorem dL_crosses_144 : decode cL_crosses 144 = .ok (.invokestatic 58, 3) := by decide +kernel
theorem dL_crosses_147 : decode cL_crosses 147 = .ok (.aload_n 1, 1) := by decide +kernel
theorem dL_crosses_148 : decode cL_crosses 148 = .ok (.iload 4, 2) := by decide +kernel
theorem dL_crosses_150 : decode cL_crosses 150 = .ok (.iaload, 1) := by decide +kernel
theorem dL_crosses_151 : decode cL_crosses 151 = .ok (.invokestatic 58, 3) := by decide +kernel
theorem dL_crosses_154 : decode cL_crosses 154 = .ok (.invokestatic 99, 3) := by decide +kernel
theorem dL_crosses_157 : decode cL_crosses 157 = .ok (.iload 6, 2) := by decide +kernel
theorem dL_crosses_159 : decode cL_crosses 159 = .ok (.if_icmp .eq 5, 3) := by decide +kernel
theorem dL_crosses_162 : decode cL_crosses 162 = .ok (.iconst 0, 1) := by decide +kernel
theorem dL_crosses_163 : decode cL_crosses 163 = .ok (.ireturn, 1) := by decide +kernel
theorem dL_crosses_164 : decode cL_crosses 164 = .ok (.aload_n 1, 1) := by decide +kernel
theorem dL_crosses_165 : decode cL_crosses 165 = .ok (.iload_n 3, 1) := by decide +kernel
theorem dL_crosses_166 : decode cL_crosses 166 = .ok (.iaload, 1) := by decide +kernel
theorem dL_crosses_167 : decode cL_crosses 167 = .ok (.invokestatic 8, 3) := by decide +kernel
theorem dL_crosses_170 : decode cL_crosses 170 = .ok (.bipush 11, 2) := by decide +kernel
theorem dL_crosses_172 : decode cL_crosses 172 = .ok (.if_icmp .ge 28, 3) := by decide +kernel
theorem dL_crosses_175 : decode cL_crosses 175 = .ok (.aload_n 1, 1) := by decide +kernel
theorem dL_crosses_176 : decode cL_crosses 176 = .ok (.iload_n 3, 1) := by decide +kernel
theorem dL_crosses_177 : decode cL_crosses 177 = .ok (.iaload, 1) := by decide +kernel
theorem dL_crosses_178 : decode cL_crosses 178 = .ok (.aload_n 1, 1) := by decide +kernel
theorem dL_crosses_179 : decode cL_crosses 179 = .ok (.iload_n 3, 1) := by decide +kernel
theorem dL_crosses_180 : decode cL_crosses 180 = .ok (.iaload, 1) := by decide +kernel
theorem dL_crosses_181 : decode cL_crosses 181 = .ok (.invokestatic 102, 3) := by decide +kernel
theorem dL_crosses_184 : decode cL_crosses 184 = .ok (.aload_n 1, 1) := by decide +kernel
theorem dL_crosses_185 : decode cL_crosses 185 = .ok (.iload 4, 2) := by decide +kernel
theorem dL_crosses_187 : decode cL_crosses 187 = .ok (.iaload, 1) := by decide +kernel
theorem dL_crosses_188 : decode cL_crosses 188 = .ok (.invokestatic 99, 3) := by decide +kernel
theorem dL_crosses_191 : decode cL_crosses 191 = .ok (.iconst 2, 1) := by decide +kernel
theorem dL_crosses_192 : decode cL_crosses 192 = .ok (.iload 6, 2) := by decide +kernel
theorem dL_crosses_194 : decode cL_crosses 194 = .ok (.imul, 1) := by decide +kernel
theorem dL_crosses_195 : decode cL_crosses 195 = .ok (.if_icmp .eq 5, 3) := by decide +kernel
theorem dL_crosses_198 : decode cL_crosses 198 = .ok (.iconst 0, 1) := by decide +kernel
theorem dL_crosses_199 : decode cL_crosses 199 = .ok (.ireturn, 1) := by decide +kernel
theorem dL_crosses_200 : decode cL_crosses 200 = .ok (.aload_n 1, 1) := by decide +kernel
theorem dL_crosses_201 : decode cL_crosses 201 = .ok (.iload_n 3, 1) := by decide +kernel
theorem dL_crosses_202 : decode cL_crosses 202 = .ok (.iaload, 1) := by decide +kernel
theorem dL_crosses_203 : decode cL_crosses 203 = .ok (.aload_n 1, 1) := by decide +kernel
theorem dL_crosses_204 : decode cL_crosses 204 = .ok (.iload 4, 2) := by decide +kernel
theorem dL_crosses_206 : decode cL_crosses 206 = .ok (.iaload, 1) := by decide +kernel
theorem dL_crosses_207 : decode cL_crosses 207 = .ok (.invokestatic 61, 3) := by decide +kernel
theorem dL_crosses_210 : decode cL_crosses 210 = .ok (.ifCond .eq 12, 3) := by decide +kernel
theorem dL_crosses_213 : decode cL_crosses 213 = .ok (.iload 6, 2) := by decide +kernel
theorem dL_crosses_215 : decode cL_crosses 215 = .ok (.iconst 2, 1) := by decide +kernel
theorem dL_crosses_216 : decode cL_crosses 216 = .ok (.irem, 1) := by decide +kernel
theorem dL_crosses_217 : decode cL_crosses 217 = .ok (.ifCond .eq 5, 3) := by decide +kernel
theorem dL_crosses_220 : decode cL_crosses 220 = .ok (.iconst 0, 1) := by decide +kernel
theorem dL_crosses_221 : decode cL_crosses 221 = .ok (.ireturn, 1) := by decide +kernel
theorem dL_crosses_222 : decode cL_crosses 222 = .ok (.iinc 4 1, 3) := by decide +kernel
theorem dL_crosses_225 : decode cL_crosses 225 = .ok (.goto (-215), 3) := by decide +kernel
theorem dL_crosses_228 : decode cL_crosses 228 = .ok (.iinc 3 1, 3) := by decide +kernel
theorem dL_crosses_231 : decode cL_crosses 231 = .ok (.goto (-229), 3) := by decide +kernel
theorem dL_crosses_234 : decode cL_crosses 234 = .ok (.iconst 1, 1) := by decide +kernel
theorem dL_crosses_235 : decode cL_crosses 235 = .ok (.ireturn, 1) := by decide +kernel
theorem dL_comes_0 : decode cL_comes 0 = .ok (.iload_n 3, 1) := by decide +kernel
theorem dL_comes_1 : decode cL_comes 1 = .ok (.bipush 20, 2) := by decide +kernel
theorem dL_comes_3 : decode cL_comes 3 = .ok (.if_icmp .le 6, 3) := by decide +kernel
theorem dL_comes_6 : decode cL_comes 6 = .ok (.ldc 83, 2) := by decide +kernel
theorem dL_comes_8 : decode cL_comes 8 = .ok (.ireturn, 1) := by decide +kernel
theorem dL_comes_9 : decode cL_comes 9 = .ok (.iload_n 1, 1) := by decide +kernel
theorem dL_comes_10 : decode cL_comes 10 = .ok (.bipush 6, 2) := by decide +kernel
theorem dL_comes_12 : decode cL_comes 12 = .ok (.if_icmp .ne 6, 3) := by decide +kernel
theorem dL_comes_15 : decode cL_comes 15 = .ok (.ldc 105, 2) := by decide +kernel
theorem dL_comes_17 : decode cL_comes 17 = .ok (.ireturn, 1) := by decide +kernel
theorem dL_comes_18 : decode cL_comes 18 = .ok (.aload_n 0, 1) := by decide +kernel
theorem dL_comes_19 : decode cL_comes 19 = .ok (.iload_n 1, 1) := by decide +kernel
theorem dL_comes_20 : decode cL_comes 20 = .ok (.iload_n 2, 1) := by decide +kernel
theorem dL_comes_21 : decode cL_comes 21 = .ok (.iastore, 1) := by decide +kernel
theorem dL_comes_22 : decode cL_comes 22 = .ok (.iload_n 1, 1) := by decide +kernel
theorem dL_comes_23 : decode cL_comes 23 = .ok (.ireturn, 1) := by decide +kernel
set_option maxRecDepth 20000 in
theorem ggL_cutTo_L_size : GoodIn wsL_cutTo wsL_size := goodIn_rq _ [4] (by decide +kernel) (by decide +kernel)
set_option maxRecDepth 20000 in
theorem gL_cutTo_L_size : GoodIn wsL_cutTo (va_wsS RL 8 yL_size wsL_size) := goodIn_app (goodIn_of _ (by decide +kernel)) ggL_cutTo_L_size
set_option maxRecDepth 20000 in
theorem ggL_cutTo_L_with : GoodIn wsL_cutTo wsL_with := goodIn_rq _ [7, 1, 2, 3, 4] (by decide +kernel) (by decide +kernel)
set_option maxRecDepth 20000 in
theorem gL_cutTo_L_with : GoodIn wsL_cutTo (va_wsS RL 21 yL_with wsL_with) := goodIn_app (goodIn_of _ (by decide +kernel)) ggL_cutTo_L_with
theorem dL_cutTo_0 : decode cL_cutTo 0 = .ok (.iload_n 0, 1) := by decide +kernel
theorem dL_cutTo_1 : decode cL_cutTo 1 = .ok (.istore_n 2, 1) := by decide +kernel
theorem dL_cutTo_2 : decode cL_cutTo 2 = .ok (.iload_n 1, 1) := by decide +kernel
theorem dL_cutTo_3 : decode cL_cutTo 3 = .ok (.istore_n 3, 1) := by decide +kernel
theorem dL_cutTo_4 : decode cL_cutTo 4 = .ok (.iconst 0, 1) := by decide +kernel
theorem dL_cutTo_5 : decode cL_cutTo 5 = .ok (.istore 4, 2) := by decide +kernel
theorem dL_cutTo_7 : decode cL_cutTo 7 = .ok (.iload_n 2, 1) := by decide +kernel
theorem dL_cutTo_8 : decode cL_cutTo 8 = .ok (.iload_n 3, 1) := by decide +kernel
theorem dL_cutTo_9 : decode cL_cutTo 9 = .ok (.if_icmp .eq 66, 3) := by decide +kernel
theorem dL_cutTo_12 : decode cL_cutTo 12 = .ok (.iload 4, 2) := by decide +kernel
theorem dL_cutTo_14 : decode cL_cutTo 14 = .ok (.invokestatic 8, 3) := by decide +kernel
theorem dL_cutTo_17 : decode cL_cutTo 17 = .ok (.bipush 25, 2) := by decide +kernel
theorem dL_cutTo_19 : decode cL_cutTo 19 = .ok (.if_icmp .ge 56, 3) := by decide +kernel
theorem dL_cutTo_22 : decode cL_cutTo 22 = .ok (.iload 4, 2) := by decide +kernel
theorem dL_cutTo_24 : decode cL_cutTo 24 = .ok (.invokestatic 8, 3) := by decide +kernel
theorem dL_cutTo_27 : decode cL_cutTo 27 = .ok (.bipush 20, 2) := by decide +kernel
theorem dL_cutTo_29 : decode cL_cutTo 29 = .ok (.if_icmp .le 10, 3) := by decide +kernel
theorem dL_cutTo_32 : decode cL_cutTo 32 = .ok (.iload 4, 2) := by decide +kernel
theorem dL_cutTo_34 : decode cL_cutTo 34 = .ok (.iconst 1, 1) := by decide +kernel
theorem dL_cutTo_35 : decode cL_cutTo 35 = .ok (.iadd, 1) := by decide +kernel
theorem dL_cutTo_36 : decode cL_cutTo 36 = .ok (.goto 18, 3) := by decide +kernel
theorem dL_cutTo_39 : decode cL_cutTo 39 = .ok (.iload 4, 2) := by decide +kernel
theorem dL_cutTo_41 : decode cL_cutTo 41 = .ok (.iload_n 2, 1) := by decide +kernel
theorem dL_cutTo_42 : decode cL_cutTo 42 = .ok (.iload_n 3, 1) := by decide +kernel
theorem dL_cutTo_43 : decode cL_cutTo 43 = .ok (.if_icmp .le 7, 3) := by decide +kernel
theorem dL_cutTo_46 : decode cL_cutTo 46 = .ok (.iconst 1, 1) := by decide +kernel
theorem dL_cutTo_47 : decode cL_cutTo 47 = .ok (.goto 4, 3) := by decide +kernel
theorem dL_cutTo_50 : decode cL_cutTo 50 = .ok (.iconst 0, 1) := by decide +kernel
theorem dL_cutTo_51 : decode cL_cutTo 51 = .ok (.invokestatic 21, 3) := by decide +kernel
theorem dL_cutTo_54 : decode cL_cutTo 54 = .ok (.istore 4, 2) := by decide +kernel
theorem dL_cutTo_56 : decode cL_cutTo 56 = .ok (.iload_n 2, 1) := by decide +kernel
theorem dL_cutTo_57 : decode cL_cutTo 57 = .ok (.iload_n 3, 1) := by decide +kernel
theorem dL_cutTo_58 : decode cL_cutTo 58 = .ok (.if_icmp .le 10, 3) := by decide +kernel
theorem dL_cutTo_61 : decode cL_cutTo 61 = .ok (.iload_n 2, 1) := by decide +kernel
theorem dL_cutTo_62 : decode cL_cutTo 62 = .ok (.iload_n 3, 1) := by decide +kernel
theorem dL_cutTo_63 : decode cL_cutTo 63 = .ok (.isub, 1) := by decide +kernel
theorem dL_cutTo_64 : decode cL_cutTo 64 = .ok (.istore_n 2, 1) := by decide +kernel
theorem dL_cutTo_65 : decode cL_cutTo 65 = .ok (.goto (-58), 3) := by decide +kernel
theorem dL_cutTo_68 : decode cL_cutTo 68 = .ok (.iload_n 3, 1) := by decide +kernel
theorem dL_cutTo_69 : decode cL_cutTo 69 = .ok (.iload_n 2, 1) := by decide +kernel
theorem dL_cutTo_70 : decode cL_cutTo 70 = .ok (.isub, 1) := by decide +kernel
theorem dL_cutTo_71 : decode cL_cutTo 71 = .ok (.istore_n 3, 1) := by decide +kernel
theorem dL_cutTo_72 : decode cL_cutTo 72 = .ok (.goto (-65), 3) := by decide +kernel
theorem dL_cutTo_75 : decode cL_cutTo 75 = .ok (.iload 4, 2) := by decide +kernel
theorem dL_cutTo_77 : decode cL_cutTo 77 = .ok (.ireturn, 1) := by decide +kernel
set_option maxRecDepth 20000 in
theorem ggL_does_L_at : GoodIn wsL_does wsL_at := goodIn_rq _ [7] (by decide +kernel) (by decide +kernel)
set_option maxRecDepth 20000 in
theorem gL_does_L_at : GoodIn wsL_does (va_wsS RL 36 yL_at wsL_at) := goodIn_app (goodIn_of _ (by decide +kernel)) ggL_does_L_at
set_option maxRecDepth 20000 in
theorem ggL_does_L_wordBy : GoodIn wsL_does wsL_wordBy := goodIn_rq _ [10, 4, 5, 6, 7, 11, 12, 13, 14, 15, 16, 17, 18, 19] (by decide +kernel) (by decide +kernel)
set_option maxRecDepth 20000 in
theorem gL_does_L_wordBy : GoodIn wsL_does (va_wsS RL 106 yL_wordBy wsL_wordBy) := goodIn_app (goodIn_of _ (by decide +kernel)) ggL_does_L_wordBy
set_option maxRecDepth 20000 in
theorem ggL_does_L_write : GoodIn wsL_does wsL_write := goodIn_rq _ [22, 17, 18, 6, 19, 11, 12, 13, 4, 5, 7] (by decide +kernel) (by decide +kernel)
set_option maxRecDepth 20000 in
theorem gL_does_L_write : GoodIn wsL_does (va_wsS RL 109 yL_write wsL_write) := goodIn_app (goodIn_of _ (by decide +kernel)) ggL_does_L_write
set_option maxRecDepth 20000 in
theorem ggL_does_L_spell : GoodIn wsL_does wsL_spell := goodIn_rq _ [25, 26, 27, 28, 29, 30, 31, 32, 33, 34, 35, 36, 37, 38, 39, 40, 41, 42, 43, 44, 45, 46, 47, 48, 49, 263, 264, 265, 266, 267, 268, 269, 270, 271, 272, 273, 274] (by decide +kernel) (by decide +kernel)
set_option maxRecDepth 20000 in
theorem gL_does_L_spell : GoodIn wsL_does (va_wsS RL 113 yL_spell wsL_spell) := goodIn_app (goodIn_of _ (by decide +kernel)) ggL_does_L_spell
set_option maxRecDepth 20000 in
theorem ggL_does_X4_fault : GoodIn wsL_does wsX4_fault := goodIn_rq _ [53, 32, 54, 263, 264, 265, 266, 267, 268, 269, 270, 271, 272, 273, 274] (by decide +kernel) (by decide +kernel)
set_option maxRecDepth 20000 in
theorem gL_does_X4_fault : GoodIn wsL_does (wsV RL 117 RX4 yX4_fault wsX4_fault) := goodIn_app (goodIn_of _ (by decide +kernel)) ggL_does_X4_fault
set_option maxRecDepth 20000 in
theorem ggL_does_X4_word : GoodIn wsL_does wsX4_word := goodIn_rq _ [58, 32, 59, 60, 61, 62, 63, 64, 65, 38, 66, 40, 42, 67, 68, 69, 29, 70, 71, 72, 34, 73, 74, 75, 76, 77, 78, 79, 80, 81, 82, 83, 84, 85, 86, 87, 88, 89, 90, 91, 92, 93, 94, 95, 96, 97, 98, 99, 100, 49, 48, 47, 263, 264, 265, 266, 267, 268, 269, 270, 271, 272, 273, 274, 275, 276, 277, 278, 279, 280, 281] (by decide +kernel) (by decide +kernel)
set_option maxRecDepth 20000 in
theorem gL_does_X4_word : GoodIn wsL_does (wsV RL 121 RX4 yX4_word wsX4_word) := goodIn_app (goodIn_of _ (by decide +kernel)) ggL_does_X4_word
set_option maxRecDepth 20000 in
theorem ggL_does_X4_count : GoodIn wsL_does wsX4_count := goodIn_rq _ [104, 71, 32, 33, 62, 105, 106, 107, 31, 108, 109, 110, 29, 111, 112, 113, 114, 115, 116, 117, 118, 119, 72, 120, 121, 122, 75, 123, 86, 88, 124, 125, 126, 127, 128, 129, 130, 131, 132, 133, 134, 135, 136, 137, 138, 139, 140, 141, 142, 143, 87, 144, 145, 146, 147, 148, 263, 264, 265, 266, 267, 268, 269, 270, 271, 272, 273, 274, 282, 283, 284, 285, 286, 275, 276, 277, 278, 279, 280, 281] (by decide +kernel) (by decide +kernel)
set_option maxRecDepth 20000 in
theorem gL_does_X4_count : GoodIn wsL_does (wsV RL 93 RX4 yX4_count wsX4_count) := goodIn_app (goodIn_of _ (by decide +kernel)) ggL_does_X4_count
set_option maxRecDepth 20000 in
theorem ggL_does_X4_blank : GoodIn wsL_does wsX4_blank := goodIn_rq _ [152, 32, 33, 97, 98, 99, 38, 100, 40, 42, 49, 48, 47, 263, 264, 265, 266, 267, 268, 269, 270, 271, 272, 273, 274] (by decide +kernel) (by decide +kernel)
set_option maxRecDepth 20000 in
theorem gL_does_X4_blank : GoodIn wsL_does (wsV RL 124 RX4 yX4_blank wsX4_blank) := goodIn_app (goodIn_of _ (by decide +kernel)) ggL_does_X4_blank
set_option maxRecDepth 20000 in
theorem ggL_does_L_size : GoodIn wsL_does wsL_size := goodIn_rq _ [19] (by decide +kernel) (by decide +kernel)
set_option maxRecDepth 20000 in
theorem gL_does_L_size : GoodIn wsL_does (va_wsS RL 8 yL_size wsL_size) := goodIn_app (goodIn_of _ (by decide +kernel)) ggL_does_L_size
set_option maxRecDepth 20000 in
theorem ggL_does_X4_turn : GoodIn wsL_does wsX4_turn := goodIn_rq _ [156, 136, 137, 31, 116, 117, 118, 29, 119, 71, 72, 157, 146, 147, 75, 148, 86, 87, 88, 158, 83, 84, 85, 89, 90, 91, 92, 93, 94, 95, 96, 159, 160, 161, 162, 144, 163, 141, 142, 143, 145, 275, 276, 277, 278, 279, 280, 281, 263, 264, 265, 266, 267, 268] (by decide +kernel) (by decide +kernel)
set_option maxRecDepth 20000 in
theorem gL_does_X4_turn : GoodIn wsL_does (wsV RL 127 RX4 yX4_turn wsX4_turn) := goodIn_app (goodIn_of _ (by decide +kernel)) ggL_does_X4_turn
set_option maxRecDepth 20000 in
theorem ggL_does_L_turned : GoodIn wsL_does wsL_turned := goodIn_rq _ [166, 17, 18, 6, 19, 167, 168, 169, 11, 12, 13, 14, 15, 16] (by decide +kernel) (by decide +kernel)
set_option maxRecDepth 20000 in
theorem gL_does_L_turned : GoodIn wsL_does (va_wsS RL 27 yL_turned wsL_turned) := goodIn_app (goodIn_of _ (by decide +kernel)) ggL_does_L_turned
set_option maxRecDepth 20000 in
theorem ggL_does_L_period : GoodIn wsL_does wsL_period := goodIn_rq _ [172, 164, 165, 6, 166, 17, 18, 19, 167, 168, 169, 11, 12, 13, 14, 15, 16] (by decide +kernel) (by decide +kernel)
set_option maxRecDepth 20000 in
theorem gL_does_L_period : GoodIn wsL_does (va_wsS RL 51 yL_period wsL_period) := goodIn_app (goodIn_of _ (by decide +kernel)) ggL_does_L_period
set_option maxRecDepth 20000 in
theorem ggL_does_L_back : GoodIn wsL_does wsL_back := goodIn_rq _ [175, 17, 18, 6, 19, 11, 12, 13, 14, 15, 16] (by decide +kernel) (by decide +kernel)
set_option maxRecDepth 20000 in
theorem gL_does_L_back : GoodIn wsL_does (va_wsS RL 58 yL_back wsL_back) := goodIn_app (goodIn_of _ (by decide +kernel)) ggL_does_L_back
set_option maxRecDepth 20000 in
theorem ggL_does_L_mirror : GoodIn wsL_does wsL_mirror := goodIn_rq _ [178, 17, 18, 6, 19, 11, 12, 13, 14, 15, 16] (by decide +kernel) (by decide +kernel)
set_option maxRecDepth 20000 in
theorem gL_does_L_mirror : GoodIn wsL_does (va_wsS RL 65 yL_mirror wsL_mirror) := goodIn_app (goodIn_of _ (by decide +kernel)) ggL_does_L_mirror
set_option maxRecDepth 20000 in
theorem ggL_does_L_least : GoodIn wsL_does wsL_least := goodIn_rq _ [181, 17, 18, 6, 19, 164, 165, 166, 167, 168, 169, 11, 12, 13, 14, 15, 16, 182, 183, 184] (by decide +kernel) (by decide +kernel)
set_option maxRecDepth 20000 in
theorem gL_does_L_least : GoodIn wsL_does (va_wsS RL 33 yL_least wsL_least) := goodIn_app (goodIn_of _ (by decide +kernel)) ggL_does_L_least
set_option maxRecDepth 20000 in
theorem ggL_does_L_table : GoodIn wsL_does wsL_table := goodIn_rq _ [187, 17, 18, 6, 19, 11, 12, 13] (by decide +kernel) (by decide +kernel)
set_option maxRecDepth 20000 in
theorem gL_does_L_table : GoodIn wsL_does (va_wsS RL 44 yL_table wsL_table) := goodIn_app (goodIn_of _ (by decide +kernel)) ggL_does_L_table
set_option maxRecDepth 20000 in
theorem ggL_does_X4_change : GoodIn wsL_does wsX4_change := goodIn_rq _ [191, 136, 31, 137, 116, 117, 118, 29, 119, 71, 72, 192, 193, 194, 75, 195, 86, 196, 197, 198, 199, 87, 93, 94, 95, 96, 200, 201, 202, 203, 88, 204, 205, 206, 207, 145, 146, 147, 148, 158, 83, 84, 85, 89, 90, 91, 92, 208, 209, 210, 211, 275, 276, 277, 278, 279, 280, 281, 263, 264, 265, 266, 267, 268] (by decide +kernel) (by decide +kernel)
set_option maxRecDepth 20000 in
theorem gL_does_X4_change : GoodIn wsL_does (wsV RL 130 RX4 yX4_change wsX4_change) := goodIn_app (goodIn_of _ (by decide +kernel)) ggL_does_X4_change
set_option maxRecDepth 20000 in
theorem ggL_does_L_join : GoodIn wsL_does wsL_join := goodIn_rq _ [214, 17, 18, 6, 19, 11, 12, 13, 14, 15, 16] (by decide +kernel) (by decide +kernel)
set_option maxRecDepth 20000 in
theorem gL_does_L_join : GoodIn wsL_does (va_wsS RL 102 yL_join wsL_join) := goodIn_app (goodIn_of _ (by decide +kernel)) ggL_does_L_join
set_option maxRecDepth 20000 in
theorem ggL_does_L_comes : GoodIn wsL_does wsL_comes := goodIn_rq _ [217, 218, 1] (by decide +kernel) (by decide +kernel)
set_option maxRecDepth 20000 in
theorem gL_does_L_comes : GoodIn wsL_does (va_wsS RL 133 yL_comes wsL_comes) := goodIn_app (goodIn_of _ (by decide +kernel)) ggL_does_L_comes
set_option maxRecDepth 20000 in
theorem ggL_does_X4_join : GoodIn wsL_does wsX4_join := goodIn_rq _ [222, 136, 138, 137, 116, 117, 118, 29, 119, 71, 72, 67, 68, 69, 70, 59, 34, 73, 74, 75, 76, 77, 78, 79, 80, 81, 82, 83, 84, 85, 86, 87, 88, 89, 90, 91, 92, 93, 94, 95, 96, 275, 276, 277, 278, 279, 280, 281, 263, 264, 265, 266, 267, 268] (by decide +kernel) (by decide +kernel)
set_option maxRecDepth 20000 in
theorem gL_does_X4_join : GoodIn wsL_does (wsV RL 137 RX4 yX4_join wsX4_join) := goodIn_app (goodIn_of _ (by decide +kernel)) ggL_does_X4_join
set_option maxRecDepth 20000 in
theorem ggL_does_X4_times : GoodIn wsL_does wsX4_times := goodIn_rq _ [226, 136, 31, 137, 138, 116, 117, 118, 29, 119, 71, 72, 67, 68, 69, 70, 59, 34, 73, 74, 75, 76, 77, 78, 79, 80, 81, 82, 83, 84, 85, 86, 87, 88, 89, 90, 91, 92, 93, 94, 95, 96, 275, 276, 277, 278, 279, 280, 281, 263, 264, 265, 266, 267, 268] (by decide +kernel) (by decide +kernel)
set_option maxRecDepth 20000 in
theorem gL_does_X4_times : GoodIn wsL_does (wsV RL 138 RX4 yX4_times wsX4_times) := goodIn_app (goodIn_of _ (by decide +kernel)) ggL_does_X4_times
set_option maxRecDepth 20000 in
theorem ggL_does_X4_cut : GoodIn wsL_does wsX4_cut := goodIn_rq _ [230, 31, 231, 232, 29, 233, 234, 235, 236, 237, 238, 239, 240, 67, 68, 69, 70, 59, 71, 72, 34, 73, 74, 75, 76, 77, 78, 79, 80, 81, 82, 83, 84, 85, 86, 87, 88, 89, 90, 91, 92, 93, 94, 95, 96, 263, 264, 265, 266, 267, 268, 275, 276, 277, 278, 279, 280, 281] (by decide +kernel) (by decide +kernel)
set_option maxRecDepth 20000 in
theorem gL_does_X4_cut : GoodIn wsL_does (wsV RL 141 RX4 yX4_cut wsX4_cut) := goodIn_app (goodIn_of _ (by decide +kernel)) ggL_does_X4_cut
set_option maxRecDepth 20000 in
theorem ggL_does_L_gcd : GoodIn wsL_does wsL_gcd := goodIn_rq _ [243] (by decide +kernel) (by decide +kernel)
set_option maxRecDepth 20000 in
theorem gL_does_L_gcd : GoodIn wsL_does (va_wsS RL 77 yL_gcd wsL_gcd) := goodIn_app (goodIn_of _ (by decide +kernel)) ggL_does_L_gcd
set_option maxRecDepth 20000 in
theorem ggL_does_L_cutTo : GoodIn wsL_does wsL_cutTo := goodIn_rq _ [246, 17, 18, 6, 19, 14, 15, 16] (by decide +kernel) (by decide +kernel)
set_option maxRecDepth 20000 in
theorem gL_does_L_cutTo : GoodIn wsL_does (va_wsS RL 144 yL_cutTo wsL_cutTo) := goodIn_app (goodIn_of _ (by decide +kernel)) ggL_does_L_cutTo
set_option maxRecDepth 20000 in
theorem ggL_does_X4_end : GoodIn wsL_does wsX4_end := goodIn_rq _ [250, 136, 251, 252, 253, 254, 31, 116, 117, 118, 29, 119, 71, 72, 275, 276, 277, 278, 279, 280, 281, 263, 264, 265, 266, 267, 268] (by decide +kernel) (by decide +kernel)
set_option maxRecDepth 20000 in
theorem gL_does_X4_end : GoodIn wsL_does (wsV RL 74 RX4 yX4_end wsX4_end) := goodIn_app (goodIn_of _ (by decide +kernel)) ggL_does_X4_end
set_option maxRecDepth 20000 in
theorem ggL_does_X4_drop : GoodIn wsL_does wsX4_drop := goodIn_rq _ [258, 71, 59, 263, 264, 265, 266, 267, 268] (by decide +kernel) (by decide +kernel)
set_option maxRecDepth 20000 in
theorem gL_does_X4_drop : GoodIn wsL_does (wsV RL 147 RX4 yX4_drop wsX4_drop) := goodIn_app (goodIn_of _ (by decide +kernel)) ggL_does_X4_drop
set_option maxRecDepth 20000 in
theorem ggL_does_X4_alike : GoodIn wsL_does wsX4_alike := goodIn_rq _ [135, 136, 137, 138, 139, 116, 117, 118, 29, 119, 71, 72, 140, 141, 142, 75, 143, 87, 144, 145, 146, 147, 148, 86, 88, 275, 276, 277, 278, 279, 280, 281, 263, 264, 265, 266, 267, 268] (by decide +kernel) (by decide +kernel)
set_option maxRecDepth 20000 in
theorem gL_does_X4_alike : GoodIn wsL_does (wsV RL 91 RX4 yX4_alike wsX4_alike) := goodIn_app (goodIn_of _ (by decide +kernel)) ggL_does_X4_alike
set_option maxRecDepth 20000 in
theorem ggL_does_L_alike : GoodIn wsL_does wsL_alike := goodIn_rq _ [262, 17, 18, 6, 19, 179, 180, 181, 164, 165, 166, 167, 168, 169, 11, 12, 13, 14, 15, 16, 182, 183, 184] (by decide +kernel) (by decide +kernel)
set_option maxRecDepth 20000 in
theorem gL_does_L_alike : GoodIn wsL_does (va_wsS RL 61 yL_alike wsL_alike) := goodIn_app (goodIn_of _ (by decide +kernel)) ggL_does_L_alike
theorem dL_does_0 : decode cL_does 0 = .ok (.aload_n 2, 1) := by decide +kernel
theorem dL_does_1 : decode cL_does 1 = .ok (.iconst 0, 1) := by decide +kernel
theorem dL_does_2 : decode cL_does 2 = .ok (.iaload, 1) := by decide +kernel
theorem dL_does_3 : decode cL_does 3 = .ok (.istore 6, 2) := by decide +kernel
theorem dL_does_5 : decode cL_does 5 = .ok (.iload_n 3, 1) := by decide +kernel
theorem dL_does_6 : decode cL_does 6 = .ok (.bipush 10, 2) := by decide +kernel
theorem dL_does_8 : decode cL_does 8 = .ok (.invokestatic 36, 3) := by decide +kernel
theorem dL_does_11 : decode cL_does 11 = .ok (.istore 7, 2) := by decide +kernel
theorem dL_does_13 : decode cL_does 13 = .ok (.iload 6, 2) := by decide +kernel
theorem dL_does_15 : decode cL_does 15 = .ok (.ifCond .ne 7, 3) := by decide +kernel
theorem dL_does_18 : decode cL_does 18 = .ok (.iconst 0, 1) := by decide +kernel
theorem dL_does_19 : decode cL_does 19 = .ok (.goto 11, 3) := by decide +kernel
theorem dL_does_22 : decode cL_does 22 = .ok (.iload_n 3, 1) := by decide +kernel
theorem dL_does_23 : decode cL_does 23 = .ok (.iconst 4, 1) := by decide +kernel
theorem dL_does_24 : decode cL_does 24 = .ok (.ishr, 1) := by decide +kernel
theorem dL_does_25 : decode cL_does 25 = .ok (.iload 6, 2) := by decide +kernel
theorem dL_does_27 : decode cL_does 27 = .ok (.invokestatic 36, 3) := by decide +kernel
theorem dL_does_30 : decode cL_does 30 = .ok (.istore 8, 2) := by decide +kernel
theorem dL_does_32 : decode cL_does 32 = .ok (.iload 6, 2) := by decide +kernel
theorem dL_does_34 : decode cL_does 34 = .ok (.ifCond .ne 7, 3) := by decide +kernel
theorem dL_does_37 : decode cL_does 37 = .ok (.iconst 0, 1) := by decide +kernel
theorem dL_does_38 : decode cL_does 38 = .ok (.goto 12, 3) := by decide +kernel
theorem dL_does_41 : decode cL_does 41 = .ok (.iload_n 3, 1) := by decide +kernel
theorem dL_does_42 : decode cL_does 42 = .ok (.bipush 7, 2) := by decide +kernel
theorem dL_does_44 : decode cL_does 44 = .ok (.ishr, 1) := by decide +kernel
theorem dL_does_45 : decode cL_does 45 = .ok (.iload 6, 2) := by decide +kernel
theorem dL_does_47 : decode cL_does 47 = .ok (.invokestatic 36, 3) := by decide +kernel
theorem dL_does_50 : decode cL_does 50 = .ok (.istore 9, 2) := by decide +kernel
theorem dL_does_52 : decode cL_does 52 = .ok (.iload 7, 2) := by decide +kernel
theorem dL_does_54 : decode cL_does 54 = .ok (.iconst 2, 1) := by decide +kernel
theorem dL_does_55 : decode cL_does 55 = .ok (.if_icmp .lt 8, 3) := by decide +kernel
theorem dL_does_58 : decode cL_does 58 = .ok (.iload 6, 2) := by decide +kernel
theorem dL_does_60 : decode cL_does 60 = .ok (.ifCond .ne 142, 3) := by decide +kernel
theorem dL_does_63 : decode cL_does 63 = .ok (.iload 4, 2) := by decide +kernel
theorem dL_does_65 : decode cL_does 65 = .ok (.bipush 20, 2) := by decide +kernel
theorem dL_does_67 : decode cL_does 67 = .ok (.invokestatic 106, 3) := by decide +kernel
theorem dL_does_70 : decode cL_does 70 = .ok (.istore 10, 2) := by decide +kernel
theorem dL_does_72 : decode cL_does 72 = .ok (.iload 10, 2) := by decide +kernel
theorem dL_does_74 : decode cL_does 74 = .ok (.iload_n 3, 1) := by decide +kernel
theorem dL_does_75 : decode cL_does 75 = .ok (.bipush 9, 2) := by decide +kernel
theorem dL_does_77 : decode cL_does 77 = .ok (.ishr, 1) := by decide +kernel
theorem dL_does_78 : decode cL_does 78 = .ok (.aload 5, 2) := by decide +kernel
theorem dL_does_80 : decode cL_does 80 = .ok (.invokestatic 109, 3) := by decide +kernel
theorem dL_does_83 : decode cL_does 83 = .ok (.istore 11, 2) := by decide +kernel
theorem dL_does_85 : decode cL_does 85 = .ok (.aload_n 0, 1) := by decide +kernel
theorem dL_does_86 : decode cL_does 86 = .ok (.aload 5, 2) := by decide +kernel
theorem dL_does_88 : decode cL_does 88 = .ok (.iload 11, 2) := by decide +kernel
theorem dL_does_90 : decode cL_does 90 = .ok (.invokestatic 113, 3) := by decide +kernel
theorem dL_does_93 : decode cL_does 93 = .ok (.ifCond .eq 12, 3) := by decide +kernel
theorem dL_does_96 : decode cL_does 96 = .ok (.aload_n 0, 1) := by decide +kernel
theorem dL_does_97 : decode cL_does 97 = .ok (.invokevirtual 117, 3) := by decide +kernel
theorem dL_does_100 : decode cL_does 100 = .ok (.iload 11, 2) := by decide +kernel
theorem dL_does_102 : decode cL_does 102 = .ok (.if_icmp .eq 5, 3) := by decide +kernel
theorem dL_does_105 : decode cL_does 105 = .ok (.iconst 0, 1) := by decide +kernel
theorem dL_does_106 : decode cL_does 106 = .ok (.ireturn, 1) := by decide +kernel
theorem dL_does_107 : decode cL_does 107 = .ok (.iload 6, 2) := by decide +kernel
theorem dL_does_109 : decode cL_does 109 = .ok (.bipush 6, 2) := by decide +kernel
theorem dL_does_111 : decode cL_does 111 = .ok (.if_icmp .ne 37, 3) := by decide +kernel
theorem dL_does_114 : decode cL_does 114 = .ok (.aload_n 0, 1) := by decide +kernel
theorem dL_does_115 : decode cL_does 115 = .ok (.invokevirtual 121, 3) := by decide +kernel
theorem dL_does_118 : decode cL_does 118 = .ok (.ldc 105, 2) := by decide +kernel
theorem dL_does_120 : decode cL_does 120 = .ok (.if_icmp .ne 26, 3) := by decide +kernel
theorem dL_does_123 : decode cL_does 123 = .ok (.aload_n 0, 1) := by decide +kernel
theorem dL_does_124 : decode cL_does 124 = .ok (.iconst 3, 1) := by decide +kernel
theorem dL_does_125 : decode cL_does 125 = .ok (.invokevirtual 93, 3) := by decide +kernel
theorem dL_does_128 : decode cL_does 128 = .ok (.iload 11, 2) := by decide +kernel
theorem dL_does_130 : decode cL_does 130 = .ok (.if_icmp .ne 16, 3) := by decide +kernel
theorem dL_does_133 : decode cL_does 133 = .ok (.aload_n 0, 1) := by decide +kernel
theorem dL_does_134 : decode cL_does 134 = .ok (.invokevirtual 124, 3) := by decide +kernel
theorem dL_does_137 : decode cL_does 137 = .ok (.iload 11, 2) := by decide +kernel
theorem dL_does_139 : decode cL_does 139 = .ok (.if_icmp .ne 7, 3) := by decide +kernel
theorem dL_does_142 : decode cL_does 142 = .ok (.iconst 1, 1) := by decide +kernel
theorem dL_does_143 : decode cL_does 143 = .ok (.goto 4, 3) := by decide +kernel
theorem dL_does_146 : decode cL_does 146 = .ok (.iconst 0, 1) := by decide +kernel
theorem dL_does_147 : decode cL_does 147 = .ok (.ireturn, 1) := by decide +kernel
theorem dL_does_148 : decode cL_does 148 = .ok (.aload_n 1, 1) := by decide +kernel
theorem dL_does_149 : decode cL_does 149 = .ok (.iload 6, 2) := by decide +kernel
theorem dL_does_151 : decode cL_does 151 = .ok (.iload 10, 2) := by decide +kernel
theorem dL_does_153 : decode cL_does 153 = .ok (.iastore, 1) := by decide +kernel
theorem dL_does_154 : decode cL_does 154 = .ok (.aload_n 2, 1) := by decide +kernel
theorem dL_does_155 : decode cL_does 155 = .ok (.iconst 0, 1) := by decide +kernel
theorem dL_does_156 : decode cL_does 156 = .ok (.dup2, 1) := by decide +kernel
theorem dL_does_157 : decode cL_does 157 = .ok (.iaload, 1) := by decide +kernel
theorem dL_does_158 : decode cL_does 158 = .ok (.iconst 1, 1) := by decide +kernel
theorem dL_does_159 : decode cL_does 159 = .ok (.iadd, 1) := by decide +kernel
theorem dL_does_160 : decode cL_does 160 = .ok (.iastore, 1) := by decide +kernel
theorem dL_does_161 : decode cL_does 161 = .ok (.aload_n 2, 1) := by decide +kernel
theorem dL_does_162 : decode cL_does 162 = .ok (.iconst 1, 1) := by decide +kernel
theorem dL_does_163 : decode cL_does 163 = .ok (.dup2, 1) := by decide +kernel
theorem dL_does_164 : decode cL_does 164 = .ok (.iaload, 1) := by decide +kernel
theorem dL_does_165 : decode cL_does 165 = .ok (.iconst 1, 1) := by decide +kernel
theorem dL_does_166 : decode cL_does 166 = .ok (.iadd, 1) := by decide +kernel
theorem dL_does_167 : decode cL_does 167 = .ok (.iastore, 1) := by decide +kernel
theorem dL_does_168 : decode cL_does 168 = .ok (.aload_n 0, 1) := by decide +kernel
theorem dL_does_169 : decode cL_does 169 = .ok (.invokevirtual 121, 3) := by decide +kernel
theorem dL_does_172 : decode cL_does 172 = .ok (.iload 6, 2) := by decide +kernel
theorem dL_does_174 : decode cL_does 174 = .ok (.if_icmp .ne 26, 3) := by decide +kernel
theorem dL_does_177 : decode cL_does 177 = .ok (.aload_n 0, 1) := by decide +kernel
theorem dL_does_178 : decode cL_does 178 = .ok (.iconst 3, 1) := by decide +kernel
theorem dL_does_179 : decode cL_does 179 = .ok (.invokevirtual 93, 3) := by decide +kernel
theorem dL_does_182 : decode cL_does 182 = .ok (.ifCond .ne 18, 3) := by decide +kernel
theorem dL_does_185 : decode cL_does 185 = .ok (.aload_n 0, 1) := by decide +kernel
theorem dL_does_186 : decode cL_does 186 = .ok (.iconst 4, 1) := by decide +kernel
theorem dL_does_187 : decode cL_does 187 = .ok (.invokevirtual 93, 3) := by decide +kernel
theorem dL_does_190 : decode cL_does 190 = .ok (.aload_n 2, 1) := by decide +kernel
theorem dL_does_191 : decode cL_does 191 = .ok (.iconst 1, 1) := by decide +kernel
theorem dL_does_192 : decode cL_does 192 = .ok (.iaload, 1) := by decide +kernel
theorem dL_does_193 : decode cL_does 193 = .ok (.if_icmp .ne 7, 3) := by decide +kernel
theorem dL_does_196 : decode cL_does 196 = .ok (.iconst 1, 1) := by decide +kernel
theorem dL_does_197 : decode cL_does 197 = .ok (.goto 4, 3) := by decide +kernel
theorem dL_does_200 : decode cL_does 200 = .ok (.iconst 0, 1) := by decide +kernel
theorem dL_does_201 : decode cL_does 201 = .ok (.ireturn, 1) := by decide +kernel
theorem dL_does_202 : decode cL_does 202 = .ok (.iload 7, 2) := by decide +kernel
theorem dL_does_204 : decode cL_does 204 = .ok (.iconst 2, 1) := by decide +kernel
theorem dL_does_205 : decode cL_does 205 = .ok (.if_icmp .ne 98, 3) := by decide +kernel
theorem dL_does_208 : decode cL_does 208 = .ok (.iload 4, 2) := by decide +kernel
theorem dL_does_210 : decode cL_does 210 = .ok (.aload_n 1, 1) := by decide +kernel
theorem dL_does_211 : decode cL_does 211 = .ok (.iload 8, 2) := by decide +kernel
theorem dL_does_213 : decode cL_does 213 = .ok (.iaload, 1) := by decide +kernel
theorem dL_does_214 : decode cL_does 214 = .ok (.invokestatic 8, 3) := by decide +kernel
theorem dL_does_217 : decode cL_does 217 = .ok (.invokestatic 36, 3) := by decide +kernel
theorem dL_does_220 : decode cL_does 220 = .ok (.istore 10, 2) := by decide +kernel
theorem dL_does_222 : decode cL_does 222 = .ok (.aload_n 0, 1) := by decide +kernel
theorem dL_does_223 : decode cL_does 223 = .ok (.iload 8, 2) := by decide +kernel
theorem dL_does_225 : decode cL_does 225 = .ok (.aload_n 1, 1) := by decide +kernel
theorem dL_does_226 : decode cL_does 226 = .ok (.iload 8, 2) := by decide +kernel
theorem dL_does_228 : decode cL_does 228 = .ok (.iaload, 1) := by decide +kernel
theorem dL_does_229 : decode cL_does 229 = .ok (.invokestatic 8, 3) := by decide +kernel
theorem dL_does_232 : decode cL_does 232 = .ok (.invokevirtual 127, 3) := by decide +kernel
theorem dL_does_235 : decode cL_does 235 = .ok (.ldc 68, 2) := by decide +kernel
theorem dL_does_237 : decode cL_does 237 = .ok (.if_icmp .ne 27, 3) := by decide +kernel
theorem dL_does_240 : decode cL_does 240 = .ok (.aload_n 0, 1) := by decide +kernel
theorem dL_does_241 : decode cL_does 241 = .ok (.iload 8, 2) := by decide +kernel
theorem dL_does_243 : decode cL_does 243 = .ok (.iconst (-1), 1) := by decide +kernel
theorem dL_does_244 : decode cL_does 244 = .ok (.invokevirtual 127, 3) := by decide +kernel
theorem dL_does_247 : decode cL_does 247 = .ok (.ldc 68, 2) := by decide +kernel
theorem dL_does_249 : decode cL_does 249 = .ok (.if_icmp .ne 15, 3) := by decide +kernel
theorem dL_does_252 : decode cL_does 252 = .ok (.aload_n 0, 1) := by decide +kernel
theorem dL_does_253 : decode cL_does 253 = .ok (.iload 6, 2) := by decide +kernel
theorem dL_does_255 : decode cL_does 255 = .ok (.iconst 0, 1) := by decide +kernel
theorem dL_does_256 : decode cL_does 256 = .ok (.invokevirtual 127, 3) := by decide +kernel
theorem dL_does_259 : decode cL_does 259 = .ok (.ldc 84, 2) := by decide +kernel
theorem dL_does_261 : decode cL_does 261 = .ok (.if_icmp .eq 5, 3) := by decide +kernel
theorem dL_does_264 : decode cL_does 264 = .ok (.iconst 0, 1) := by decide +kernel
theorem dL_does_265 : decode cL_does 265 = .ok (.ireturn, 1) := by decide +kernel
theorem dL_does_266 : decode cL_does 266 = .ok (.aload_n 1, 1) := by decide +kernel
theorem dL_does_267 : decode cL_does 267 = .ok (.iload 8, 2) := by decide +kernel
theorem dL_does_269 : decode cL_does 269 = .ok (.aload_n 1, 1) := by decide +kernel
theorem dL_does_270 : decode cL_does 270 = .ok (.iload 8, 2) := by decide +kernel
theorem dL_does_272 : decode cL_does 272 = .ok (.iaload, 1) := by decide +kernel
theorem dL_does_273 : decode cL_does 273 = .ok (.iload 10, 2) := by decide +kernel
theorem dL_does_275 : decode cL_does 275 = .ok (.invokestatic 27, 3) := by decide +kernel
theorem dL_does_278 : decode cL_does 278 = .ok (.iastore, 1) := by decide +kernel
theorem dL_does_279 : decode cL_does 279 = .ok (.aload_n 0, 1) := by decide +kernel
theorem dL_does_280 : decode cL_does 280 = .ok (.iload 8, 2) := by decide +kernel
theorem dL_does_282 : decode cL_does 282 = .ok (.iload 10, 2) := by decide +kernel
theorem dL_does_284 : decode cL_does 284 = .ok (.invokevirtual 127, 3) := by decide +kernel
theorem dL_does_287 : decode cL_does 287 = .ok (.aload_n 1, 1) := by decide +kernel
theorem dL_does_288 : decode cL_does 288 = .ok (.iload 8, 2) := by decide +kernel
theorem dL_does_290 : decode cL_does 290 = .ok (.iaload, 1) := by decide +kernel
theorem dL_does_291 : decode cL_does 291 = .ok (.invokestatic 51, 3) := by decide +kernel
theorem dL_does_294 : decode cL_does 294 = .ok (.if_icmp .ne 7, 3) := by decide +kernel
theorem dL_does_297 : decode cL_does 297 = .ok (.iconst 1, 1) := by decide +kernel
theorem dL_does_298 : decode cL_does 298 = .ok (.goto 4, 3) := by decide +kernel
theorem dL_does_301 : decode cL_does 301 = .ok (.iconst 0, 1) := by decide +kernel
theorem dL_does_302 : decode cL_does 302 = .ok (.ireturn, 1) := by decide +kernel
theorem dL_does_303 : decode cL_does 303 = .ok (.iload 7, 2) := by decide +kernel
theorem dL_does_305 : decode cL_does 305 = .ok (.iconst 3, 1) := by decide +kernel
theorem dL_does_306 : decode cL_does 306 = .ok (.if_icmp .ne 112, 3) := by decide +kernel
theorem dL_does_309 : decode cL_does 309 = .ok (.iload 4, 2) := by decide +kernel
theorem dL_does_311 : decode cL_does 311 = .ok (.iconst 3, 1) := by decide +kernel
theorem dL_does_312 : decode cL_does 312 = .ok (.invokestatic 36, 3) := by decide +kernel
theorem dL_does_315 : decode cL_does 315 = .ok (.istore 10, 2) := by decide +kernel
theorem dL_does_317 : decode cL_does 317 = .ok (.aload_n 1, 1) := by decide +kernel
theorem dL_does_318 : decode cL_does 318 = .ok (.iload 8, 2) := by decide +kernel
theorem dL_does_320 : decode cL_does 320 = .ok (.iload 10, 2) := by decide +kernel
theorem dL_does_322 : decode cL_does 322 = .ok (.ifCond .ne 13, 3) := by decide +kernel
theorem dL_does_325 : decode cL_does 325 = .ok (.aload_n 1, 1) := by decide +kernel
theorem dL_does_326 : decode cL_does 326 = .ok (.iload 8, 2) := by decide +kernel
theorem dL_does_328 : decode cL_does 328 = .ok (.iaload, 1) := by decide +kernel
theorem dL_does_329 : decode cL_does 329 = .ok (.invokestatic 58, 3) := by decide +kernel
theorem dL_does_332 : decode cL_does 332 = .ok (.goto 26, 3) := by decide +kernel
theorem dL_does_335 : decode cL_does 335 = .ok (.iload 10, 2) := by decide +kernel
theorem dL_does_337 : decode cL_does 337 = .ok (.iconst 1, 1) := by decide +kernel
theorem dL_does_338 : decode cL_does 338 = .ok (.if_icmp .ne 13, 3) := by decide +kernel
theorem dL_does_341 : decode cL_does 341 = .ok (.aload_n 1, 1) := by decide +kernel
theorem dL_does_342 : decode cL_does 342 = .ok (.iload 8, 2) := by decide +kernel
theorem dL_does_344 : decode cL_does 344 = .ok (.iaload, 1) := by decide +kernel
theorem dL_does_345 : decode cL_does 345 = .ok (.invokestatic 65, 3) := by decide +kernel
theorem dL_does_348 : decode cL_does 348 = .ok (.goto 10, 3) := by decide +kernel
theorem dL_does_351 : decode cL_does 351 = .ok (.aload_n 1, 1) := by decide +kernel
theorem dL_does_352 : decode cL_does 352 = .ok (.iload 8, 2) := by decide +kernel
theorem dL_does_354 : decode cL_does 354 = .ok (.iaload, 1) := by decide +kernel
theorem dL_does_355 : decode cL_does 355 = .ok (.invokestatic 33, 3) := by decide +kernel
theorem dL_does_358 : decode cL_does 358 = .ok (.iastore, 1) := by decide +kernel
theorem dL_does_359 : decode cL_does 359 = .ok (.aload_n 1, 1) := by decide +kernel
theorem dL_does_360 : decode cL_does 360 = .ok (.iload 8, 2) := by decide +kernel
theorem dL_does_362 : decode cL_does 362 = .ok (.iaload, 1) := by decide +kernel
theorem dL_does_363 : decode cL_does 363 = .ok (.aload 5, 2) := by decide +kernel
theorem dL_does_365 : decode cL_does 365 = .ok (.invokestatic 44, 3) := by decide +kernel
theorem dL_does_368 : decode cL_does 368 = .ok (.aload_n 0, 1) := by decide +kernel
theorem dL_does_369 : decode cL_does 369 = .ok (.iload 8, 2) := by decide +kernel
theorem dL_does_371 : decode cL_does 371 = .ok (.iconst 3, 1) := by decide +kernel
theorem dL_does_372 : decode cL_does 372 = .ok (.invokevirtual 130, 3) := by decide +kernel
theorem dL_does_375 : decode cL_does 375 = .ok (.ldc 68, 2) := by decide +kernel
theorem dL_does_377 : decode cL_does 377 = .ok (.if_icmp .ne 39, 3) := by decide +kernel
theorem dL_does_380 : decode cL_does 380 = .ok (.aload_n 0, 1) := by decide +kernel
theorem dL_does_381 : decode cL_does 381 = .ok (.iload 6, 2) := by decide +kernel
theorem dL_does_383 : decode cL_does 383 = .ok (.iconst 0, 1) := by decide +kernel
theorem dL_does_384 : decode cL_does 384 = .ok (.invokevirtual 130, 3) := by decide +kernel
theorem dL_does_387 : decode cL_does 387 = .ok (.ldc 84, 2) := by decide +kernel
theorem dL_does_389 : decode cL_does 389 = .ok (.if_icmp .ne 27, 3) := by decide +kernel
theorem dL_does_392 : decode cL_does 392 = .ok (.aload_n 0, 1) := by decide +kernel
theorem dL_does_393 : decode cL_does 393 = .ok (.iload 8, 2) := by decide +kernel
theorem dL_does_395 : decode cL_does 395 = .ok (.iload 10, 2) := by decide +kernel
theorem dL_does_397 : decode cL_does 397 = .ok (.invokevirtual 130, 3) := by decide +kernel
theorem dL_does_400 : decode cL_does 400 = .ok (.aload 5, 2) := by decide +kernel
theorem dL_does_402 : decode cL_does 402 = .ok (.iconst 0, 1) := by decide +kernel
theorem dL_does_403 : decode cL_does 403 = .ok (.iaload, 1) := by decide +kernel
theorem dL_does_404 : decode cL_does 404 = .ok (.aload 5, 2) := by decide +kernel
theorem dL_does_406 : decode cL_does 406 = .ok (.iconst 3, 1) := by decide +kernel
theorem dL_does_407 : decode cL_does 407 = .ok (.iaload, 1) := by decide +kernel
theorem dL_does_408 : decode cL_does 408 = .ok (.iadd, 1) := by decide +kernel
theorem dL_does_409 : decode cL_does 409 = .ok (.if_icmp .ne 7, 3) := by decide +kernel
theorem dL_does_412 : decode cL_does 412 = .ok (.iconst 1, 1) := by decide +kernel
theorem dL_does_413 : decode cL_does 413 = .ok (.goto 4, 3) := by decide +kernel
theorem dL_does_416 : decode cL_does 416 = .ok (.iconst 0, 1) := by decide +kernel
theorem dL_does_417 : decode cL_does 417 = .ok (.ireturn, 1) := by decide +kernel
theorem dL_does_418 : decode cL_does 418 = .ok (.iload 7, 2) := by decide +kernel
theorem dL_does_420 : decode cL_does 420 = .ok (.iconst 4, 1) := by decide +kernel
theorem dL_does_421 : decode cL_does 421 = .ok (.if_icmp .ne 102, 3) := by decide +kernel
theorem dL_does_424 : decode cL_does 424 = .ok (.aload_n 1, 1) := by decide +kernel
theorem dL_does_425 : decode cL_does 425 = .ok (.iload 8, 2) := by decide +kernel
theorem dL_does_427 : decode cL_does 427 = .ok (.iaload, 1) := by decide +kernel
theorem dL_does_428 : decode cL_does 428 = .ok (.invokestatic 8, 3) := by decide +kernel
theorem dL_does_431 : decode cL_does 431 = .ok (.aload_n 1, 1) := by decide +kernel
theorem dL_does_432 : decode cL_does 432 = .ok (.iload 9, 2) := by decide +kernel
theorem dL_does_434 : decode cL_does 434 = .ok (.iaload, 1) := by decide +kernel
theorem dL_does_435 : decode cL_does 435 = .ok (.invokestatic 8, 3) := by decide +kernel
theorem dL_does_438 : decode cL_does 438 = .ok (.iadd, 1) := by decide +kernel
theorem dL_does_439 : decode cL_does 439 = .ok (.istore 10, 2) := by decide +kernel
theorem dL_does_441 : decode cL_does 441 = .ok (.aload_n 1, 1) := by decide +kernel
theorem dL_does_442 : decode cL_does 442 = .ok (.iload 6, 2) := by decide +kernel
theorem dL_does_444 : decode cL_does 444 = .ok (.iload 10, 2) := by decide +kernel
theorem dL_does_446 : decode cL_does 446 = .ok (.bipush 20, 2) := by decide +kernel
theorem dL_does_448 : decode cL_does 448 = .ok (.if_icmp .le 7, 3) := by decide +kernel
theorem dL_does_451 : decode cL_does 451 = .ok (.iconst 0, 1) := by decide +kernel
theorem dL_does_452 : decode cL_does 452 = .ok (.goto 14, 3) := by decide +kernel
theorem dL_does_455 : decode cL_does 455 = .ok (.aload_n 1, 1) := by decide +kernel
theorem dL_does_456 : decode cL_does 456 = .ok (.iload 8, 2) := by decide +kernel
theorem dL_does_458 : decode cL_does 458 = .ok (.iaload, 1) := by decide +kernel
theorem dL_does_459 : decode cL_does 459 = .ok (.aload_n 1, 1) := by decide +kernel
theorem dL_does_460 : decode cL_does 460 = .ok (.iload 9, 2) := by decide +kernel
theorem dL_does_462 : decode cL_does 462 = .ok (.iaload, 1) := by decide +kernel
theorem dL_does_463 : decode cL_does 463 = .ok (.invokestatic 102, 3) := by decide +kernel
theorem dL_does_466 : decode cL_does 466 = .ok (.iload 10, 2) := by decide +kernel
theorem dL_does_468 : decode cL_does 468 = .ok (.invokestatic 133, 3) := by decide +kernel
theorem dL_does_471 : decode cL_does 471 = .ok (.istore 11, 2) := by decide +kernel
theorem dL_does_473 : decode cL_does 473 = .ok (.aload_n 2, 1) := by decide +kernel
theorem dL_does_474 : decode cL_does 474 = .ok (.iconst 0, 1) := by decide +kernel
theorem dL_does_475 : decode cL_does 475 = .ok (.dup2, 1) := by decide +kernel
theorem dL_does_476 : decode cL_does 476 = .ok (.iaload, 1) := by decide +kernel
theorem dL_does_477 : decode cL_does 477 = .ok (.iload 11, 2) := by decide +kernel
theorem dL_does_479 : decode cL_does 479 = .ok (.iload 6, 2) := by decide +kernel
theorem dL_does_481 : decode cL_does 481 = .ok (.if_icmp .ne 7, 3) := by decide +kernel
theorem dL_does_484 : decode cL_does 484 = .ok (.iconst 1, 1) := by decide +kernel
theorem dL_does_485 : decode cL_does 485 = .ok (.goto 4, 3) := by decide +kernel
theorem dL_does_488 : decode cL_does 488 = .ok (.iconst 0, 1) := by decide +kernel
theorem dL_does_489 : decode cL_does 489 = .ok (.iadd, 1) := by decide +kernel
theorem dL_does_490 : decode cL_does 490 = .ok (.iastore, 1) := by decide +kernel
theorem dL_does_491 : decode cL_does 491 = .ok (.aload_n 0, 1) := by decide +kernel
theorem dL_does_492 : decode cL_does 492 = .ok (.iload 8, 2) := by decide +kernel
theorem dL_does_494 : decode cL_does 494 = .ok (.iload 6, 2) := by decide +kernel
theorem dL_does_496 : decode cL_does 496 = .ok (.invokevirtual 137, 3) := by decide +kernel
theorem dL_does_499 : decode cL_does 499 = .ok (.ldc 84, 2) := by decide +kernel
theorem dL_does_501 : decode cL_does 501 = .ok (.if_icmp .ne 20, 3) := by decide +kernel
theorem dL_does_504 : decode cL_does 504 = .ok (.aload_n 0, 1) := by decide +kernel
theorem dL_does_505 : decode cL_does 505 = .ok (.iload 8, 2) := by decide +kernel
theorem dL_does_507 : decode cL_does 507 = .ok (.iload 9, 2) := by decide +kernel
theorem dL_does_509 : decode cL_does 509 = .ok (.invokevirtual 137, 3) := by decide +kernel
theorem dL_does_512 : decode cL_does 512 = .ok (.iload 11, 2) := by decide +kernel
theorem dL_does_514 : decode cL_does 514 = .ok (.if_icmp .ne 7, 3) := by decide +kernel
theorem dL_does_517 : decode cL_does 517 = .ok (.iconst 1, 1) := by decide +kernel
theorem dL_does_518 : decode cL_does 518 = .ok (.goto 4, 3) := by decide +kernel
theorem dL_does_521 : decode cL_does 521 = .ok (.iconst 0, 1) := by decide +kernel
theorem dL_does_522 : decode cL_does 522 = .ok (.ireturn, 1) := by decide +kernel
theorem dL_does_523 : decode cL_does 523 = .ok (.iload 7, 2) := by decide +kernel
theorem dL_does_525 : decode cL_does 525 = .ok (.iconst 5, 1) := by decide +kernel
theorem dL_does_526 : decode cL_does 526 = .ok (.if_icmp .ne 155, 3) := by decide +kernel
theorem dL_does_529 : decode cL_does 529 = .ok (.iconst 2, 1) := by decide +kernel
theorem dL_does_530 : decode cL_does 530 = .ok (.iload 4, 2) := by decide +kernel
theorem dL_does_532 : decode cL_does 532 = .ok (.iconst 4, 1) := by decide +kernel
theorem dL_does_533 : decode cL_does 533 = .ok (.invokestatic 36, 3) := by decide +kernel
theorem dL_does_536 : decode cL_does 536 = .ok (.iadd, 1) := by decide +kernel
theorem dL_does_537 : decode cL_does 537 = .ok (.istore 10, 2) := by decide +kernel
theorem dL_does_539 : decode cL_does 539 = .ok (.aload_n 1, 1) := by decide +kernel
theorem dL_does_540 : decode cL_does 540 = .ok (.iload 8, 2) := by decide +kernel
theorem dL_does_542 : decode cL_does 542 = .ok (.iaload, 1) := by decide +kernel
theorem dL_does_543 : decode cL_does 543 = .ok (.istore 11, 2) := by decide +kernel
theorem dL_does_545 : decode cL_does 545 = .ok (.iconst 1, 1) := by decide +kernel
theorem dL_does_546 : decode cL_does 546 = .ok (.istore 12, 2) := by decide +kernel
theorem dL_does_548 : decode cL_does 548 = .ok (.iload 12, 2) := by decide +kernel
theorem dL_does_550 : decode cL_does 550 = .ok (.iload 10, 2) := by decide +kernel
theorem dL_does_552 : decode cL_does 552 = .ok (.if_icmp .ge 35, 3) := by decide +kernel
theorem dL_does_555 : decode cL_does 555 = .ok (.iload 10, 2) := by decide +kernel
theorem dL_does_557 : decode cL_does 557 = .ok (.aload_n 1, 1) := by decide +kernel
theorem dL_does_558 : decode cL_does 558 = .ok (.iload 8, 2) := by decide +kernel
theorem dL_does_560 : decode cL_does 560 = .ok (.iaload, 1) := by decide +kernel
theorem dL_does_561 : decode cL_does 561 = .ok (.invokestatic 8, 3) := by decide +kernel
theorem dL_does_564 : decode cL_does 564 = .ok (.imul, 1) := by decide +kernel
theorem dL_does_565 : decode cL_does 565 = .ok (.bipush 21, 2) := by decide +kernel
theorem dL_does_567 : decode cL_does 567 = .ok (.if_icmp .ge 20, 3) := by decide +kernel
theorem dL_does_570 : decode cL_does 570 = .ok (.iload 11, 2) := by decide +kernel
theorem dL_does_572 : decode cL_does 572 = .ok (.aload_n 1, 1) := by decide +kernel
theorem dL_does_573 : decode cL_does 573 = .ok (.iload 8, 2) := by decide +kernel
theorem dL_does_575 : decode cL_does 575 = .ok (.iaload, 1) := by decide +kernel
theorem dL_does_576 : decode cL_does 576 = .ok (.invokestatic 102, 3) := by decide +kernel
end
section
theorem dL_does_579 : decode cL_does 579 = .ok (.istore 11, 2) := by decide +kernel
theorem dL_does_581 : decode cL_does 581 = .ok (.iinc 12 1, 3) := by decide +kernel
theorem dL_does_584 : decode cL_does 584 = .ok (.goto (-36), 3) := by decide +kernel
theorem dL_does_587 : decode cL_does 587 = .ok (.aload_n 1, 1) := by decide +kernel
theorem dL_does_588 : decode cL_does 588 = .ok (.iload 6, 2) := by decide +kernel
theorem dL_does_590 : decode cL_does 590 = .ok (.iload 11, 2) := by decide +kernel
theorem dL_does_592 : decode cL_does 592 = .ok (.iload 10, 2) := by decide +kernel
theorem dL_does_594 : decode cL_does 594 = .ok (.aload_n 1, 1) := by decide +kernel
theorem dL_does_595 : decode cL_does 595 = .ok (.iload 8, 2) := by decide +kernel
theorem dL_does_597 : decode cL_does 597 = .ok (.iaload, 1) := by decide +kernel
theorem dL_does_598 : decode cL_does 598 = .ok (.invokestatic 8, 3) := by decide +kernel
theorem dL_does_601 : decode cL_does 601 = .ok (.imul, 1) := by decide +kernel
theorem dL_does_602 : decode cL_does 602 = .ok (.invokestatic 133, 3) := by decide +kernel
theorem dL_does_605 : decode cL_does 605 = .ok (.istore 12, 2) := by decide +kernel
theorem dL_does_607 : decode cL_does 607 = .ok (.aload_n 2, 1) := by decide +kernel
theorem dL_does_608 : decode cL_does 608 = .ok (.iconst 0, 1) := by decide +kernel
theorem dL_does_609 : decode cL_does 609 = .ok (.dup2, 1) := by decide +kernel
theorem dL_does_610 : decode cL_does 610 = .ok (.iaload, 1) := by decide +kernel
theorem dL_does_611 : decode cL_does 611 = .ok (.iload 12, 2) := by decide +kernel
theorem dL_does_613 : decode cL_does 613 = .ok (.iload 6, 2) := by decide +kernel
theorem dL_does_615 : decode cL_does 615 = .ok (.if_icmp .ne 7, 3) := by decide +kernel
theorem dL_does_618 : decode cL_does 618 = .ok (.iconst 1, 1) := by decide +kernel
theorem dL_does_619 : decode cL_does 619 = .ok (.goto 4, 3) := by decide +kernel
theorem dL_does_622 : decode cL_does 622 = .ok (.iconst 0, 1) := by decide +kernel
theorem dL_does_623 : decode cL_does 623 = .ok (.iadd, 1) := by decide +kernel
theorem dL_does_624 : decode cL_does 624 = .ok (.iastore, 1) := by decide +kernel
theorem dL_does_625 : decode cL_does 625 = .ok (.aload_n 0, 1) := by decide +kernel
theorem dL_does_626 : decode cL_does 626 = .ok (.iload 8, 2) := by decide +kernel
theorem dL_does_628 : decode cL_does 628 = .ok (.iconst 1, 1) := by decide +kernel
theorem dL_does_629 : decode cL_does 629 = .ok (.invokevirtual 138, 3) := by decide +kernel
theorem dL_does_632 : decode cL_does 632 = .ok (.ldc 68, 2) := by decide +kernel
theorem dL_does_634 : decode cL_does 634 = .ok (.if_icmp .ne 45, 3) := by decide +kernel
theorem dL_does_637 : decode cL_does 637 = .ok (.aload_n 0, 1) := by decide +kernel
theorem dL_does_638 : decode cL_does 638 = .ok (.iload 8, 2) := by decide +kernel
theorem dL_does_640 : decode cL_does 640 = .ok (.bipush 6, 2) := by decide +kernel
theorem dL_does_642 : decode cL_does 642 = .ok (.invokevirtual 138, 3) := by decide +kernel
theorem dL_does_645 : decode cL_does 645 = .ok (.ldc 68, 2) := by decide +kernel
theorem dL_does_647 : decode cL_does 647 = .ok (.if_icmp .ne 32, 3) := by decide +kernel
theorem dL_does_650 : decode cL_does 650 = .ok (.aload_n 0, 1) := by decide +kernel
theorem dL_does_651 : decode cL_does 651 = .ok (.iload 6, 2) := by decide +kernel
theorem dL_does_653 : decode cL_does 653 = .ok (.iconst 2, 1) := by decide +kernel
theorem dL_does_654 : decode cL_does 654 = .ok (.invokevirtual 138, 3) := by decide +kernel
theorem dL_does_657 : decode cL_does 657 = .ok (.ldc 84, 2) := by decide +kernel
theorem dL_does_659 : decode cL_does 659 = .ok (.if_icmp .ne 20, 3) := by decide +kernel
theorem dL_does_662 : decode cL_does 662 = .ok (.aload_n 0, 1) := by decide +kernel
theorem dL_does_663 : decode cL_does 663 = .ok (.iload 8, 2) := by decide +kernel
theorem dL_does_665 : decode cL_does 665 = .ok (.iload 10, 2) := by decide +kernel
theorem dL_does_667 : decode cL_does 667 = .ok (.invokevirtual 138, 3) := by decide +kernel
theorem dL_does_670 : decode cL_does 670 = .ok (.iload 12, 2) := by decide +kernel
theorem dL_does_672 : decode cL_does 672 = .ok (.if_icmp .ne 7, 3) := by decide +kernel
theorem dL_does_675 : decode cL_does 675 = .ok (.iconst 1, 1) := by decide +kernel
theorem dL_does_676 : decode cL_does 676 = .ok (.goto 4, 3) := by decide +kernel
theorem dL_does_679 : decode cL_does 679 = .ok (.iconst 0, 1) := by decide +kernel
theorem dL_does_680 : decode cL_does 680 = .ok (.ireturn, 1) := by decide +kernel
theorem dL_does_681 : decode cL_does 681 = .ok (.iload 7, 2) := by decide +kernel
theorem dL_does_683 : decode cL_does 683 = .ok (.bipush 8, 2) := by decide +kernel
theorem dL_does_685 : decode cL_does 685 = .ok (.if_icmp .ge 236, 3) := by decide +kernel
theorem dL_does_688 : decode cL_does 688 = .ok (.iconst 1, 1) := by decide +kernel
theorem dL_does_689 : decode cL_does 689 = .ok (.iload 4, 2) := by decide +kernel
theorem dL_does_691 : decode cL_does 691 = .ok (.iload 4, 2) := by decide +kernel
theorem dL_does_693 : decode cL_does 693 = .ok (.bipush 14, 2) := by decide +kernel
theorem dL_does_695 : decode cL_does 695 = .ok (.ishr, 1) := by decide +kernel
theorem dL_does_696 : decode cL_does 696 = .ok (.iconst 3, 1) := by decide +kernel
theorem dL_does_697 : decode cL_does 697 = .ok (.invokestatic 36, 3) := by decide +kernel
theorem dL_does_700 : decode cL_does 700 = .ok (.ifCond .ne 8, 3) := by decide +kernel
theorem dL_does_703 : decode cL_does 703 = .ok (.bipush 99, 2) := by decide +kernel
theorem dL_does_705 : decode cL_does 705 = .ok (.goto 5, 3) := by decide +kernel
theorem dL_does_708 : decode cL_does 708 = .ok (.bipush 20, 2) := by decide +kernel
theorem dL_does_710 : decode cL_does 710 = .ok (.invokestatic 36, 3) := by decide +kernel
theorem dL_does_713 : decode cL_does 713 = .ok (.iadd, 1) := by decide +kernel
theorem dL_does_714 : decode cL_does 714 = .ok (.istore 10, 2) := by decide +kernel
theorem dL_does_716 : decode cL_does 716 = .ok (.iconst 1, 1) := by decide +kernel
theorem dL_does_717 : decode cL_does 717 = .ok (.iload 4, 2) := by decide +kernel
theorem dL_does_719 : decode cL_does 719 = .ok (.bipush 7, 2) := by decide +kernel
theorem dL_does_721 : decode cL_does 721 = .ok (.ishr, 1) := by decide +kernel
theorem dL_does_722 : decode cL_does 722 = .ok (.iload 4, 2) := by decide +kernel
theorem dL_does_724 : decode cL_does 724 = .ok (.bipush 14, 2) := by decide +kernel
theorem dL_does_726 : decode cL_does 726 = .ok (.ishr, 1) := by decide +kernel
theorem dL_does_727 : decode cL_does 727 = .ok (.iconst 3, 1) := by decide +kernel
theorem dL_does_728 : decode cL_does 728 = .ok (.invokestatic 36, 3) := by decide +kernel
theorem dL_does_731 : decode cL_does 731 = .ok (.ifCond .ne 8, 3) := by decide +kernel
theorem dL_does_734 : decode cL_does 734 = .ok (.bipush 99, 2) := by decide +kernel
theorem dL_does_736 : decode cL_does 736 = .ok (.goto 5, 3) := by decide +kernel
theorem dL_does_739 : decode cL_does 739 = .ok (.bipush 20, 2) := by decide +kernel
theorem dL_does_741 : decode cL_does 741 = .ok (.invokestatic 36, 3) := by decide +kernel
theorem dL_does_744 : decode cL_does 744 = .ok (.iadd, 1) := by decide +kernel
theorem dL_does_745 : decode cL_does 745 = .ok (.istore 11, 2) := by decide +kernel
theorem dL_does_747 : decode cL_does 747 = .ok (.aload_n 0, 1) := by decide +kernel
theorem dL_does_748 : decode cL_does 748 = .ok (.iconst 0, 1) := by decide +kernel
theorem dL_does_749 : decode cL_does 749 = .ok (.iconst 1, 1) := by decide +kernel
theorem dL_does_750 : decode cL_does 750 = .ok (.invokevirtual 141, 3) := by decide +kernel
theorem dL_does_753 : decode cL_does 753 = .ok (.ldc 68, 2) := by decide +kernel
theorem dL_does_755 : decode cL_does 755 = .ok (.if_icmp .ne 37, 3) := by decide +kernel
theorem dL_does_758 : decode cL_does 758 = .ok (.aload_n 0, 1) := by decide +kernel
theorem dL_does_759 : decode cL_does 759 = .ok (.iconst 1, 1) := by decide +kernel
theorem dL_does_760 : decode cL_does 760 = .ok (.iconst 1, 1) := by decide +kernel
theorem dL_does_761 : decode cL_does 761 = .ok (.invokevirtual 141, 3) := by decide +kernel
theorem dL_does_764 : decode cL_does 764 = .ok (.ldc 68, 2) := by decide +kernel
theorem dL_does_766 : decode cL_does 766 = .ok (.if_icmp .ne 26, 3) := by decide +kernel
theorem dL_does_769 : decode cL_does 769 = .ok (.aload_n 0, 1) := by decide +kernel
theorem dL_does_770 : decode cL_does 770 = .ok (.bipush 100, 2) := by decide +kernel
theorem dL_does_772 : decode cL_does 772 = .ok (.iconst 1, 1) := by decide +kernel
theorem dL_does_773 : decode cL_does 773 = .ok (.invokevirtual 141, 3) := by decide +kernel
theorem dL_does_776 : decode cL_does 776 = .ok (.ldc 68, 2) := by decide +kernel
theorem dL_does_778 : decode cL_does 778 = .ok (.if_icmp .ne 14, 3) := by decide +kernel
theorem dL_does_781 : decode cL_does 781 = .ok (.aload_n 0, 1) := by decide +kernel
theorem dL_does_782 : decode cL_does 782 = .ok (.iconst 4, 1) := by decide +kernel
theorem dL_does_783 : decode cL_does 783 = .ok (.iconst 2, 1) := by decide +kernel
theorem dL_does_784 : decode cL_does 784 = .ok (.invokevirtual 141, 3) := by decide +kernel
theorem dL_does_787 : decode cL_does 787 = .ok (.ldc 68, 2) := by decide +kernel
theorem dL_does_789 : decode cL_does 789 = .ok (.if_icmp .eq 5, 3) := by decide +kernel
theorem dL_does_792 : decode cL_does 792 = .ok (.iconst 0, 1) := by decide +kernel
theorem dL_does_793 : decode cL_does 793 = .ok (.ireturn, 1) := by decide +kernel
theorem dL_does_794 : decode cL_does 794 = .ok (.iload 10, 2) := by decide +kernel
theorem dL_does_796 : decode cL_does 796 = .ok (.iload 11, 2) := by decide +kernel
theorem dL_does_798 : decode cL_does 798 = .ok (.invokestatic 77, 3) := by decide +kernel
theorem dL_does_801 : decode cL_does 801 = .ok (.iconst 1, 1) := by decide +kernel
theorem dL_does_802 : decode cL_does 802 = .ok (.if_icmp .gt 10, 3) := by decide +kernel
theorem dL_does_805 : decode cL_does 805 = .ok (.iload 10, 2) := by decide +kernel
theorem dL_does_807 : decode cL_does 807 = .ok (.iload 11, 2) := by decide +kernel
theorem dL_does_809 : decode cL_does 809 = .ok (.if_icmp .ne 22, 3) := by decide +kernel
theorem dL_does_812 : decode cL_does 812 = .ok (.aload_n 0, 1) := by decide +kernel
theorem dL_does_813 : decode cL_does 813 = .ok (.iload 10, 2) := by decide +kernel
theorem dL_does_815 : decode cL_does 815 = .ok (.iload 11, 2) := by decide +kernel
theorem dL_does_817 : decode cL_does 817 = .ok (.invokevirtual 141, 3) := by decide +kernel
theorem dL_does_820 : decode cL_does 820 = .ok (.ldc 68, 2) := by decide +kernel
theorem dL_does_822 : decode cL_does 822 = .ok (.if_icmp .ne 7, 3) := by decide +kernel
theorem dL_does_825 : decode cL_does 825 = .ok (.iconst 1, 1) := by decide +kernel
theorem dL_does_826 : decode cL_does 826 = .ok (.goto 4, 3) := by decide +kernel
theorem dL_does_829 : decode cL_does 829 = .ok (.iconst 0, 1) := by decide +kernel
theorem dL_does_830 : decode cL_does 830 = .ok (.ireturn, 1) := by decide +kernel
theorem dL_does_831 : decode cL_does 831 = .ok (.iload 10, 2) := by decide +kernel
theorem dL_does_833 : decode cL_does 833 = .ok (.iload 11, 2) := by decide +kernel
theorem dL_does_835 : decode cL_does 835 = .ok (.invokestatic 144, 3) := by decide +kernel
theorem dL_does_838 : decode cL_does 838 = .ok (.istore 12, 2) := by decide +kernel
theorem dL_does_840 : decode cL_does 840 = .ok (.aload_n 1, 1) := by decide +kernel
theorem dL_does_841 : decode cL_does 841 = .ok (.iload 6, 2) := by decide +kernel
theorem dL_does_843 : decode cL_does 843 = .ok (.iload 12, 2) := by decide +kernel
theorem dL_does_845 : decode cL_does 845 = .ok (.iload 12, 2) := by decide +kernel
theorem dL_does_847 : decode cL_does 847 = .ok (.invokestatic 8, 3) := by decide +kernel
theorem dL_does_850 : decode cL_does 850 = .ok (.invokestatic 133, 3) := by decide +kernel
theorem dL_does_853 : decode cL_does 853 = .ok (.istore 13, 2) := by decide +kernel
theorem dL_does_855 : decode cL_does 855 = .ok (.aload_n 2, 1) := by decide +kernel
theorem dL_does_856 : decode cL_does 856 = .ok (.iconst 0, 1) := by decide +kernel
theorem dL_does_857 : decode cL_does 857 = .ok (.dup2, 1) := by decide +kernel
theorem dL_does_858 : decode cL_does 858 = .ok (.iaload, 1) := by decide +kernel
theorem dL_does_859 : decode cL_does 859 = .ok (.iload 13, 2) := by decide +kernel
theorem dL_does_861 : decode cL_does 861 = .ok (.iload 6, 2) := by decide +kernel
theorem dL_does_863 : decode cL_does 863 = .ok (.if_icmp .ne 7, 3) := by decide +kernel
theorem dL_does_866 : decode cL_does 866 = .ok (.iconst 1, 1) := by decide +kernel
theorem dL_does_867 : decode cL_does 867 = .ok (.goto 4, 3) := by decide +kernel
theorem dL_does_870 : decode cL_does 870 = .ok (.iconst 0, 1) := by decide +kernel
theorem dL_does_871 : decode cL_does 871 = .ok (.iadd, 1) := by decide +kernel
theorem dL_does_872 : decode cL_does 872 = .ok (.iastore, 1) := by decide +kernel
theorem dL_does_873 : decode cL_does 873 = .ok (.aload_n 0, 1) := by decide +kernel
theorem dL_does_874 : decode cL_does 874 = .ok (.iload 10, 2) := by decide +kernel
theorem dL_does_876 : decode cL_does 876 = .ok (.iload 11, 2) := by decide +kernel
theorem dL_does_878 : decode cL_does 878 = .ok (.invokevirtual 141, 3) := by decide +kernel
theorem dL_does_881 : decode cL_does 881 = .ok (.iload 13, 2) := by decide +kernel
theorem dL_does_883 : decode cL_does 883 = .ok (.if_icmp .ne 36, 3) := by decide +kernel
theorem dL_does_886 : decode cL_does 886 = .ok (.iload 13, 2) := by decide +kernel
theorem dL_does_888 : decode cL_does 888 = .ok (.ifCond .lt 27, 3) := by decide +kernel
theorem dL_does_891 : decode cL_does 891 = .ok (.aload_n 0, 1) := by decide +kernel
theorem dL_does_892 : decode cL_does 892 = .ok (.iload 13, 2) := by decide +kernel
theorem dL_does_894 : decode cL_does 894 = .ok (.iconst 0, 1) := by decide +kernel
theorem dL_does_895 : decode cL_does 895 = .ok (.invokevirtual 74, 3) := by decide +kernel
theorem dL_does_898 : decode cL_does 898 = .ok (.iload 10, 2) := by decide +kernel
theorem dL_does_900 : decode cL_does 900 = .ok (.if_icmp .ne 19, 3) := by decide +kernel
theorem dL_does_903 : decode cL_does 903 = .ok (.aload_n 0, 1) := by decide +kernel
theorem dL_does_904 : decode cL_does 904 = .ok (.iload 13, 2) := by decide +kernel
theorem dL_does_906 : decode cL_does 906 = .ok (.iconst 1, 1) := by decide +kernel
theorem dL_does_907 : decode cL_does 907 = .ok (.invokevirtual 74, 3) := by decide +kernel
theorem dL_does_910 : decode cL_does 910 = .ok (.iload 11, 2) := by decide +kernel
theorem dL_does_912 : decode cL_does 912 = .ok (.if_icmp .ne 7, 3) := by decide +kernel
theorem dL_does_915 : decode cL_does 915 = .ok (.iconst 1, 1) := by decide +kernel
theorem dL_does_916 : decode cL_does 916 = .ok (.goto 4, 3) := by decide +kernel
theorem dL_does_919 : decode cL_does 919 = .ok (.iconst 0, 1) := by decide +kernel
theorem dL_does_920 : decode cL_does 920 = .ok (.ireturn, 1) := by decide +kernel
theorem dL_does_921 : decode cL_does 921 = .ok (.iload 7, 2) := by decide +kernel
theorem dL_does_923 : decode cL_does 923 = .ok (.bipush 8, 2) := by decide +kernel
theorem dL_does_925 : decode cL_does 925 = .ok (.if_icmp .ne 26, 3) := by decide +kernel
theorem dL_does_928 : decode cL_does 928 = .ok (.aload_n 2, 1) := by decide +kernel
theorem dL_does_929 : decode cL_does 929 = .ok (.iconst 0, 1) := by decide +kernel
theorem dL_does_930 : decode cL_does 930 = .ok (.dup2, 1) := by decide +kernel
theorem dL_does_931 : decode cL_does 931 = .ok (.iaload, 1) := by decide +kernel
theorem dL_does_932 : decode cL_does 932 = .ok (.iconst 1, 1) := by decide +kernel
theorem dL_does_933 : decode cL_does 933 = .ok (.isub, 1) := by decide +kernel
theorem dL_does_934 : decode cL_does 934 = .ok (.iastore, 1) := by decide +kernel
theorem dL_does_935 : decode cL_does 935 = .ok (.aload_n 0, 1) := by decide +kernel
theorem dL_does_936 : decode cL_does 936 = .ok (.invokevirtual 147, 3) := by decide +kernel
theorem dL_does_939 : decode cL_does 939 = .ok (.aload_n 2, 1) := by decide +kernel
theorem dL_does_940 : decode cL_does 940 = .ok (.iconst 0, 1) := by decide +kernel
theorem dL_does_941 : decode cL_does 941 = .ok (.iaload, 1) := by decide +kernel
theorem dL_does_942 : decode cL_does 942 = .ok (.if_icmp .ne 7, 3) := by decide +kernel
theorem dL_does_945 : decode cL_does 945 = .ok (.iconst 1, 1) := by decide +kernel
theorem dL_does_946 : decode cL_does 946 = .ok (.goto 4, 3) := by decide +kernel
theorem dL_does_949 : decode cL_does 949 = .ok (.iconst 0, 1) := by decide +kernel
theorem dL_does_950 : decode cL_does 950 = .ok (.ireturn, 1) := by decide +kernel
theorem dL_does_951 : decode cL_does 951 = .ok (.aload_n 0, 1) := by decide +kernel
theorem dL_does_952 : decode cL_does 952 = .ok (.iload 8, 2) := by decide +kernel
theorem dL_does_954 : decode cL_does 954 = .ok (.iload 9, 2) := by decide +kernel
theorem dL_does_956 : decode cL_does 956 = .ok (.invokevirtual 91, 3) := by decide +kernel
theorem dL_does_959 : decode cL_does 959 = .ok (.ifCond .lt 7, 3) := by decide +kernel
theorem dL_does_962 : decode cL_does 962 = .ok (.iconst 1, 1) := by decide +kernel
theorem dL_does_963 : decode cL_does 963 = .ok (.goto 4, 3) := by decide +kernel
theorem dL_does_966 : decode cL_does 966 = .ok (.iconst 0, 1) := by decide +kernel
theorem dL_does_967 : decode cL_does 967 = .ok (.aload_n 1, 1) := by decide +kernel
theorem dL_does_968 : decode cL_does 968 = .ok (.iload 8, 2) := by decide +kernel
theorem dL_does_970 : decode cL_does 970 = .ok (.iaload, 1) := by decide +kernel
theorem dL_does_971 : decode cL_does 971 = .ok (.invokestatic 8, 3) := by decide +kernel
theorem dL_does_974 : decode cL_does 974 = .ok (.aload_n 1, 1) := by decide +kernel
theorem dL_does_975 : decode cL_does 975 = .ok (.iload 9, 2) := by decide +kernel
theorem dL_does_977 : decode cL_does 977 = .ok (.iaload, 1) := by decide +kernel
theorem dL_does_978 : decode cL_does 978 = .ok (.invokestatic 8, 3) := by decide +kernel
theorem dL_does_981 : decode cL_does 981 = .ok (.if_icmp .ne 21, 3) := by decide +kernel
theorem dL_does_984 : decode cL_does 984 = .ok (.aload_n 1, 1) := by decide +kernel
theorem dL_does_985 : decode cL_does 985 = .ok (.iload 8, 2) := by decide +kernel
theorem dL_does_987 : decode cL_does 987 = .ok (.iaload, 1) := by decide +kernel
theorem dL_does_988 : decode cL_does 988 = .ok (.aload_n 1, 1) := by decide +kernel
theorem dL_does_989 : decode cL_does 989 = .ok (.iload 9, 2) := by decide +kernel
theorem dL_does_991 : decode cL_does 991 = .ok (.iaload, 1) := by decide +kernel
theorem dL_does_992 : decode cL_does 992 = .ok (.invokestatic 61, 3) := by decide +kernel
theorem dL_does_995 : decode cL_does 995 = .ok (.ifCond .eq 7, 3) := by decide +kernel
theorem dL_does_998 : decode cL_does 998 = .ok (.iconst 1, 1) := by decide +kernel
theorem dL_does_999 : decode cL_does 999 = .ok (.goto 4, 3) := by decide +kernel
theorem dL_does_1002 : decode cL_does 1002 = .ok (.iconst 0, 1) := by decide +kernel
theorem dL_does_1003 : decode cL_does 1003 = .ok (.if_icmp .ne 7, 3) := by decide +kernel
theorem dL_does_1006 : decode cL_does 1006 = .ok (.iconst 1, 1) := by decide +kernel
theorem dL_does_1007 : decode cL_does 1007 = .ok (.goto 4, 3) := by decide +kernel
theorem dL_does_1010 : decode cL_does 1010 = .ok (.iconst 0, 1) := by decide +kernel
theorem dL_does_1011 : decode cL_does 1011 = .ok (.ireturn, 1) := by decide +kernel
set_option maxRecDepth 20000 in
theorem ggL_drawn_L_with : GoodIn wsL_drawn wsL_with := goodIn_rq _ [10, 11, 12, 9, 13] (by decide +kernel) (by decide +kernel)
set_option maxRecDepth 20000 in
theorem gL_drawn_L_with : GoodIn wsL_drawn (va_wsS RL 21 yL_with wsL_with) := goodIn_app (goodIn_of _ (by decide +kernel)) ggL_drawn_L_with
set_option maxRecDepth 20000 in
theorem ggL_drawn_L_isClosed : GoodIn wsL_drawn wsL_isClosed := goodIn_rq _ [16, 17, 18, 9, 19, 11, 12, 13, 20, 21, 22] (by decide +kernel) (by decide +kernel)
set_option maxRecDepth 20000 in
theorem gL_drawn_L_isClosed : GoodIn wsL_drawn (va_wsS RL 54 yL_isClosed wsL_isClosed) := goodIn_app (goodIn_of _ (by decide +kernel)) ggL_drawn_L_isClosed
set_option maxRecDepth 20000 in
theorem ggL_drawn_L_table : GoodIn wsL_drawn wsL_table := goodIn_rq _ [25, 11, 12, 9, 13, 20, 21, 22] (by decide +kernel) (by decide +kernel)
set_option maxRecDepth 20000 in
theorem gL_drawn_L_table : GoodIn wsL_drawn (va_wsS RL 44 yL_table wsL_table) := goodIn_app (goodIn_of _ (by decide +kernel)) ggL_drawn_L_table
set_option maxRecDepth 20000 in
theorem ggL_drawn_L_crossings : GoodIn wsL_drawn wsL_crossings := goodIn_rq _ [28, 11, 12, 9, 13, 20, 21, 22, 29, 30, 31] (by decide +kernel) (by decide +kernel)
set_option maxRecDepth 20000 in
theorem gL_drawn_L_crossings : GoodIn wsL_drawn (va_wsS RL 99 yL_crossings wsL_crossings) := goodIn_app (goodIn_of _ (by decide +kernel)) ggL_drawn_L_crossings
set_option maxRecDepth 20000 in
theorem ggL_drawn_X4_drawn : GoodIn wsL_drawn wsX4_drawn := goodIn_rq _ [36, 37, 38, 39, 40, 41, 42, 43, 44, 45, 46, 47, 48, 49, 50, 51, 52, 53, 54, 55, 56, 57, 58, 59, 60, 61, 62, 63, 64, 65, 66, 67, 68, 69, 70, 71, 72, 73, 74, 75, 76, 77, 78, 79, 80, 81, 82, 83, 84, 85, 86, 87, 88, 89, 90, 91, 92, 93, 94, 95, 96, 97, 98, 99, 100, 101, 102, 103, 104, 105, 106, 107, 108, 109, 110, 111, 112, 113, 114, 115, 116, 117, 118] (by decide +kernel) (by decide +kernel)
set_option maxRecDepth 20000 in
theorem gL_drawn_X4_drawn : GoodIn wsL_drawn (wsV RL 160 RX4 yX4_drawn wsX4_drawn) := goodIn_app (goodIn_of _ (by decide +kernel)) ggL_drawn_X4_drawn
theorem dL_drawn_0 : decode cL_drawn 0 = .ok (.iload_n 2, 1) := by decide +kernel
theorem dL_drawn_1 : decode cL_drawn 1 = .ok (.i2l, 1) := by decide +kernel
theorem dL_drawn_2 : decode cL_drawn 2 = .ok (.lstore 4, 2) := by decide +kernel
theorem dL_drawn_4 : decode cL_drawn 4 = .ok (.iconst 0, 1) := by decide +kernel
theorem dL_drawn_5 : decode cL_drawn 5 = .ok (.istore 6, 2) := by decide +kernel
theorem dL_drawn_7 : decode cL_drawn 7 = .ok (.iconst 0, 1) := by decide +kernel
theorem dL_drawn_8 : decode cL_drawn 8 = .ok (.istore 7, 2) := by decide +kernel
theorem dL_drawn_10 : decode cL_drawn 10 = .ok (.iconst 0, 1) := by decide +kernel
theorem dL_drawn_11 : decode cL_drawn 11 = .ok (.istore 8, 2) := by decide +kernel
theorem dL_drawn_13 : decode cL_drawn 13 = .ok (.iconst 0, 1) := by decide +kernel
theorem dL_drawn_14 : decode cL_drawn 14 = .ok (.istore 9, 2) := by decide +kernel
theorem dL_drawn_16 : decode cL_drawn 16 = .ok (.iconst 0, 1) := by decide +kernel
theorem dL_drawn_17 : decode cL_drawn 17 = .ok (.istore 10, 2) := by decide +kernel
theorem dL_drawn_19 : decode cL_drawn 19 = .ok (.iload 10, 2) := by decide +kernel
theorem dL_drawn_21 : decode cL_drawn 21 = .ok (.iload_n 1, 1) := by decide +kernel
theorem dL_drawn_22 : decode cL_drawn 22 = .ok (.if_icmp .ge 120, 3) := by decide +kernel
theorem dL_drawn_25 : decode cL_drawn 25 = .ok (.iconst 0, 1) := by decide +kernel
theorem dL_drawn_26 : decode cL_drawn 26 = .ok (.istore 11, 2) := by decide +kernel
theorem dL_drawn_28 : decode cL_drawn 28 = .ok (.iconst 0, 1) := by decide +kernel
theorem dL_drawn_29 : decode cL_drawn 29 = .ok (.istore 12, 2) := by decide +kernel
theorem dL_drawn_31 : decode cL_drawn 31 = .ok (.iload 12, 2) := by decide +kernel
theorem dL_drawn_33 : decode cL_drawn 33 = .ok (.bipush 8, 2) := by decide +kernel
theorem dL_drawn_35 : decode cL_drawn 35 = .ok (.if_icmp .ge 43, 3) := by decide +kernel
theorem dL_drawn_38 : decode cL_drawn 38 = .ok (.lload 4, 2) := by decide +kernel
theorem dL_drawn_40 : decode cL_drawn 40 = .ok (.ldc2_w 150, 3) := by decide +kernel
theorem dL_drawn_43 : decode cL_drawn 43 = .ok (.lmul, 1) := by decide +kernel
theorem dL_drawn_44 : decode cL_drawn 44 = .ok (.ldc2_w 152, 3) := by decide +kernel
theorem dL_drawn_47 : decode cL_drawn 47 = .ok (.ladd, 1) := by decide +kernel
theorem dL_drawn_48 : decode cL_drawn 48 = .ok (.ldc2_w 154, 3) := by decide +kernel
theorem dL_drawn_51 : decode cL_drawn 51 = .ok (.lrem, 1) := by decide +kernel
theorem dL_drawn_52 : decode cL_drawn 52 = .ok (.lstore 4, 2) := by decide +kernel
theorem dL_drawn_54 : decode cL_drawn 54 = .ok (.iload 11, 2) := by decide +kernel
theorem dL_drawn_56 : decode cL_drawn 56 = .ok (.lload 4, 2) := by decide +kernel
theorem dL_drawn_58 : decode cL_drawn 58 = .ok (.ldc2_w 156, 3) := by decide +kernel
theorem dL_drawn_61 : decode cL_drawn 61 = .ok (.ldiv, 1) := by decide +kernel
theorem dL_drawn_62 : decode cL_drawn 62 = .ok (.ldc2_w 158, 3) := by decide +kernel
theorem dL_drawn_65 : decode cL_drawn 65 = .ok (.lrem, 1) := by decide +kernel
theorem dL_drawn_66 : decode cL_drawn 66 = .ok (.l2i, 1) := by decide +kernel
theorem dL_drawn_67 : decode cL_drawn 67 = .ok (.invokestatic 21, 3) := by decide +kernel
theorem dL_drawn_70 : decode cL_drawn 70 = .ok (.istore 11, 2) := by decide +kernel
theorem dL_drawn_72 : decode cL_drawn 72 = .ok (.iinc 12 1, 3) := by decide +kernel
theorem dL_drawn_75 : decode cL_drawn 75 = .ok (.goto (-44), 3) := by decide +kernel
theorem dL_drawn_78 : decode cL_drawn 78 = .ok (.iload 11, 2) := by decide +kernel
theorem dL_drawn_80 : decode cL_drawn 80 = .ok (.invokestatic 54, 3) := by decide +kernel
theorem dL_drawn_83 : decode cL_drawn 83 = .ok (.ifCond .eq 49, 3) := by decide +kernel
theorem dL_drawn_86 : decode cL_drawn 86 = .ok (.iinc 6 1, 3) := by decide +kernel
theorem dL_drawn_89 : decode cL_drawn 89 = .ok (.iload 11, 2) := by decide +kernel
theorem dL_drawn_91 : decode cL_drawn 91 = .ok (.aload_n 3, 1) := by decide +kernel
theorem dL_drawn_92 : decode cL_drawn 92 = .ok (.invokestatic 44, 3) := by decide +kernel
theorem dL_drawn_95 : decode cL_drawn 95 = .ok (.iload 7, 2) := by decide +kernel
theorem dL_drawn_97 : decode cL_drawn 97 = .ok (.aload_n 3, 1) := by decide +kernel
theorem dL_drawn_98 : decode cL_drawn 98 = .ok (.iconst 0, 1) := by decide +kernel
theorem dL_drawn_99 : decode cL_drawn 99 = .ok (.iaload, 1) := by decide +kernel
theorem dL_drawn_100 : decode cL_drawn 100 = .ok (.aload_n 3, 1) := by decide +kernel
theorem dL_drawn_101 : decode cL_drawn 101 = .ok (.iconst 3, 1) := by decide +kernel
theorem dL_drawn_102 : decode cL_drawn 102 = .ok (.iaload, 1) := by decide +kernel
theorem dL_drawn_103 : decode cL_drawn 103 = .ok (.iadd, 1) := by decide +kernel
theorem dL_drawn_104 : decode cL_drawn 104 = .ok (.iadd, 1) := by decide +kernel
theorem dL_drawn_105 : decode cL_drawn 105 = .ok (.istore 7, 2) := by decide +kernel
theorem dL_drawn_107 : decode cL_drawn 107 = .ok (.iload 9, 2) := by decide +kernel
theorem dL_drawn_109 : decode cL_drawn 109 = .ok (.ifCond .eq 23, 3) := by decide +kernel
theorem dL_drawn_112 : decode cL_drawn 112 = .ok (.iload 9, 2) := by decide +kernel
theorem dL_drawn_114 : decode cL_drawn 114 = .ok (.invokestatic 54, 3) := by decide +kernel
theorem dL_drawn_117 : decode cL_drawn 117 = .ok (.ifCond .eq 15, 3) := by decide +kernel
theorem dL_drawn_120 : decode cL_drawn 120 = .ok (.iload 8, 2) := by decide +kernel
theorem dL_drawn_122 : decode cL_drawn 122 = .ok (.iload 9, 2) := by decide +kernel
theorem dL_drawn_124 : decode cL_drawn 124 = .ok (.iload 11, 2) := by decide +kernel
theorem dL_drawn_126 : decode cL_drawn 126 = .ok (.invokestatic 99, 3) := by decide +kernel
theorem dL_drawn_129 : decode cL_drawn 129 = .ok (.iadd, 1) := by decide +kernel
theorem dL_drawn_130 : decode cL_drawn 130 = .ok (.istore 8, 2) := by decide +kernel
theorem dL_drawn_132 : decode cL_drawn 132 = .ok (.iload 11, 2) := by decide +kernel
theorem dL_drawn_134 : decode cL_drawn 134 = .ok (.istore 9, 2) := by decide +kernel
theorem dL_drawn_136 : decode cL_drawn 136 = .ok (.iinc 10 1, 3) := by decide +kernel
theorem dL_drawn_139 : decode cL_drawn 139 = .ok (.goto (-120), 3) := by decide +kernel
theorem dL_drawn_142 : decode cL_drawn 142 = .ok (.aload_n 0, 1) := by decide +kernel
theorem dL_drawn_143 : decode cL_drawn 143 = .ok (.iload_n 1, 1) := by decide +kernel
theorem dL_drawn_144 : decode cL_drawn 144 = .ok (.iload_n 2, 1) := by decide +kernel
theorem dL_drawn_145 : decode cL_drawn 145 = .ok (.iconst 0, 1) := by decide +kernel
theorem dL_drawn_146 : decode cL_drawn 146 = .ok (.invokevirtual 160, 3) := by decide +kernel
theorem dL_drawn_149 : decode cL_drawn 149 = .ok (.iload 6, 2) := by decide +kernel
theorem dL_drawn_151 : decode cL_drawn 151 = .ok (.if_icmp .ne 93, 3) := by decide +kernel
theorem dL_drawn_154 : decode cL_drawn 154 = .ok (.aload_n 0, 1) := by decide +kernel
theorem dL_drawn_155 : decode cL_drawn 155 = .ok (.iload_n 1, 1) := by decide +kernel
theorem dL_drawn_156 : decode cL_drawn 156 = .ok (.iload_n 2, 1) := by decide +kernel
theorem dL_drawn_157 : decode cL_drawn 157 = .ok (.iconst 1, 1) := by decide +kernel
theorem dL_drawn_158 : decode cL_drawn 158 = .ok (.invokevirtual 160, 3) := by decide +kernel
theorem dL_drawn_161 : decode cL_drawn 161 = .ok (.iload 7, 2) := by decide +kernel
theorem dL_drawn_163 : decode cL_drawn 163 = .ok (.if_icmp .ne 81, 3) := by decide +kernel
theorem dL_drawn_166 : decode cL_drawn 166 = .ok (.aload_n 0, 1) := by decide +kernel
theorem dL_drawn_167 : decode cL_drawn 167 = .ok (.iload_n 1, 1) := by decide +kernel
theorem dL_drawn_168 : decode cL_drawn 168 = .ok (.iload_n 2, 1) := by decide +kernel
theorem dL_drawn_169 : decode cL_drawn 169 = .ok (.iconst 2, 1) := by decide +kernel
theorem dL_drawn_170 : decode cL_drawn 170 = .ok (.invokevirtual 160, 3) := by decide +kernel
theorem dL_drawn_173 : decode cL_drawn 173 = .ok (.iload 8, 2) := by decide +kernel
theorem dL_drawn_175 : decode cL_drawn 175 = .ok (.if_icmp .ne 69, 3) := by decide +kernel
theorem dL_drawn_178 : decode cL_drawn 178 = .ok (.aload_n 0, 1) := by decide +kernel
theorem dL_drawn_179 : decode cL_drawn 179 = .ok (.iload_n 1, 1) := by decide +kernel
theorem dL_drawn_180 : decode cL_drawn 180 = .ok (.iload_n 2, 1) := by decide +kernel
theorem dL_drawn_181 : decode cL_drawn 181 = .ok (.iconst 3, 1) := by decide +kernel
theorem dL_drawn_182 : decode cL_drawn 182 = .ok (.invokevirtual 160, 3) := by decide +kernel
theorem dL_drawn_185 : decode cL_drawn 185 = .ok (.lload 4, 2) := by decide +kernel
theorem dL_drawn_187 : decode cL_drawn 187 = .ok (.l2i, 1) := by decide +kernel
theorem dL_drawn_188 : decode cL_drawn 188 = .ok (.if_icmp .ne 56, 3) := by decide +kernel
theorem dL_drawn_191 : decode cL_drawn 191 = .ok (.aload_n 0, 1) := by decide +kernel
theorem dL_drawn_192 : decode cL_drawn 192 = .ok (.iconst 0, 1) := by decide +kernel
theorem dL_drawn_193 : decode cL_drawn 193 = .ok (.iconst 0, 1) := by decide +kernel
theorem dL_drawn_194 : decode cL_drawn 194 = .ok (.iconst 0, 1) := by decide +kernel
theorem dL_drawn_195 : decode cL_drawn 195 = .ok (.invokevirtual 160, 3) := by decide +kernel
theorem dL_drawn_198 : decode cL_drawn 198 = .ok (.ldc 68, 2) := by decide +kernel
theorem dL_drawn_200 : decode cL_drawn 200 = .ok (.if_icmp .ne 44, 3) := by decide +kernel
theorem dL_drawn_203 : decode cL_drawn 203 = .ok (.aload_n 0, 1) := by decide +kernel
theorem dL_drawn_204 : decode cL_drawn 204 = .ok (.bipush 41, 2) := by decide +kernel
theorem dL_drawn_206 : decode cL_drawn 206 = .ok (.iconst 0, 1) := by decide +kernel
theorem dL_drawn_207 : decode cL_drawn 207 = .ok (.iconst 0, 1) := by decide +kernel
theorem dL_drawn_208 : decode cL_drawn 208 = .ok (.invokevirtual 160, 3) := by decide +kernel
theorem dL_drawn_211 : decode cL_drawn 211 = .ok (.ldc 68, 2) := by decide +kernel
theorem dL_drawn_213 : decode cL_drawn 213 = .ok (.if_icmp .ne 31, 3) := by decide +kernel
theorem dL_drawn_216 : decode cL_drawn 216 = .ok (.aload_n 0, 1) := by decide +kernel
theorem dL_drawn_217 : decode cL_drawn 217 = .ok (.iconst 1, 1) := by decide +kernel
theorem dL_drawn_218 : decode cL_drawn 218 = .ok (.iconst (-1), 1) := by decide +kernel
theorem dL_drawn_219 : decode cL_drawn 219 = .ok (.iconst 0, 1) := by decide +kernel
theorem dL_drawn_220 : decode cL_drawn 220 = .ok (.invokevirtual 160, 3) := by decide +kernel
theorem dL_drawn_223 : decode cL_drawn 223 = .ok (.ldc 68, 2) := by decide +kernel
theorem dL_drawn_225 : decode cL_drawn 225 = .ok (.if_icmp .ne 19, 3) := by decide +kernel
theorem dL_drawn_228 : decode cL_drawn 228 = .ok (.aload_n 0, 1) := by decide +kernel
theorem dL_drawn_229 : decode cL_drawn 229 = .ok (.iconst 1, 1) := by decide +kernel
theorem dL_drawn_230 : decode cL_drawn 230 = .ok (.iconst 1, 1) := by decide +kernel
theorem dL_drawn_231 : decode cL_drawn 231 = .ok (.iconst 4, 1) := by decide +kernel
theorem dL_drawn_232 : decode cL_drawn 232 = .ok (.invokevirtual 160, 3) := by decide +kernel
theorem dL_drawn_235 : decode cL_drawn 235 = .ok (.ldc 68, 2) := by decide +kernel
theorem dL_drawn_237 : decode cL_drawn 237 = .ok (.if_icmp .ne 7, 3) := by decide +kernel
theorem dL_drawn_240 : decode cL_drawn 240 = .ok (.iconst 1, 1) := by decide +kernel
theorem dL_drawn_241 : decode cL_drawn 241 = .ok (.goto 4, 3) := by decide +kernel
theorem dL_drawn_244 : decode cL_drawn 244 = .ok (.iconst 0, 1) := by decide +kernel
theorem dL_drawn_245 : decode cL_drawn 245 = .ok (.ireturn, 1) := by decide +kernel
set_option maxRecDepth 20000 in
theorem ggL_law_X4_init : GoodIn wsL_law wsX4_init := goodIn_rq _ [8, 9, 10, 11, 12, 13, 14, 15, 16, 17, 18, 19, 20, 21, 22, 23, 24, 25, 26, 27, 28, 3, 29, 30, 31, 32, 33, 34, 35, 36, 37, 38, 39, 40, 41, 42, 43, 44, 45, 46, 47, 48, 49, 50, 51, 52, 53, 54, 55, 56, 57, 58, 59, 60, 61, 62, 422, 423, 424, 425, 426, 427, 416, 417, 418, 419, 420, 421, 428, 429, 430, 431, 432, 433, 434, 435, 436, 437, 438, 439, 440, 441, 442, 443, 444, 445] (by decide +kernel) (by decide +kernel)
set_option maxRecDepth 20000 in
theorem gL_law_X4_init : GoodIn wsL_law (wsX4_init) := ggL_law_X4_init
set_option maxRecDepth 20000 in
theorem ggL_law_L_cell : GoodIn wsL_law wsL_cell := goodIn_rq _ [66, 67] (by decide +kernel) (by decide +kernel)
set_option maxRecDepth 20000 in
theorem gL_law_L_cell : GoodIn wsL_law (va_wsS RL 165 yL_cell wsL_cell) := goodIn_app (goodIn_of _ (by decide +kernel)) ggL_law_L_cell
set_option maxRecDepth 20000 in
theorem ggL_law_L_does : GoodIn wsL_law wsL_does := goodIn_rq _ [70, 71, 5, 72, 73, 74, 65, 75, 76, 77, 78, 79, 80, 81, 82, 83, 84, 85, 86, 87, 88, 89, 90, 91, 92, 93, 94, 95, 96, 2, 97, 98, 15, 99, 100, 101, 102, 103, 14, 104, 105, 29, 106, 107, 108, 109, 110, 111, 112, 113, 114, 115, 116, 117, 118, 119, 120, 121, 122, 123, 124, 125, 126, 127, 128, 129, 130, 131, 132, 133, 134, 135, 17, 16, 40, 41, 136, 45, 46, 47, 10, 11, 48, 49, 50, 51, 52, 53, 54, 55, 56, 57, 58, 59, 60, 61, 62, 137, 138, 139, 140, 141, 142, 143, 144, 21, 145, 146, 147, 148, 149, 150, 151, 152, 153, 154, 155, 156, 157, 158, 159, 160, 161, 162, 163, 164, 165, 166, 167, 168, 169, 170, 171, 172, 173, 174, 175, 176, 177, 178, 179, 180, 181, 182, 183, 184, 185, 186, 187, 188, 189, 190, 191, 192, 193, 194, 195, 196, 197, 198, 199, 200, 201, 202, 203, 204, 205, 206, 207, 208, 209, 210, 211, 212, 213, 214, 215, 216, 217, 218, 219, 220, 221, 222, 223, 224, 225, 226, 227, 228, 229, 230, 231, 232, 233, 234, 235, 236, 237, 238, 239, 240, 241, 242, 243, 244, 245, 246, 247, 248, 249, 250, 251, 252, 253, 254, 255, 256, 257, 258, 259, 260, 261, 262, 263, 264, 265, 266, 267, 268, 269, 270, 271, 272, 273, 274, 275, 276, 277, 278, 279, 280, 281, 282, 283, 284, 285, 286, 287, 288, 289, 290, 291, 292, 293, 294, 295, 296, 297, 298, 299, 300, 301, 416, 417, 418, 419, 420, 421, 422, 423, 424, 425, 426, 427, 439, 440, 441, 442, 443, 444, 445, 428, 429, 430, 431, 432] (by decide +kernel) (by decide +kernel)
set_option maxRecDepth 20000 in
theorem gL_law_L_does : GoodIn wsL_law (va_wsS RL 169 yL_does wsL_does) := goodIn_app (goodIn_of _ (by decide +kernel)) ggL_law_L_does
set_option maxRecDepth 20000 in
theorem ggL_law_L_stands : GoodIn wsL_law wsL_stands := goodIn_rq _ [304, 305, 72, 5, 306, 307, 65, 308, 257, 309, 85, 86, 87, 203, 204, 205, 206, 207, 208, 79, 80, 81, 82, 83, 84, 218, 219, 220, 221, 222, 223, 224, 225, 226, 310, 311, 312, 2, 313, 175, 176, 177, 98, 155, 156, 157, 158, 135, 17, 314, 315, 316, 317, 318, 319, 320, 198, 199, 200, 41, 201, 52, 183, 53, 202, 180, 181, 182, 184, 185, 186, 187, 54, 321, 244, 245, 246, 247, 248, 249, 250, 55, 58, 159, 160, 161, 162, 322, 236, 237, 238, 59, 60, 61, 62, 323, 324, 325, 326, 327, 240, 241, 242, 328, 329, 330, 209, 210, 211, 331, 332, 333, 212, 213, 214, 299, 300, 301, 215, 216, 217, 334, 335, 336, 337, 338, 339, 340, 341, 342, 343, 344, 345, 290, 291, 292, 293, 286, 287, 288, 289, 280, 281, 282, 346, 347, 348, 349, 123, 350, 351, 352, 353, 57, 56, 271, 272, 273, 274, 275, 276, 277, 278, 279, 354, 355, 298, 172, 173, 174, 178, 179, 141, 142, 143, 144, 15, 99, 126, 21, 145, 146, 147, 148, 149, 150, 151, 152, 153, 154, 163, 164, 165, 166, 167, 168, 169, 170, 171, 356, 357, 358, 359, 360, 361, 362, 363, 364, 365, 366, 367, 439, 440, 441, 442, 443, 444, 445, 416, 417, 418, 419, 420, 421, 422, 423, 424, 425, 426, 427, 428, 429, 430, 431, 432] (by decide +kernel) (by decide +kernel)
set_option maxRecDepth 20000 in
theorem gL_law_L_stands : GoodIn wsL_law (va_wsS RL 173 yL_stands wsL_stands) := goodIn_app (goodIn_of _ (by decide +kernel)) ggL_law_L_stands
set_option maxRecDepth 20000 in
theorem ggL_law_L_crosses : GoodIn wsL_law wsL_crosses := goodIn_rq _ [370, 257, 331, 332, 65, 333, 328, 329, 330, 85, 86, 87, 79, 80, 81, 371, 372, 373, 206, 207, 208, 356, 357, 358, 2, 359, 175, 123, 155, 156, 157, 158, 135, 17, 159, 160, 161, 41, 162, 52, 54, 360, 361, 362, 363, 53, 59, 60, 61, 62, 364, 365, 366, 367, 203, 204, 205, 82, 83, 84, 215, 216, 217, 212, 213, 214, 251, 252, 253, 299, 300, 301, 218, 219, 220, 221, 222, 223, 416, 417, 418, 419, 420, 421, 439, 440, 441, 442, 443, 444, 445] (by decide +kernel) (by decide +kernel)
set_option maxRecDepth 20000 in
theorem gL_law_L_crosses : GoodIn wsL_law (va_wsS RL 177 yL_crosses wsL_crosses) := goodIn_app (goodIn_of _ (by decide +kernel)) ggL_law_L_crosses
set_option maxRecDepth 20000 in
theorem ggL_law_L_at : GoodIn wsL_law wsL_at := goodIn_rq _ [75] (by decide +kernel) (by decide +kernel)
set_option maxRecDepth 20000 in
theorem gL_law_L_at : GoodIn wsL_law (va_wsS RL 36 yL_at wsL_at) := goodIn_app (goodIn_of _ (by decide +kernel)) ggL_law_L_at
set_option maxRecDepth 20000 in
theorem ggL_law_L_drawn : GoodIn wsL_law wsL_drawn := goodIn_rq _ [376, 377, 378, 379, 380, 381, 5, 82, 83, 65, 84, 85, 86, 87, 331, 332, 333, 328, 329, 330, 79, 80, 81, 224, 225, 226, 371, 372, 373, 206, 207, 208, 382, 383, 384, 2, 385, 98, 25, 386, 387, 388, 389, 390, 391, 392, 24, 393, 394, 395, 396, 397, 43, 42, 398, 399, 49, 50, 41, 51, 52, 53, 54, 55, 56, 57, 58, 59, 60, 61, 62, 400, 401, 402, 403, 404, 405, 406, 407, 408, 409, 410, 411, 412, 413, 160, 161, 162, 414, 248, 249, 250, 415, 361, 362, 363, 364, 365, 366, 367, 416, 417, 418, 419, 420, 421, 433, 434, 435, 436, 437, 438, 439, 440, 441, 442, 443, 444, 445] (by decide +kernel) (by decide +kernel)
set_option maxRecDepth 20000 in
theorem gL_law_L_drawn : GoodIn wsL_law (va_wsS RL 181 yL_drawn wsL_drawn) := goodIn_app (goodIn_of _ (by decide +kernel)) ggL_law_L_drawn
set_option maxRecDepth 20000 in
theorem ggL_law_X4_count : GoodIn wsL_law wsX4_count := goodIn_rq _ [144, 135, 15, 99, 126, 21, 145, 146, 98, 147, 148, 149, 2, 150, 151, 152, 153, 154, 155, 156, 157, 158, 17, 159, 160, 161, 41, 162, 52, 54, 163, 164, 165, 166, 167, 168, 169, 170, 171, 172, 173, 174, 175, 176, 177, 178, 179, 180, 181, 182, 53, 183, 184, 185, 186, 187, 416, 417, 418, 419, 420, 421, 422, 423, 424, 425, 426, 427, 428, 429, 430, 431, 432, 439, 440, 441, 442, 443, 444, 445] (by decide +kernel) (by decide +kernel)
set_option maxRecDepth 20000 in
theorem gL_law_X4_count : GoodIn wsL_law (wsV RL 93 RX4 yX4_count wsX4_count) := goodIn_app (goodIn_of _ (by decide +kernel)) ggL_law_X4_count
theorem dL_law_0 : decode cL_law 0 = .ok (.new 40, 3) := by decide +kernel
theorem dL_law_3 : decode cL_law 3 = .ok (.dup, 1) := by decide +kernel
theorem dL_law_4 : decode cL_law 4 = .ok (.invokespecial 164, 3) := by decide +kernel
theorem dL_law_7 : decode cL_law 7 = .ok (.astore_n 1, 1) := by decide +kernel
theorem dL_law_8 : decode cL_law 8 = .ok (.bipush 6, 2) := by decide +kernel
theorem dL_law_10 : decode cL_law 10 = .ok (.newarray .int, 2) := by decide +kernel
theorem dL_law_12 : decode cL_law 12 = .ok (.astore_n 2, 1) := by decide +kernel
theorem dL_law_13 : decode cL_law 13 = .ok (.iconst 2, 1) := by decide +kernel
theorem dL_law_14 : decode cL_law 14 = .ok (.newarray .int, 2) := by decide +kernel
theorem dL_law_16 : decode cL_law 16 = .ok (.astore_n 3, 1) := by decide +kernel
theorem dL_law_17 : decode cL_law 17 = .ok (.bipush 40, 2) := by decide +kernel
theorem dL_law_19 : decode cL_law 19 = .ok (.newarray .int, 2) := by decide +kernel
theorem dL_law_21 : decode cL_law 21 = .ok (.astore 4, 2) := by decide +kernel
theorem dL_law_23 : decode cL_law 23 = .ok (.iconst 0, 1) := by decide +kernel
theorem dL_law_24 : decode cL_law 24 = .ok (.istore 5, 2) := by decide +kernel
theorem dL_law_26 : decode cL_law 26 = .ok (.iload 5, 2) := by decide +kernel
theorem dL_law_28 : decode cL_law 28 = .ok (.bipush 40, 2) := by decide +kernel
theorem dL_law_30 : decode cL_law 30 = .ok (.if_icmp .ge 80, 3) := by decide +kernel
theorem dL_law_33 : decode cL_law 33 = .ok (.aload_n 0, 1) := by decide +kernel
theorem dL_law_34 : decode cL_law 34 = .ok (.iconst 2, 1) := by decide +kernel
theorem dL_law_35 : decode cL_law 35 = .ok (.iload 5, 2) := by decide +kernel
theorem dL_law_37 : decode cL_law 37 = .ok (.imul, 1) := by decide +kernel
theorem dL_law_38 : decode cL_law 38 = .ok (.invokestatic 165, 3) := by decide +kernel
theorem dL_law_41 : decode cL_law 41 = .ok (.istore 6, 2) := by decide +kernel
theorem dL_law_43 : decode cL_law 43 = .ok (.aload_n 1, 1) := by decide +kernel
theorem dL_law_44 : decode cL_law 44 = .ok (.aload_n 2, 1) := by decide +kernel
theorem dL_law_45 : decode cL_law 45 = .ok (.aload_n 3, 1) := by decide +kernel
theorem dL_law_46 : decode cL_law 46 = .ok (.iload 6, 2) := by decide +kernel
theorem dL_law_48 : decode cL_law 48 = .ok (.aload_n 0, 1) := by decide +kernel
theorem dL_law_49 : decode cL_law 49 = .ok (.iconst 2, 1) := by decide +kernel
theorem dL_law_50 : decode cL_law 50 = .ok (.iload 5, 2) := by decide +kernel
theorem dL_law_52 : decode cL_law 52 = .ok (.imul, 1) := by decide +kernel
theorem dL_law_53 : decode cL_law 53 = .ok (.iconst 1, 1) := by decide +kernel
theorem dL_law_54 : decode cL_law 54 = .ok (.iadd, 1) := by decide +kernel
theorem dL_law_55 : decode cL_law 55 = .ok (.invokestatic 165, 3) := by decide +kernel
theorem dL_law_58 : decode cL_law 58 = .ok (.aload 4, 2) := by decide +kernel
theorem dL_law_60 : decode cL_law 60 = .ok (.invokestatic 169, 3) := by decide +kernel
theorem dL_law_63 : decode cL_law 63 = .ok (.ifCond .eq 16, 3) := by decide +kernel
theorem dL_law_66 : decode cL_law 66 = .ok (.aload_n 1, 1) := by decide +kernel
theorem dL_law_67 : decode cL_law 67 = .ok (.aload_n 2, 1) := by decide +kernel
theorem dL_law_68 : decode cL_law 68 = .ok (.aload_n 3, 1) := by decide +kernel
theorem dL_law_69 : decode cL_law 69 = .ok (.iconst 0, 1) := by decide +kernel
theorem dL_law_70 : decode cL_law 70 = .ok (.iaload, 1) := by decide +kernel
theorem dL_law_71 : decode cL_law 71 = .ok (.aload 4, 2) := by decide +kernel
theorem dL_law_73 : decode cL_law 73 = .ok (.invokestatic 173, 3) := by decide +kernel
theorem dL_law_76 : decode cL_law 76 = .ok (.ifCond .ne 5, 3) := by decide +kernel
theorem dL_law_79 : decode cL_law 79 = .ok (.iconst 0, 1) := by decide +kernel
theorem dL_law_80 : decode cL_law 80 = .ok (.ireturn, 1) := by decide +kernel
theorem dL_law_81 : decode cL_law 81 = .ok (.iload 5, 2) := by decide +kernel
theorem dL_law_83 : decode cL_law 83 = .ok (.bipush 8, 2) := by decide +kernel
theorem dL_law_85 : decode cL_law 85 = .ok (.irem, 1) := by decide +kernel
theorem dL_law_86 : decode cL_law 86 = .ok (.bipush 7, 2) := by decide +kernel
theorem dL_law_88 : decode cL_law 88 = .ok (.if_icmp .ne 16, 3) := by decide +kernel
theorem dL_law_91 : decode cL_law 91 = .ok (.aload_n 1, 1) := by decide +kernel
theorem dL_law_92 : decode cL_law 92 = .ok (.aload_n 2, 1) := by decide +kernel
theorem dL_law_93 : decode cL_law 93 = .ok (.aload_n 3, 1) := by decide +kernel
theorem dL_law_94 : decode cL_law 94 = .ok (.iconst 0, 1) := by decide +kernel
theorem dL_law_95 : decode cL_law 95 = .ok (.iaload, 1) := by decide +kernel
theorem dL_law_96 : decode cL_law 96 = .ok (.invokestatic 177, 3) := by decide +kernel
theorem dL_law_99 : decode cL_law 99 = .ok (.ifCond .ne 5, 3) := by decide +kernel
theorem dL_law_102 : decode cL_law 102 = .ok (.iconst 0, 1) := by decide +kernel
theorem dL_law_103 : decode cL_law 103 = .ok (.ireturn, 1) := by decide +kernel
theorem dL_law_104 : decode cL_law 104 = .ok (.iinc 5 1, 3) := by decide +kernel
theorem dL_law_107 : decode cL_law 107 = .ok (.goto (-81), 3) := by decide +kernel
theorem dL_law_110 : decode cL_law 110 = .ok (.aload_n 1, 1) := by decide +kernel
theorem dL_law_111 : decode cL_law 111 = .ok (.iconst 1, 1) := by decide +kernel
theorem dL_law_112 : decode cL_law 112 = .ok (.aload_n 0, 1) := by decide +kernel
theorem dL_law_113 : decode cL_law 113 = .ok (.bipush 80, 2) := by decide +kernel
theorem dL_law_115 : decode cL_law 115 = .ok (.invokestatic 165, 3) := by decide +kernel
theorem dL_law_118 : decode cL_law 118 = .ok (.bipush 40, 2) := by decide +kernel
theorem dL_law_120 : decode cL_law 120 = .ok (.invokestatic 36, 3) := by decide +kernel
theorem dL_law_123 : decode cL_law 123 = .ok (.iadd, 1) := by decide +kernel
theorem dL_law_124 : decode cL_law 124 = .ok (.aload_n 0, 1) := by decide +kernel
theorem dL_law_125 : decode cL_law 125 = .ok (.bipush 81, 2) := by decide +kernel
theorem dL_law_127 : decode cL_law 127 = .ok (.invokestatic 165, 3) := by decide +kernel
theorem dL_law_130 : decode cL_law 130 = .ok (.ldc 180, 2) := by decide +kernel
theorem dL_law_132 : decode cL_law 132 = .ok (.iand, 1) := by decide +kernel
theorem dL_law_133 : decode cL_law 133 = .ok (.aload 4, 2) := by decide +kernel
theorem dL_law_135 : decode cL_law 135 = .ok (.invokestatic 181, 3) := by decide +kernel
theorem dL_law_138 : decode cL_law 138 = .ok (.ifCond .eq 28, 3) := by decide +kernel
theorem dL_law_141 : decode cL_law 141 = .ok (.aload_n 1, 1) := by decide +kernel
theorem dL_law_142 : decode cL_law 142 = .ok (.bipush 7, 2) := by decide +kernel
theorem dL_law_144 : decode cL_law 144 = .ok (.invokevirtual 93, 3) := by decide +kernel
theorem dL_law_147 : decode cL_law 147 = .ok (.ldc 68, 2) := by decide +kernel
theorem dL_law_149 : decode cL_law 149 = .ok (.if_icmp .ne 17, 3) := by decide +kernel
theorem dL_law_152 : decode cL_law 152 = .ok (.aload_n 1, 1) := by decide +kernel
theorem dL_law_153 : decode cL_law 153 = .ok (.iconst (-1), 1) := by decide +kernel
theorem dL_law_154 : decode cL_law 154 = .ok (.invokevirtual 93, 3) := by decide +kernel
theorem dL_law_157 : decode cL_law 157 = .ok (.ldc 68, 2) := by decide +kernel
theorem dL_law_159 : decode cL_law 159 = .ok (.if_icmp .ne 7, 3) := by decide +kernel
theorem dL_law_162 : decode cL_law 162 = .ok (.iconst 1, 1) := by decide +kernel
theorem dL_law_163 : decode cL_law 163 = .ok (.goto 4, 3) := by decide +kernel
theorem dL_law_166 : decode cL_law 166 = .ok (.iconst 0, 1) := by decide +kernel
theorem dL_law_167 : decode cL_law 167 = .ok (.ireturn, 1) := by decide +kernel
abbrev vwCl : List vw_C := [(RX0, TX0, 6), (RX1, TX1, 6), (RX2, TX2, 5), (RX3, TX3, 7), (RX4, TX4, 6)]
end
