section Z96
variable {l : Launch} {D : va_G} {sz : Nat}
variable {az ad fa ca wad : Nat → Nat} {cI cR cG : ClassId}
variable {v_roadCount v_readings v_psize v_good v_pbits v_letters v_afterLetter v_disc v_rsize v_cycleCount v_closed v_traces v_crossings v_db_bits v_db_size v_db_allBits v_db_a v_db_b v_db_c v_db_d v_dn_bits v_dn_size v_dn_allBits v_dn_a v_dn_b v_dn_c v_dn_d : Int32}
variable {v_s : Int64}
variable {v_zw v_zd v_zt v_codes : Nat → Int32}
variable {v_fo v_cy v_wv : Nat → Nat → Int32}
variable {v_wn : Nat}
abbrev rm_cutTo : Room := { frames := 2, cells := 0, slots := 0, locals := 41 }
theorem hd_cutTo : okD yL_cutTo 2 := by decide +kernel
set_option maxHeartbeats 8000000 in
set_option maxRecDepth 100000 in
theorem c_cutTo {x0 : Int32} {x1 : Int32} {res : Int32} (hrun : P_cutTo x0 x1 = some res) : Met l yL_cutTo wsL_cutTo rm_cutTo (va_Pc [.int x0, .int x1] PN) (vp_Si (fun x => x = res)) 0 0 (fun _ => False) := by
  refine N_in (cc := cL_cutTo) (maxL := 5) (ret := (some .int)) (by decide) rfl (Nat.le_of_ble_eq_true rfl) ?_
  intro p e s m args below meth c ls Q hQ C hr hlk hl
  have C : CallFix p m c cL_cutTo 5 s args wsL_cutTo RL := C
  have hx := C.1
  have hb := C.2.1
  have hl : lv_has ls 5 [(0, .int x0), (1, .int x1)] := hl
  have loop_7 : ∀ (n : Nat) (x2 : Int32) (x3 : Int32) (x4 : Int32) (out : Int32), P_cutTo_7 n x2 x3 x4 = some out → (∀ (ls : Array Slot), lv_has ls 5 [(4, .int out)] → W p l e rm_cutTo s m args below meth c s.heap [] 0 0 Q (F0 m 75 ls [])) → ∀ (ls : Array Slot), lv_has ls 5 [(2, .int x2), (3, .int x3), (4, .int x4)] → W p l e rm_cutTo s m args below meth c s.heap [] 0 0 Q (F0 m 7 ls []) := by
    intro n
    induction n with
    | zero =>
      intro x2 x3 x4 out hrun K ls hl
      cases hrun
    | succ n ih =>
      intro x2 x3 x4 out hrun K ls hl
      rw [P_cutTo_7] at hrun
      refine lv_iload_n hx hb dL_cutTo_7 rfl (lv_at hl 0 rfl) ?_
      refine lv_iload_n hx hb dL_cutTo_8 rfl (lv_at hl 1 rfl) ?_
      refine lv_icmp_eq (tgt := 75) hx hb dL_cutTo_9 rfl (fun c1 => ?_) (fun c1 => ?_)
      · have hrun := p_pos hrun c1
        cases hrun
        exact K _ (lv_sub hl [2] rfl)
      · have hrun := p_neg hrun c1
        refine lv_iload hx hb dL_cutTo_12 (lv_at hl 2 rfl) ?_
        obtain ⟨r2, h_r2, hrun⟩ := p_bnd hrun
        refine jSS_i (rest := []) C (c_size h_r2) gL_cutTo_L_size hd_size rfl ⟨rfl, rfl⟩ ⟨Nat.le_of_ble_eq_true rfl, Nat.le_of_ble_eq_true rfl⟩ rfl hl.1 rfl (Nat.le_of_ble_eq_true rfl) ⟨Nat.le_of_ble_eq_true rfl, Nat.le_of_ble_eq_true rfl⟩ dL_cutTo_14 ?_
        refine lv_bipush (v := 25) hx hb dL_cutTo_17 rfl ?_
        refine lv_icmp_ge (tgt := 75) hx hb dL_cutTo_19 rfl (fun c3 => ?_) (fun c3 => ?_)
        · have hrun := p_pos hrun c3
          cases hrun
          exact K _ (lv_sub hl [2] rfl)
        · have hrun := p_neg hrun c3
          refine lv_iload hx hb dL_cutTo_22 (lv_at hl 2 rfl) ?_
          obtain ⟨r4, h_r4, hrun⟩ := p_bnd hrun
          refine jSS_i (rest := []) C (c_size h_r4) gL_cutTo_L_size hd_size rfl ⟨rfl, rfl⟩ ⟨Nat.le_of_ble_eq_true rfl, Nat.le_of_ble_eq_true rfl⟩ rfl hl.1 rfl (Nat.le_of_ble_eq_true rfl) ⟨Nat.le_of_ble_eq_true rfl, Nat.le_of_ble_eq_true rfl⟩ dL_cutTo_24 ?_
          refine lv_bipush (v := 20) hx hb dL_cutTo_27 rfl ?_
          refine lv_icmp_le (tgt := 39) hx hb dL_cutTo_29 rfl (fun c5 => ?_) (fun c5 => ?_)
          · have hrun := p_pos hrun c5
            refine lv_iload hx hb dL_cutTo_39 (lv_at hl 2 rfl) ?_
            refine lv_iload_n hx hb dL_cutTo_41 rfl (lv_at hl 0 rfl) ?_
            refine lv_iload_n hx hb dL_cutTo_42 rfl (lv_at hl 1 rfl) ?_
            refine lv_icmp_le (tgt := 50) hx hb dL_cutTo_43 rfl (fun c6 => ?_) (fun c6 => ?_)
            · have hrun := p_pos hrun c6
              refine lv_iconst (v := 0) hx hb dL_cutTo_50 rfl ?_
              obtain ⟨r7, h_r7, hrun⟩ := p_bnd hrun
              refine jSS_i (rest := []) C (c_with h_r7) gL_cutTo_L_with hd_with rfl ⟨rfl, rfl⟩ ⟨Nat.le_of_ble_eq_true rfl, Nat.le_of_ble_eq_true rfl⟩ rfl hl.1 rfl (Nat.le_of_ble_eq_true rfl) ⟨Nat.le_of_ble_eq_true rfl, Nat.le_of_ble_eq_true rfl⟩ dL_cutTo_51 ?_
              refine lv_istore (lv' := [(4, .int r7), (2, .int x2), (3, .int x3)]) hx hb dL_cutTo_54 hl (by decide) rfl (fun ls hl => ?_)
              refine lv_iload_n hx hb dL_cutTo_56 rfl (lv_at hl 1 rfl) ?_
              refine lv_iload_n hx hb dL_cutTo_57 rfl (lv_at hl 2 rfl) ?_
              refine lv_icmp_le (tgt := 68) hx hb dL_cutTo_58 rfl (fun c8 => ?_) (fun c8 => ?_)
              · have hrun := p_pos hrun c8
                refine lv_iload_n hx hb dL_cutTo_68 rfl (lv_at hl 2 rfl) ?_
                refine lv_iload_n hx hb dL_cutTo_69 rfl (lv_at hl 1 rfl) ?_
                refine lv_isub hx hb dL_cutTo_70 ?_
                refine lv_istore_n (lv' := [(3, .int (x3 - x2)), (4, .int r7), (2, .int x2)]) hx hb dL_cutTo_71 rfl hl (by decide) rfl (fun ls hl => ?_)
                refine lv_goto (tgt := 7) hx hb dL_cutTo_72 rfl ?_
                exact ih x2 (x3 - x2) r7 out hrun K _ (lv_sub hl [2, 0, 1] rfl)
              · have hrun := p_neg hrun c8
                refine lv_iload_n hx hb dL_cutTo_61 rfl (lv_at hl 1 rfl) ?_
                refine lv_iload_n hx hb dL_cutTo_62 rfl (lv_at hl 2 rfl) ?_
                refine lv_isub hx hb dL_cutTo_63 ?_
                refine lv_istore_n (lv' := [(2, .int (x2 - x3)), (4, .int r7), (3, .int x3)]) hx hb dL_cutTo_64 rfl hl (by decide) rfl (fun ls hl => ?_)
                refine lv_goto (tgt := 7) hx hb dL_cutTo_65 rfl ?_
                exact ih (x2 - x3) x3 r7 out hrun K _ (lv_sub hl [0, 2, 1] rfl)
            · have hrun := p_neg hrun c6
              refine lv_iconst (v := 1) hx hb dL_cutTo_46 rfl ?_
              refine lv_goto (tgt := 51) hx hb dL_cutTo_47 rfl ?_
              obtain ⟨r9, h_r9, hrun⟩ := p_bnd hrun
              refine jSS_i (rest := []) C (c_with h_r9) gL_cutTo_L_with hd_with rfl ⟨rfl, rfl⟩ ⟨Nat.le_of_ble_eq_true rfl, Nat.le_of_ble_eq_true rfl⟩ rfl hl.1 rfl (Nat.le_of_ble_eq_true rfl) ⟨Nat.le_of_ble_eq_true rfl, Nat.le_of_ble_eq_true rfl⟩ dL_cutTo_51 ?_
              refine lv_istore (lv' := [(4, .int r9), (2, .int x2), (3, .int x3)]) hx hb dL_cutTo_54 hl (by decide) rfl (fun ls hl => ?_)
              refine lv_iload_n hx hb dL_cutTo_56 rfl (lv_at hl 1 rfl) ?_
              refine lv_iload_n hx hb dL_cutTo_57 rfl (lv_at hl 2 rfl) ?_
              refine lv_icmp_le (tgt := 68) hx hb dL_cutTo_58 rfl (fun c10 => ?_) (fun c10 => ?_)
              · have hrun := p_pos hrun c10
                refine lv_iload_n hx hb dL_cutTo_68 rfl (lv_at hl 2 rfl) ?_
                refine lv_iload_n hx hb dL_cutTo_69 rfl (lv_at hl 1 rfl) ?_
                refine lv_isub hx hb dL_cutTo_70 ?_
                refine lv_istore_n (lv' := [(3, .int (x3 - x2)), (4, .int r9), (2, .int x2)]) hx hb dL_cutTo_71 rfl hl (by decide) rfl (fun ls hl => ?_)
                refine lv_goto (tgt := 7) hx hb dL_cutTo_72 rfl ?_
                exact ih x2 (x3 - x2) r9 out hrun K _ (lv_sub hl [2, 0, 1] rfl)
              · have hrun := p_neg hrun c10
                refine lv_iload_n hx hb dL_cutTo_61 rfl (lv_at hl 1 rfl) ?_
                refine lv_iload_n hx hb dL_cutTo_62 rfl (lv_at hl 2 rfl) ?_
                refine lv_isub hx hb dL_cutTo_63 ?_
                refine lv_istore_n (lv' := [(2, .int (x2 - x3)), (4, .int r9), (3, .int x3)]) hx hb dL_cutTo_64 rfl hl (by decide) rfl (fun ls hl => ?_)
                refine lv_goto (tgt := 7) hx hb dL_cutTo_65 rfl ?_
                exact ih (x2 - x3) x3 r9 out hrun K _ (lv_sub hl [0, 2, 1] rfl)
          · have hrun := p_neg hrun c5
            refine lv_iload hx hb dL_cutTo_32 (lv_at hl 2 rfl) ?_
            refine lv_iconst (v := 1) hx hb dL_cutTo_34 rfl ?_
            refine lv_iadd hx hb dL_cutTo_35 ?_
            refine lv_goto (tgt := 54) hx hb dL_cutTo_36 rfl ?_
            refine lv_istore (lv' := [(4, .int (x4 + 1)), (2, .int x2), (3, .int x3)]) hx hb dL_cutTo_54 hl (by decide) rfl (fun ls hl => ?_)
            refine lv_iload_n hx hb dL_cutTo_56 rfl (lv_at hl 1 rfl) ?_
            refine lv_iload_n hx hb dL_cutTo_57 rfl (lv_at hl 2 rfl) ?_
            refine lv_icmp_le (tgt := 68) hx hb dL_cutTo_58 rfl (fun c11 => ?_) (fun c11 => ?_)
            · have hrun := p_pos hrun c11
              refine lv_iload_n hx hb dL_cutTo_68 rfl (lv_at hl 2 rfl) ?_
              refine lv_iload_n hx hb dL_cutTo_69 rfl (lv_at hl 1 rfl) ?_
              refine lv_isub hx hb dL_cutTo_70 ?_
              refine lv_istore_n (lv' := [(3, .int (x3 - x2)), (4, .int (x4 + 1)), (2, .int x2)]) hx hb dL_cutTo_71 rfl hl (by decide) rfl (fun ls hl => ?_)
              refine lv_goto (tgt := 7) hx hb dL_cutTo_72 rfl ?_
              exact ih x2 (x3 - x2) (x4 + 1) out hrun K _ (lv_sub hl [2, 0, 1] rfl)
            · have hrun := p_neg hrun c11
              refine lv_iload_n hx hb dL_cutTo_61 rfl (lv_at hl 1 rfl) ?_
              refine lv_iload_n hx hb dL_cutTo_62 rfl (lv_at hl 2 rfl) ?_
              refine lv_isub hx hb dL_cutTo_63 ?_
              refine lv_istore_n (lv' := [(2, .int (x2 - x3)), (4, .int (x4 + 1)), (3, .int x3)]) hx hb dL_cutTo_64 rfl hl (by decide) rfl (fun ls hl => ?_)
              refine lv_goto (tgt := 7) hx hb dL_cutTo_65 rfl ?_
              exact ih (x2 - x3) x3 (x4 + 1) out hrun K _ (lv_sub hl [0, 2, 1] rfl)
  unfold P_cutTo at hrun
  refine lv_iload_n hx hb dL_cutTo_0 rfl (lv_at hl 0 rfl) ?_
  refine lv_istore_n (lv' := [(2, .int x0), (0, .int x0), (1, .int x1)]) hx hb dL_cutTo_1 rfl hl (by decide) rfl (fun ls hl => ?_)
  refine lv_iload_n hx hb dL_cutTo_2 rfl (lv_at hl 2 rfl) ?_
  refine lv_istore_n (lv' := [(3, .int x1), (2, .int x0), (0, .int x0), (1, .int x1)]) hx hb dL_cutTo_3 rfl hl (by decide) rfl (fun ls hl => ?_)
  refine lv_iconst (v := 0) hx hb dL_cutTo_4 rfl ?_
  refine lv_istore (lv' := [(4, .int 0), (3, .int x1), (2, .int x0), (0, .int x0), (1, .int x1)]) hx hb dL_cutTo_5 hl (by decide) rfl (fun ls hl => ?_)
  obtain ⟨o12, h_o12, hrun⟩ := p_bnd hrun
  refine loop_7 FU x0 x1 0 o12 h_o12 (fun ls hl => ?_) _ (lv_sub hl [2, 1, 0] rfl)
  refine lv_iload hx hb dL_cutTo_75 (lv_at hl 0 rfl) ?_
  cases hrun
  exact rS_i C hr hlk hQ (nbi _) rfl dL_cutTo_77

end Z96
