set_option maxHeartbeats 4000000 in
set_option maxRecDepth 100000 in
theorem c_X5_faultPlace (G : GT) (tp : Nat) (tn : Nat) (tl : Nat) (ts : Nat → Int32) (hn : tn ≤ 300) (l : Launch) : CT l G yX5_faultPlace cX5_faultPlace 7 (some .int) { frames := 2, cells := 0, slots := 0, locals := 42 } [.ref tp] [(tp, .inr (5, [.int (nI tn), .ref tl])), (tl, ia G 300 ts)] (fun vv ww => vv = some (.int (optI (rdR ts tn))) ∧ ww = [(tp, .inr (5, [.int (nI tn), .ref tl])), (tl, ia G 300 ts)]) := by
  refine CT.of (lv := [(0, .ref tp)]) RX5 "faultPlace" rfl rfl (by decide +kernel) (Nat.le_of_ble_eq_true rfl) rfl (fun X hX hR => ?_)
  refine j_iconstN (pc := 0) (j := 1) hX dX5_faultPlace_0 rfl ?_
  refine j_istore_n (pc := 1) (lv' := [(1, .int (nI 1)), (0, .ref tp)]) hX dX5_faultPlace_1 (by decide) rfl ?_
  refine j_bipush (pc := 2) (v := nI 16) hX dX5_faultPlace_2 (by decide) ?_
  refine j_istore_n (pc := 4) (lv' := [(2, .int (nI 16)), (1, .int (nI 1)), (0, .ref tp)]) hX dX5_faultPlace_4 (by decide) rfl ?_
  refine j_iconstN (pc := 5) (j := 0) hX dX5_faultPlace_5 rfl ?_
  refine j_istore_n (pc := 6) (lv' := [(3, .int (nI 0)), (2, .int (nI 16)), (1, .int (nI 1)), (0, .ref tp)]) hX dX5_faultPlace_6 (by decide) rfl ?_
  refine j_iconstN (pc := 7) (j := 0) hX dX5_faultPlace_7 rfl ?_
  refine j_istore (pc := 8) (lv' := [(4, .int (nI 0)), (3, .int (nI 0)), (2, .int (nI 16)), (1, .int (nI 1)), (0, .ref tp)]) hX dX5_faultPlace_8 (by decide) rfl ?_
  refine j_iconstN (pc := 10) (j := 0) hX dX5_faultPlace_10 rfl ?_
  refine j_istore (pc := 11) (lv' := [(5, .int (nI 0)), (4, .int (nI 0)), (3, .int (nI 0)), (2, .int (nI 16)), (1, .int (nI 1)), (0, .ref tp)]) hX dX5_faultPlace_11 (by decide) rfl ?_
  have L13 : ∀ (m13 : Nat) (i sh lo2 row col : Nat) (g2 : Nat → Int32) (hi : i ≤ tn) (hrow : row ≤ 15 ∧ sh ≤ 16 ∧ lo2 ≤ 16 ∧ col ≤ 16) (hS : rdS ts i = some (sh, lo2, row, col, g2)), tn - i < m13 → J X G 7 0 0 [(tp, .inr (5, [.int (nI tn), .ref tl])), (tl, ia G 300 ts)] [(0, .ref tp), (1, .int (nI sh)), (2, .int (nI lo2)), (3, .int (nI row)), (4, .int (nI col)), (5, .int (nI i))] 13 [] := by
    intro m13
    induction m13 with
    | zero => intro i sh lo2 row col g2 hi hrow hS hm13; exact absurd hm13 (Nat.not_lt_zero _)
    | succ m13 ih13 =>
      intro i sh lo2 row col g2 hi hrow hS hm13
      refine j_iload (pc := 13) hX dX5_faultPlace_13 5 rfl ?_
      refine j_aload_n (pc := 15) hX dX5_faultPlace_15 0 rfl ?_
      refine j_get (pc := 16) hX f_RX5_9 0 rfl rfl dX5_faultPlace_16 ?_
      refine j_icmp_ge (pc := 19) (tgt := 99) hX dX5_faultPlace_19 (by decide) (nI_toInt (n := i) (by omega)) (nI_toInt (n := tn) (by omega)) (fun c19 => ?_) (fun c19 => ?_)
      · skip
        refine j_iload (pc := 99) hX dX5_faultPlace_99 4 rfl ?_
        refine j_iload_n (pc := 101) hX dX5_faultPlace_101 1 rfl ?_
        refine j_icmp_ge (pc := 102) (tgt := 112) hX dX5_faultPlace_102 (by decide) (nI_toInt (n := col) (by omega)) (nI_toInt (n := sh) (by omega)) (fun c102 => ?_) (fun c102 => ?_)
        · skip
          refine j_bipush (pc := 112) (v := (-5)) hX dX5_faultPlace_112 (by decide) ?_
          exact j_iret (pc := 114) hX hR dX5_faultPlace_114 ⟨congrArg some (show Value.int (-5) = Value.int (optI (rdR ts tn)) from by have hE : tn = i := (by omega); subst hE; first | (rw [rdR_B hS (by simp only; omega)]; rfl) | (rw [rdR_C hS (by simp only; omega)]; rfl)), rfl⟩
        · skip
          refine j_aload_n (pc := 105) hX dX5_faultPlace_105 0 rfl ?_
          refine j_get (pc := 106) hX f_RX5_9 0 rfl rfl dX5_faultPlace_106 ?_
          refine j_goto (pc := 109) (tgt := 114) hX dX5_faultPlace_109 (by decide) ?_
          exact j_iret (pc := 114) hX hR dX5_faultPlace_114 ⟨congrArg some (show Value.int (nI tn) = Value.int (optI (rdR ts tn)) from by have hE : tn = i := (by omega); subst hE; first | (rw [rdR_B hS (by simp only; omega)]; rfl) | (rw [rdR_C hS (by simp only; omega)]; rfl)), rfl⟩
      · skip
        refine j_aload_n (pc := 22) hX dX5_faultPlace_22 0 rfl ?_
        refine j_iload (pc := 23) hX dX5_faultPlace_23 5 rfl ?_
        refine j_callV (pc := 25) hX kX5_byteAt kVX5_byteAt l_RX5_37 (fun l => c_X5_byteAt G tp tl 300 tn ts i (by omega) (by omega) l) [0, 1] [] [] rfl 0 5 rfl rfl rfl rfl rfl rfl ⟨rfl, rfl, by decide⟩ rfl rfl (Nat.le_of_ble_eq_true rfl) dX5_faultPlace_25 (fun v w hq => ?_)
        obtain ⟨rfl, rfl⟩ := hq
        refine j_ws [0, 1] (ws' := [(tp, .inr (5, [.int (nI tn), .ref tl])), (tl, ia G 300 ts)]) rfl rfl ?_
        refine j_istore (pc := 28) (lv' := [(6, .int (ts i)), (0, .ref tp), (1, .int (nI sh)), (2, .int (nI lo2)), (3, .int (nI row)), (4, .int (nI col)), (5, .int (nI i))]) hX dX5_faultPlace_28 (by decide) rfl ?_
        refine j_iload (pc := 30) hX dX5_faultPlace_30 0 rfl ?_
        refine j_bipush (pc := 32) (v := nI 47) hX dX5_faultPlace_32 (by decide) ?_
        refine j_icmp_ne (pc := 34) (tgt := 67) hX dX5_faultPlace_34 (by decide) rfl (nI_toInt (n := 47) (by decide)) (fun c34 => ?_) (fun c34 => ?_)
        · skip
          have c34 : (ts i).toInt ≠ 47 := c34
          refine j_iload (pc := 67) hX dX5_faultPlace_67 0 rfl ?_
          refine j_bipush (pc := 69) (v := nI 46) hX dX5_faultPlace_69 (by decide) ?_
          refine j_icmp_eq (pc := 71) (tgt := 81) hX dX5_faultPlace_71 (by decide) rfl (nI_toInt (n := 46) (by decide)) (fun c71 => ?_) (fun c71 => ?_)
          · skip
            have c71 : (ts i).toInt = 46 := c71
            refine j_iload (pc := 81) hX dX5_faultPlace_81 5 rfl ?_
            refine j_iload_n (pc := 83) hX dX5_faultPlace_83 3 rfl ?_
            refine j_icmp_ne (pc := 84) (tgt := 90) hX dX5_faultPlace_84 (by decide) (nI_toInt (n := col) (by omega)) (nI_toInt (n := lo2) (by omega)) (fun c84 => ?_) (fun c84 => ?_)
            · skip
              have hS2 : rdS ts (i + 1) = some (sh, lo2, row, col + 1, if (ts i).toInt = 35 then flp 16 16 g2 col row else g2) := by rw [rdS_s hS]; unfold rd1; rw [if_neg c34]; exact if_neg (by simp only; omega)
              have hvv := (rdV_all hS2).1
              simp only at hvv
              refine j_iinc (pc := 90) (q := 5) (v := nI (col + 1)) (lv' := [(4, .int (nI (col + 1))), (6, .int (ts i)), (0, .ref tp), (1, .int (nI sh)), (2, .int (nI lo2)), (3, .int (nI row)), (5, .int (nI i))]) hX dX5_faultPlace_90 rfl (nI_inc _ 1) (by decide) rfl ?_
              refine j_iinc (pc := 93) (q := 6) (v := nI (i + 1)) (lv' := [(5, .int (nI (i + 1))), (4, .int (nI (col + 1))), (6, .int (ts i)), (0, .ref tp), (1, .int (nI sh)), (2, .int (nI lo2)), (3, .int (nI row))]) hX dX5_faultPlace_93 rfl (nI_inc _ 1) (by decide) rfl ?_
              refine j_goto (pc := 96) (tgt := 13) hX dX5_faultPlace_96 (by decide) ?_
              refine j_lv [3, 4, 5, 6, 1, 0] (lv' := [(0, .ref tp), (1, .int (nI sh)), (2, .int (nI lo2)), (3, .int (nI row)), (4, .int (nI (col + 1))), (5, .int (nI (i + 1)))]) rfl ?_
              exact ih13 (i + 1) sh lo2 row (col + 1) (if (ts i).toInt = 35 then flp 16 16 g2 col row else g2) (by omega) (by omega) (hS2) (by omega)
            · skip
              refine j_iload (pc := 87) hX dX5_faultPlace_87 6 rfl ?_
              exact j_iret (pc := 89) hX hR dX5_faultPlace_89 ⟨congrArg some (show Value.int (nI i) = Value.int (optI (rdR ts tn)) from by rw [rdR_A (s := (sh, lo2, row, col, g2)) (by omega) hS (by unfold rd1; rw [if_neg c34]; exact if_pos (by simp only; omega))]; rfl), rfl⟩
          · skip
            have c71 : (ts i).toInt ≠ 46 := c71
            refine j_iload (pc := 74) hX dX5_faultPlace_74 0 rfl ?_
            refine j_bipush (pc := 76) (v := nI 35) hX dX5_faultPlace_76 (by decide) ?_
            refine j_icmp_ne (pc := 78) (tgt := 87) hX dX5_faultPlace_78 (by decide) rfl (nI_toInt (n := 35) (by decide)) (fun c78 => ?_) (fun c78 => ?_)
            · skip
              have c78 : (ts i).toInt ≠ 35 := c78
              refine j_iload (pc := 87) hX dX5_faultPlace_87 6 rfl ?_
              exact j_iret (pc := 89) hX hR dX5_faultPlace_89 ⟨congrArg some (show Value.int (nI i) = Value.int (optI (rdR ts tn)) from by rw [rdR_A (s := (sh, lo2, row, col, g2)) (by omega) hS (by unfold rd1; rw [if_neg c34]; exact if_pos (by simp only; omega))]; rfl), rfl⟩
            · skip
              have c78 : (ts i).toInt = 35 := c78
              refine j_iload (pc := 81) hX dX5_faultPlace_81 5 rfl ?_
              refine j_iload_n (pc := 83) hX dX5_faultPlace_83 3 rfl ?_
              refine j_icmp_ne (pc := 84) (tgt := 90) hX dX5_faultPlace_84 (by decide) (nI_toInt (n := col) (by omega)) (nI_toInt (n := lo2) (by omega)) (fun c84 => ?_) (fun c84 => ?_)
              · skip
                have hS2 : rdS ts (i + 1) = some (sh, lo2, row, col + 1, if (ts i).toInt = 35 then flp 16 16 g2 col row else g2) := by rw [rdS_s hS]; unfold rd1; rw [if_neg c34]; exact if_neg (by simp only; omega)
                have hvv := (rdV_all hS2).1
                simp only at hvv
                refine j_iinc (pc := 90) (q := 5) (v := nI (col + 1)) (lv' := [(4, .int (nI (col + 1))), (6, .int (ts i)), (0, .ref tp), (1, .int (nI sh)), (2, .int (nI lo2)), (3, .int (nI row)), (5, .int (nI i))]) hX dX5_faultPlace_90 rfl (nI_inc _ 1) (by decide) rfl ?_
                refine j_iinc (pc := 93) (q := 6) (v := nI (i + 1)) (lv' := [(5, .int (nI (i + 1))), (4, .int (nI (col + 1))), (6, .int (ts i)), (0, .ref tp), (1, .int (nI sh)), (2, .int (nI lo2)), (3, .int (nI row))]) hX dX5_faultPlace_93 rfl (nI_inc _ 1) (by decide) rfl ?_
                refine j_goto (pc := 96) (tgt := 13) hX dX5_faultPlace_96 (by decide) ?_
                refine j_lv [3, 4, 5, 6, 1, 0] (lv' := [(0, .ref tp), (1, .int (nI sh)), (2, .int (nI lo2)), (3, .int (nI row)), (4, .int (nI (col + 1))), (5, .int (nI (i + 1)))]) rfl ?_
                exact ih13 (i + 1) sh lo2 row (col + 1) (if (ts i).toInt = 35 then flp 16 16 g2 col row else g2) (by omega) (by omega) (hS2) (by omega)
              · skip
                refine j_iload (pc := 87) hX dX5_faultPlace_87 6 rfl ?_
                exact j_iret (pc := 89) hX hR dX5_faultPlace_89 ⟨congrArg some (show Value.int (nI i) = Value.int (optI (rdR ts tn)) from by rw [rdR_A (s := (sh, lo2, row, col, g2)) (by omega) hS (by unfold rd1; rw [if_neg c34]; exact if_pos (by simp only; omega))]; rfl), rfl⟩
        · skip
          have c34 : (ts i).toInt = 47 := c34
          refine j_iload (pc := 37) hX dX5_faultPlace_37 5 rfl ?_
          refine j_iload_n (pc := 39) hX dX5_faultPlace_39 2 rfl ?_
          refine j_icmp_lt (pc := 40) (tgt := 49) hX dX5_faultPlace_40 (by decide) (nI_toInt (n := col) (by omega)) (nI_toInt (n := sh) (by omega)) (fun c40 => ?_) (fun c40 => ?_)
          · skip
            refine j_iload (pc := 49) hX dX5_faultPlace_49 6 rfl ?_
            exact j_iret (pc := 51) hX hR dX5_faultPlace_51 ⟨congrArg some (show Value.int (nI i) = Value.int (optI (rdR ts tn)) from by rw [rdR_A (s := (sh, lo2, row, col, g2)) (by omega) hS (by unfold rd1; rw [if_pos c34]; exact if_pos (by simp only; omega))]; rfl), rfl⟩
          · skip
            refine j_iload_n (pc := 43) hX dX5_faultPlace_43 4 rfl ?_
            refine j_bipush (pc := 44) (v := nI 15) hX dX5_faultPlace_44 (by decide) ?_
            refine j_icmp_ne (pc := 46) (tgt := 52) hX dX5_faultPlace_46 (by decide) (nI_toInt (n := row) (by omega)) (nI_toInt (n := 15) (by decide)) (fun c46 => ?_) (fun c46 => ?_)
            · skip
              have hS2 : rdS ts (i + 1) = some (col, col, row + 1, 0, g2) := by rw [rdS_s hS]; unfold rd1; rw [if_pos c34]; exact if_neg (by simp only; omega)
              have hvv := (rdV_all hS2).1
              simp only at hvv
              refine j_iload (pc := 52) hX dX5_faultPlace_52 5 rfl ?_
              refine j_istore_n (pc := 54) (lv' := [(1, .int (nI col)), (6, .int (ts i)), (0, .ref tp), (2, .int (nI lo2)), (3, .int (nI row)), (4, .int (nI col)), (5, .int (nI i))]) hX dX5_faultPlace_54 (by decide) rfl ?_
              refine j_iload (pc := 55) hX dX5_faultPlace_55 5 rfl ?_
              refine j_istore_n (pc := 57) (lv' := [(2, .int (nI col)), (1, .int (nI col)), (6, .int (ts i)), (0, .ref tp), (3, .int (nI row)), (4, .int (nI col)), (5, .int (nI i))]) hX dX5_faultPlace_57 (by decide) rfl ?_
              refine j_iinc (pc := 58) (q := 4) (v := nI (row + 1)) (lv' := [(3, .int (nI (row + 1))), (2, .int (nI col)), (1, .int (nI col)), (6, .int (ts i)), (0, .ref tp), (4, .int (nI col)), (5, .int (nI i))]) hX dX5_faultPlace_58 rfl (nI_inc _ 1) (by decide) rfl ?_
              refine j_iconstN (pc := 61) (j := 0) hX dX5_faultPlace_61 rfl ?_
              refine j_istore (pc := 62) (lv' := [(4, .int (nI 0)), (3, .int (nI (row + 1))), (2, .int (nI col)), (1, .int (nI col)), (6, .int (ts i)), (0, .ref tp), (5, .int (nI i))]) hX dX5_faultPlace_62 (by decide) rfl ?_
              refine j_goto (pc := 64) (tgt := 93) hX dX5_faultPlace_64 (by decide) ?_
              refine j_iinc (pc := 93) (q := 6) (v := nI (i + 1)) (lv' := [(5, .int (nI (i + 1))), (4, .int (nI 0)), (3, .int (nI (row + 1))), (2, .int (nI col)), (1, .int (nI col)), (6, .int (ts i)), (0, .ref tp)]) hX dX5_faultPlace_93 rfl (nI_inc _ 1) (by decide) rfl ?_
              refine j_goto (pc := 96) (tgt := 13) hX dX5_faultPlace_96 (by decide) ?_
              refine j_lv [6, 4, 3, 2, 1, 0] (lv' := [(0, .ref tp), (1, .int (nI col)), (2, .int (nI col)), (3, .int (nI (row + 1))), (4, .int (nI 0)), (5, .int (nI (i + 1)))]) rfl ?_
              exact ih13 (i + 1) col col (row + 1) 0 g2 (by omega) (by omega) (hS2) (by omega)
            · skip
              refine j_iload (pc := 49) hX dX5_faultPlace_49 6 rfl ?_
              exact j_iret (pc := 51) hX hR dX5_faultPlace_51 ⟨congrArg some (show Value.int (nI i) = Value.int (optI (rdR ts tn)) from by rw [rdR_A (s := (sh, lo2, row, col, g2)) (by omega) hS (by unfold rd1; rw [if_pos c34]; exact if_pos (by simp only; omega))]; rfl), rfl⟩
  refine j_lv [5, 4, 3, 2, 1, 0] (lv' := [(0, .ref tp), (1, .int (nI 1)), (2, .int (nI 16)), (3, .int (nI 0)), (4, .int (nI 0)), (5, .int (nI 0))]) rfl ?_
  exact L13 ((tn - 0) + 1) 0 1 16 0 0 (fun _ => 0) (by omega) (by omega) (rfl) (Nat.lt_succ_self _)
set_option maxHeartbeats 4000000 in
set_option maxRecDepth 100000 in
theorem c_X5_firstRowLength (G : GT) (tp : Nat) (tn : Nat) (tl : Nat) (ts : Nat → Int32) (hn : tn ≤ 300) (l : Launch) : CT l G yX5_firstRowLength cX5_firstRowLength 2 (some .int) { frames := 2, cells := 0, slots := 0, locals := 42 } [.ref tp] [(tp, .inr (5, [.int (nI tn), .ref tl])), (tl, ia G 300 ts)] (fun vv ww => ∃ (rr_ : Nat), vv = some (.int (nI rr_)) ∧ ww = [(tp, .inr (5, [.int (nI tn), .ref tl])), (tl, ia G 300 ts)] ∧ (rr_ ≤ tn) ∧ (∀ z, z < rr_ → (ts z).toInt ≠ 47) ∧ (rr_ < tn → (ts rr_).toInt = 47)) := by
  refine CT.of (lv := [(0, .ref tp)]) RX5 "firstRowLength" rfl rfl (by decide +kernel) (Nat.le_of_ble_eq_true rfl) rfl (fun X hX hR => ?_)
  refine j_iconstN (pc := 0) (j := 0) hX dX5_firstRowLength_0 rfl ?_
  refine j_istore_n (pc := 1) (lv' := [(1, .int (nI 0)), (0, .ref tp)]) hX dX5_firstRowLength_1 (by decide) rfl ?_
  have L2 : ∀ (m2 : Nat) (i : Nat) (hi : i ≤ tn) (hno : ∀ z, z < i → (ts z).toInt ≠ 47), tn - i < m2 → J X G 2 0 0 [(tp, .inr (5, [.int (nI tn), .ref tl])), (tl, ia G 300 ts)] [(0, .ref tp), (1, .int (nI i))] 2 [] := by
    intro m2
    induction m2 with
    | zero => intro i hi hno hm2; exact absurd hm2 (Nat.not_lt_zero _)
    | succ m2 ih2 =>
      intro i hi hno hm2
      refine j_iload_n (pc := 2) hX dX5_firstRowLength_2 1 rfl ?_
      refine j_aload_n (pc := 3) hX dX5_firstRowLength_3 0 rfl ?_
      refine j_get (pc := 4) hX f_RX5_9 0 rfl rfl dX5_firstRowLength_4 ?_
      refine j_icmp_ge (pc := 7) (tgt := 28) hX dX5_firstRowLength_7 (by decide) (nI_toInt (n := i) (by omega)) (nI_toInt (n := tn) (by omega)) (fun c7 => ?_) (fun c7 => ?_)
      · skip
        refine j_aload_n (pc := 28) hX dX5_firstRowLength_28 0 rfl ?_
        refine j_get (pc := 29) hX f_RX5_9 0 rfl rfl dX5_firstRowLength_29 ?_
        exact j_iret (pc := 32) hX hR dX5_firstRowLength_32 ⟨tn, rfl, rfl, (by omega), (fun z hz => hno z (by omega)), (fun h => absurd h (by omega))⟩
      · skip
        refine j_aload_n (pc := 10) hX dX5_firstRowLength_10 0 rfl ?_
        refine j_iload_n (pc := 11) hX dX5_firstRowLength_11 1 rfl ?_
        refine j_callV (pc := 12) hX kX5_byteAt kVX5_byteAt l_RX5_37 (fun l => c_X5_byteAt G tp tl 300 tn ts i (by omega) (by omega) l) [0, 1] [] [] rfl 0 5 rfl rfl rfl rfl rfl rfl ⟨rfl, rfl, by decide⟩ rfl rfl (Nat.le_of_ble_eq_true rfl) dX5_firstRowLength_12 (fun v w hq => ?_)
        obtain ⟨rfl, rfl⟩ := hq
        refine j_ws [0, 1] (ws' := [(tp, .inr (5, [.int (nI tn), .ref tl])), (tl, ia G 300 ts)]) rfl rfl ?_
        refine j_bipush (pc := 15) (v := nI 47) hX dX5_firstRowLength_15 (by decide) ?_
        refine j_icmp_ne (pc := 17) (tgt := 22) hX dX5_firstRowLength_17 (by decide) rfl (nI_toInt (n := 47) (by decide)) (fun c17 => ?_) (fun c17 => ?_)
        · skip
          refine j_iinc (pc := 22) (q := 1) (v := nI (i + 1)) (lv' := [(1, .int (nI (i + 1))), (0, .ref tp)]) hX dX5_firstRowLength_22 rfl (nI_inc _ 1) (by decide) rfl ?_
          refine j_goto (pc := 25) (tgt := 2) hX dX5_firstRowLength_25 (by decide) ?_
          refine j_lv [1, 0] (lv' := [(0, .ref tp), (1, .int (nI (i + 1)))]) rfl ?_
          exact ih2 (i + 1) (by omega) (lt_s hno c17) (by omega)
        · skip
          refine j_iload_n (pc := 20) hX dX5_firstRowLength_20 1 rfl ?_
          exact j_iret (pc := 21) hX hR dX5_firstRowLength_21 ⟨i, rfl, rfl, (by omega), (hno), (fun _ => c17)⟩
  refine j_lv [1, 0] (lv' := [(0, .ref tp), (1, .int (nI 0))]) rfl ?_
  exact L2 ((tn - 0) + 1) 0 (by omega) (fun z hz => absurd hz (Nat.not_lt_zero _)) (Nat.lt_succ_self _)
set_option maxHeartbeats 4000000 in
set_option maxRecDepth 100000 in
theorem c_X5_howManyRows (G : GT) (tp : Nat) (tn : Nat) (tl : Nat) (ts : Nat → Int32) (hn : tn ≤ 300) (l : Launch) : CT l G yX5_howManyRows cX5_howManyRows 3 (some .int) { frames := 2, cells := 0, slots := 0, locals := 42 } [.ref tp] [(tp, .inr (5, [.int (nI tn), .ref tl])), (tl, ia G 300 ts)] (fun vv ww => vv = some (.int (nI (1 + sl ts tn))) ∧ ww = [(tp, .inr (5, [.int (nI tn), .ref tl])), (tl, ia G 300 ts)]) := by
  refine CT.of (lv := [(0, .ref tp)]) RX5 "howManyRows" rfl rfl (by decide +kernel) (Nat.le_of_ble_eq_true rfl) rfl (fun X hX hR => ?_)
  refine j_iconstN (pc := 0) (j := 1) hX dX5_howManyRows_0 rfl ?_
  refine j_istore_n (pc := 1) (lv' := [(1, .int (nI 1)), (0, .ref tp)]) hX dX5_howManyRows_1 (by decide) rfl ?_
  refine j_iconstN (pc := 2) (j := 0) hX dX5_howManyRows_2 rfl ?_
  refine j_istore_n (pc := 3) (lv' := [(2, .int (nI 0)), (1, .int (nI 1)), (0, .ref tp)]) hX dX5_howManyRows_3 (by decide) rfl ?_
  have L4 : ∀ (m4 : Nat) (i n : Nat) (hi : i ≤ tn) (hs : n = 1 + sl ts i), tn - i < m4 → J X G 3 0 0 [(tp, .inr (5, [.int (nI tn), .ref tl])), (tl, ia G 300 ts)] [(0, .ref tp), (1, .int (nI n)), (2, .int (nI i))] 4 [] := by
    intro m4
    induction m4 with
    | zero => intro i n hi hs hm4; exact absurd hm4 (Nat.not_lt_zero _)
    | succ m4 ih4 =>
      intro i n hi hs hm4
      refine j_iload_n (pc := 4) hX dX5_howManyRows_4 2 rfl ?_
      refine j_aload_n (pc := 5) hX dX5_howManyRows_5 0 rfl ?_
      refine j_get (pc := 6) hX f_RX5_9 0 rfl rfl dX5_howManyRows_6 ?_
      refine j_icmp_ge (pc := 9) (tgt := 31) hX dX5_howManyRows_9 (by decide) (nI_toInt (n := i) (by omega)) (nI_toInt (n := tn) (by omega)) (fun c9 => ?_) (fun c9 => ?_)
      · skip
        refine j_iload_n (pc := 31) hX dX5_howManyRows_31 1 rfl ?_
        exact j_iret (pc := 32) hX hR dX5_howManyRows_32 ⟨congrArg some (show Value.int (nI n) = Value.int (nI (1 + sl ts tn)) from by rw [hs, show i = tn from by omega]), rfl⟩
      · skip
        refine j_aload_n (pc := 12) hX dX5_howManyRows_12 0 rfl ?_
        refine j_iload_n (pc := 13) hX dX5_howManyRows_13 2 rfl ?_
        refine j_callV (pc := 14) hX kX5_byteAt kVX5_byteAt l_RX5_37 (fun l => c_X5_byteAt G tp tl 300 tn ts i (by omega) (by omega) l) [0, 1] [] [] rfl 0 5 rfl rfl rfl rfl rfl rfl ⟨rfl, rfl, by decide⟩ rfl rfl (Nat.le_of_ble_eq_true rfl) dX5_howManyRows_14 (fun v w hq => ?_)
        obtain ⟨rfl, rfl⟩ := hq
        refine j_ws [0, 1] (ws' := [(tp, .inr (5, [.int (nI tn), .ref tl])), (tl, ia G 300 ts)]) rfl rfl ?_
        refine j_bipush (pc := 17) (v := nI 47) hX dX5_howManyRows_17 (by decide) ?_
        refine j_icmp_ne (pc := 19) (tgt := 25) hX dX5_howManyRows_19 (by decide) rfl (nI_toInt (n := 47) (by decide)) (fun c19 => ?_) (fun c19 => ?_)
        · skip
          have c19 : (ts i).toInt ≠ 47 := c19
          refine j_iinc (pc := 25) (q := 2) (v := nI (i + 1)) (lv' := [(2, .int (nI (i + 1))), (0, .ref tp), (1, .int (nI n))]) hX dX5_howManyRows_25 rfl (nI_inc _ 1) (by decide) rfl ?_
          refine j_goto (pc := 28) (tgt := 4) hX dX5_howManyRows_28 (by decide) ?_
          refine j_lv [1, 2, 0] (lv' := [(0, .ref tp), (1, .int (nI n)), (2, .int (nI (i + 1)))]) rfl ?_
          exact ih4 (i + 1) n (by omega) (by show _ = 1 + (sl ts i + if (ts i).toInt = 47 then 1 else 0); first | (rw [if_pos c19]; omega) | (rw [if_neg c19]; omega)) (by omega)
        · skip
          have c19 : (ts i).toInt = 47 := c19
          refine j_iinc (pc := 22) (q := 1) (v := nI (n + 1)) (lv' := [(1, .int (nI (n + 1))), (0, .ref tp), (2, .int (nI i))]) hX dX5_howManyRows_22 rfl (nI_inc _ 1) (by decide) rfl ?_
          refine j_iinc (pc := 25) (q := 2) (v := nI (i + 1)) (lv' := [(2, .int (nI (i + 1))), (1, .int (nI (n + 1))), (0, .ref tp)]) hX dX5_howManyRows_25 rfl (nI_inc _ 1) (by decide) rfl ?_
          refine j_goto (pc := 28) (tgt := 4) hX dX5_howManyRows_28 (by decide) ?_
          refine j_lv [2, 1, 0] (lv' := [(0, .ref tp), (1, .int (nI (n + 1))), (2, .int (nI (i + 1)))]) rfl ?_
          exact ih4 (i + 1) (n + 1) (by omega) (by show _ = 1 + (sl ts i + if (ts i).toInt = 47 then 1 else 0); first | (rw [if_pos c19]; omega) | (rw [if_neg c19]; omega)) (by omega)
  refine j_lv [2, 1, 0] (lv' := [(0, .ref tp), (1, .int (nI 1)), (2, .int (nI 0))]) rfl ?_
  exact L4 ((tn - 0) + 1) 0 1 (by omega) (rfl) (Nat.lt_succ_self _)
set_option maxHeartbeats 4000000 in
set_option maxRecDepth 100000 in
theorem c_X8_fillFromTape (G : GT) (x : Nat) (nw : Nat) (tk : Nat) (itk : Bool) (ch : Nat) (ah : Nat) (th : Nat) (tp : Nat) (wt : Nat) (rows : Nat) (g : Nat) (ru : Nat) (se : Nat) (ev : Nat) (W : Nat) (H : Nat) (t : Int32) (b : Nat) (f : Nat → Int32) (tn : Nat) (tl : Nat) (ts : Nat → Int32) (hW1 : 2 ≤ W) (hW2 : W ≤ 16) (hH1 : 2 ≤ H) (hH2 : H ≤ 16) (hn : tn ≤ 300) (l : Launch) : CT l G yX8_fillFromTape cX8_fillFromTape 4 none { frames := 2, cells := 0, slots := 0, locals := 44 } [.ref x] [(x, .inr (8, [.ref nw, .ref tk, .int (bI itk), .ref ch, .ref ah, .ref th, .ref tp, .ref wt, .ref rows])), (nw, .inr (7, [.ref g, .ref ru, .ref se, .ref ev])), (g, .inr (1, [.int (nI W), .int (nI H), .int t, .ref b])), (b, ia G 16 f), (tp, .inr (5, [.int (nI tn), .ref tl])), (tl, ia G 300 ts)] (fun vv ww => vv = none ∧ ww = [(x, .inr (8, [.ref nw, .ref tk, .int (bI itk), .ref ch, .ref ah, .ref th, .ref tp, .ref wt, .ref rows])), (nw, .inr (7, [.ref g, .ref ru, .ref se, .ref ev])), (g, .inr (1, [.int (nI W), .int (nI H), .int t, .ref b])), (b, ia G 16 ((flS W H ts f tn).2.2)), (tp, .inr (5, [.int (nI tn), .ref tl])), (tl, ia G 300 ts)]) := by
  refine CT.of (lv := [(0, .ref x)]) RX8 "fillFromTape" rfl rfl (by decide +kernel) (Nat.le_of_ble_eq_true rfl) rfl (fun X hX hR => ?_)
  refine j_iconstN (pc := 0) (j := 0) hX dX8_fillFromTape_0 rfl ?_
  refine j_istore_n (pc := 1) (lv' := [(1, .int (nI 0)), (0, .ref x)]) hX dX8_fillFromTape_1 (by decide) rfl ?_
  refine j_iconstN (pc := 2) (j := 0) hX dX8_fillFromTape_2 rfl ?_
  refine j_istore_n (pc := 3) (lv' := [(2, .int (nI 0)), (1, .int (nI 0)), (0, .ref x)]) hX dX8_fillFromTape_3 (by decide) rfl ?_
  refine j_iconstN (pc := 4) (j := 0) hX dX8_fillFromTape_4 rfl ?_
  refine j_istore_n (pc := 5) (lv' := [(3, .int (nI 0)), (2, .int (nI 0)), (1, .int (nI 0)), (0, .ref x)]) hX dX8_fillFromTape_5 (by decide) rfl ?_
  have L6 : ∀ (m6 : Nat) (i xx yy : Nat) (f3 : Nat → Int32) (hi : i ≤ tn ∧ xx ≤ i ∧ yy ≤ i) (h3 : flS W H ts f i = (xx, yy, f3)), tn - i < m6 → J X G 4 0 0 [(x, .inr (8, [.ref nw, .ref tk, .int (bI itk), .ref ch, .ref ah, .ref th, .ref tp, .ref wt, .ref rows])), (nw, .inr (7, [.ref g, .ref ru, .ref se, .ref ev])), (g, .inr (1, [.int (nI W), .int (nI H), .int t, .ref b])), (b, ia G 16 f3), (tp, .inr (5, [.int (nI tn), .ref tl])), (tl, ia G 300 ts)] [(0, .ref x), (1, .int (nI xx)), (2, .int (nI yy)), (3, .int (nI i))] 6 [] := by
    intro m6
    induction m6 with
    | zero => intro i xx yy f3 hi h3 hm6; exact absurd hm6 (Nat.not_lt_zero _)
    | succ m6 ih6 =>
      intro i xx yy f3 hi h3 hm6
      refine j_iload_n (pc := 6) hX dX8_fillFromTape_6 3 rfl ?_
      refine j_aload_n (pc := 7) hX dX8_fillFromTape_7 0 rfl ?_
      refine j_get (pc := 8) hX f_RX8_51 0 rfl rfl dX8_fillFromTape_8 ?_
      refine j_get (pc := 11) hX f_RX8_234 4 rfl rfl dX8_fillFromTape_11 ?_
      refine j_icmp_ge (pc := 14) (tgt := 72) hX dX8_fillFromTape_14 (by decide) (nI_toInt (n := i) (by omega)) (nI_toInt (n := tn) (by omega)) (fun c14 => ?_) (fun c14 => ?_)
      · skip
        refine j_ia (q0 := 3) (f := f3) (g := (flS W H ts f tn).2.2) rfl (fun z hz => by rw [show tn = i from by omega, h3]) (ws' := [(x, .inr (8, [.ref nw, .ref tk, .int (bI itk), .ref ch, .ref ah, .ref th, .ref tp, .ref wt, .ref rows])), (nw, .inr (7, [.ref g, .ref ru, .ref se, .ref ev])), (g, .inr (1, [.int (nI W), .int (nI H), .int t, .ref b])), (b, ia G 16 ((flS W H ts f tn).2.2)), (tp, .inr (5, [.int (nI tn), .ref tl])), (tl, ia G 300 ts)]) rfl ?_
        exact j_vret (pc := 72) hX hR dX8_fillFromTape_72 ⟨rfl, rfl⟩
      · skip
        refine j_aload_n (pc := 17) hX dX8_fillFromTape_17 0 rfl ?_
        refine j_get (pc := 18) hX f_RX8_51 0 rfl rfl dX8_fillFromTape_18 ?_
        refine j_iload_n (pc := 21) hX dX8_fillFromTape_21 3 rfl ?_
        refine j_callV (pc := 22) hX kX5_byteAt kVX5_byteAt l_RX8_239 (fun l => c_X5_byteAt G tp tl 300 tn ts i (by omega) (by omega) l) [4, 5] [0, 1, 2, 3] [] rfl 0 5 rfl rfl rfl rfl rfl rfl ⟨rfl, rfl, by decide⟩ rfl rfl (Nat.le_of_ble_eq_true rfl) dX8_fillFromTape_22 (fun v w hq => ?_)
        obtain ⟨rfl, rfl⟩ := hq
        refine j_ws [0, 1, 2, 3, 4, 5] (ws' := [(x, .inr (8, [.ref nw, .ref tk, .int (bI itk), .ref ch, .ref ah, .ref th, .ref tp, .ref wt, .ref rows])), (nw, .inr (7, [.ref g, .ref ru, .ref se, .ref ev])), (g, .inr (1, [.int (nI W), .int (nI H), .int t, .ref b])), (b, ia G 16 f3), (tp, .inr (5, [.int (nI tn), .ref tl])), (tl, ia G 300 ts)]) rfl rfl ?_
        refine j_bipush (pc := 25) (v := nI 47) hX dX8_fillFromTape_25 (by decide) ?_
        refine j_icmp_ne (pc := 27) (tgt := 38) hX dX8_fillFromTape_27 (by decide) rfl (nI_toInt (n := 47) (by decide)) (fun c27 => ?_) (fun c27 => ?_)
        · skip
          have c27 : (ts i).toInt ≠ 47 := c27
          refine j_aload_n (pc := 38) hX dX8_fillFromTape_38 0 rfl ?_
          refine j_get (pc := 39) hX f_RX8_51 0 rfl rfl dX8_fillFromTape_39 ?_
          refine j_iload_n (pc := 42) hX dX8_fillFromTape_42 3 rfl ?_
          refine j_callV (pc := 43) hX kX5_byteAt kVX5_byteAt l_RX8_239 (fun l => c_X5_byteAt G tp tl 300 tn ts i (by omega) (by omega) l) [4, 5] [0, 1, 2, 3] [] rfl 0 5 rfl rfl rfl rfl rfl rfl ⟨rfl, rfl, by decide⟩ rfl rfl (Nat.le_of_ble_eq_true rfl) dX8_fillFromTape_43 (fun v w hq => ?_)
          obtain ⟨rfl, rfl⟩ := hq
          refine j_ws [0, 1, 2, 3, 4, 5] (ws' := [(x, .inr (8, [.ref nw, .ref tk, .int (bI itk), .ref ch, .ref ah, .ref th, .ref tp, .ref wt, .ref rows])), (nw, .inr (7, [.ref g, .ref ru, .ref se, .ref ev])), (g, .inr (1, [.int (nI W), .int (nI H), .int t, .ref b])), (b, ia G 16 f3), (tp, .inr (5, [.int (nI tn), .ref tl])), (tl, ia G 300 ts)]) rfl rfl ?_
          refine j_bipush (pc := 46) (v := nI 35) hX dX8_fillFromTape_46 (by decide) ?_
          refine j_icmp_ne (pc := 48) (tgt := 63) hX dX8_fillFromTape_48 (by decide) rfl (nI_toInt (n := 35) (by decide)) (fun c48 => ?_) (fun c48 => ?_)
          · skip
            have c48 : (ts i).toInt ≠ 35 := c48
            refine j_iinc (pc := 63) (q := 1) (v := nI (xx + 1)) (lv' := [(1, .int (nI (xx + 1))), (0, .ref x), (2, .int (nI yy)), (3, .int (nI i))]) hX dX8_fillFromTape_63 rfl (nI_inc _ 1) (by decide) rfl ?_
            refine j_iinc (pc := 66) (q := 3) (v := nI (i + 1)) (lv' := [(3, .int (nI (i + 1))), (1, .int (nI (xx + 1))), (0, .ref x), (2, .int (nI yy))]) hX dX8_fillFromTape_66 rfl (nI_inc _ 1) (by decide) rfl ?_
            refine j_goto (pc := 69) (tgt := 6) hX dX8_fillFromTape_69 (by decide) ?_
            refine j_lv [2, 1, 3, 0] (lv' := [(0, .ref x), (1, .int (nI (xx + 1))), (2, .int (nI yy)), (3, .int (nI (i + 1)))]) rfl ?_
            exact ih6 (i + 1) (xx + 1) yy f3 (by omega) (by show fl1 W H (ts i) (flS W H ts f i) = _; rw [h3]; unfold fl1; first | (rw [if_pos c27]; done) | (rw [if_neg c27, if_pos c48]; done) | (rw [if_neg c27, if_neg c48]; done)) (by omega)
          · skip
            have c48 : (ts i).toInt = 35 := c48
            refine j_aload_n (pc := 51) hX dX8_fillFromTape_51 0 rfl ?_
            refine j_get (pc := 52) hX f_RX8_12 0 rfl rfl dX8_fillFromTape_52 ?_
            refine j_getR (pc := 55) hX f_RX8_69 1 rfl rfl dX8_fillFromTape_55 ?_
            refine j_iload_n (pc := 58) hX dX8_fillFromTape_58 1 rfl ?_
            refine j_iload_n (pc := 59) hX dX8_fillFromTape_59 2 rfl ?_
            refine j_callV (pc := 60) hX kX1_flip kVX1_flip l_RX8_96 (fun l => c_X1_flip G g W H t b f3 xx yy (by omega) (by omega) (by omega) (by omega) (by omega) (by omega) l) [2, 3] [0, 1, 4, 5] [] rfl 0 1 rfl rfl rfl rfl rfl rfl ⟨rfl, rfl, by decide⟩ rfl rfl (Nat.le_of_ble_eq_true rfl) dX8_fillFromTape_60 (fun v w hq => ?_)
            obtain ⟨rfl, rfl⟩ := hq
            refine j_ws [0, 1, 4, 5, 2, 3] (ws' := [(x, .inr (8, [.ref nw, .ref tk, .int (bI itk), .ref ch, .ref ah, .ref th, .ref tp, .ref wt, .ref rows])), (nw, .inr (7, [.ref g, .ref ru, .ref se, .ref ev])), (g, .inr (1, [.int (nI W), .int (nI H), .int t, .ref b])), (b, ia G 16 (flp W H f3 xx yy)), (tp, .inr (5, [.int (nI tn), .ref tl])), (tl, ia G 300 ts)]) rfl rfl ?_
            refine j_iinc (pc := 63) (q := 1) (v := nI (xx + 1)) (lv' := [(1, .int (nI (xx + 1))), (0, .ref x), (2, .int (nI yy)), (3, .int (nI i))]) hX dX8_fillFromTape_63 rfl (nI_inc _ 1) (by decide) rfl ?_
            refine j_iinc (pc := 66) (q := 3) (v := nI (i + 1)) (lv' := [(3, .int (nI (i + 1))), (1, .int (nI (xx + 1))), (0, .ref x), (2, .int (nI yy))]) hX dX8_fillFromTape_66 rfl (nI_inc _ 1) (by decide) rfl ?_
            refine j_goto (pc := 69) (tgt := 6) hX dX8_fillFromTape_69 (by decide) ?_
            refine j_lv [2, 1, 3, 0] (lv' := [(0, .ref x), (1, .int (nI (xx + 1))), (2, .int (nI yy)), (3, .int (nI (i + 1)))]) rfl ?_
            exact ih6 (i + 1) (xx + 1) yy (flp W H f3 xx yy) (by omega) (by show fl1 W H (ts i) (flS W H ts f i) = _; rw [h3]; unfold fl1; first | (rw [if_pos c27]; done) | (rw [if_neg c27, if_pos c48]; done) | (rw [if_neg c27, if_neg c48]; done)) (by omega)
        · skip
          have c27 : (ts i).toInt = 47 := c27
          refine j_iconstN (pc := 30) (j := 0) hX dX8_fillFromTape_30 rfl ?_
          refine j_istore_n (pc := 31) (lv' := [(1, .int (nI 0)), (0, .ref x), (2, .int (nI yy)), (3, .int (nI i))]) hX dX8_fillFromTape_31 (by decide) rfl ?_
          refine j_iinc (pc := 32) (q := 2) (v := nI (yy + 1)) (lv' := [(2, .int (nI (yy + 1))), (1, .int (nI 0)), (0, .ref x), (3, .int (nI i))]) hX dX8_fillFromTape_32 rfl (nI_inc _ 1) (by decide) rfl ?_
          refine j_goto (pc := 35) (tgt := 66) hX dX8_fillFromTape_35 (by decide) ?_
          refine j_iinc (pc := 66) (q := 3) (v := nI (i + 1)) (lv' := [(3, .int (nI (i + 1))), (2, .int (nI (yy + 1))), (1, .int (nI 0)), (0, .ref x)]) hX dX8_fillFromTape_66 rfl (nI_inc _ 1) (by decide) rfl ?_
          refine j_goto (pc := 69) (tgt := 6) hX dX8_fillFromTape_69 (by decide) ?_
          refine j_lv [3, 2, 1, 0] (lv' := [(0, .ref x), (1, .int (nI 0)), (2, .int (nI (yy + 1))), (3, .int (nI (i + 1)))]) rfl ?_
          exact ih6 (i + 1) 0 (yy + 1) f3 (by omega) (by show fl1 W H (ts i) (flS W H ts f i) = _; rw [h3]; unfold fl1; first | (rw [if_pos c27]; done) | (rw [if_neg c27, if_pos c48]; done) | (rw [if_neg c27, if_neg c48]; done)) (by omega)
  refine j_lv [3, 2, 1, 0] (lv' := [(0, .ref x), (1, .int (nI 0)), (2, .int (nI 0)), (3, .int (nI 0))]) rfl ?_
  exact L6 ((tn - 0) + 1) 0 0 0 f (by omega) (rfl) (Nat.lt_succ_self _)
set_option maxHeartbeats 4000000 in
set_option maxRecDepth 100000 in
theorem c_X8_readTape_fault (G : GT) (x : Nat) (nw : Nat) (tk : Nat) (itk : Bool) (ch : Nat) (ah : Nat) (th : Nat) (tp : Nat) (wt : Nat) (rows : Nat) (g : Nat) (ru : Nat) (se : Nat) (ev : Nat) (tn : Nat) (tl : Nat) (ts : Nat → Int32) (i : Nat) (hn : tn ≤ 300) (hr : rdR ts tn = some i) (hi : i ≤ 300) (l : Launch) : CT l G yX8_readTape cX8_readTape 4 (some .int) { frames := 3, cells := 0, slots := 0, locals := 68 } [.ref x] [(x, .inr (8, [.ref nw, .ref tk, .int (bI itk), .ref ch, .ref ah, .ref th, .ref tp, .ref wt, .ref rows])), (nw, .inr (7, [.ref g, .ref ru, .ref se, .ref ev])), (tp, .inr (5, [.int (nI tn), .ref tl])), (tl, ia G 300 ts)] (fun vv ww => vv = some (.int ((-100) - nI i)) ∧ ww = [(x, .inr (8, [.ref nw, .ref tk, .int (bI itk), .ref ch, .ref ah, .ref th, .ref tp, .ref wt, .ref rows])), (nw, .inr (7, [.ref g, .ref ru, .ref se, .ref ev])), (tp, .inr (5, [.int (nI tn), .ref tl])), (tl, ia G 300 ts)]) := by
  refine CT.of (lv := [(0, .ref x)]) RX8 "readTape" rfl rfl (by decide +kernel) (Nat.le_of_ble_eq_true rfl) rfl (fun X hX hR => ?_)
  refine j_aload_n (pc := 0) hX dX8_readTape_0 0 rfl ?_
  refine j_get (pc := 1) hX f_RX8_51 0 rfl rfl dX8_readTape_1 ?_
  refine j_callV (pc := 4) hX kX5_faultPlace kVX5_faultPlace l_RX8_302 (fun l => c_X5_faultPlace G tp tn tl ts (by omega) l) [2, 3] [0, 1] [] rfl 0 5 rfl rfl rfl rfl rfl rfl ⟨rfl, rfl, by decide⟩ rfl rfl (Nat.le_of_ble_eq_true rfl) dX8_readTape_4 (fun v w hq => ?_)
  obtain ⟨rfl, rfl⟩ := hq
  refine j_ws [0, 1, 2, 3] (ws' := [(x, .inr (8, [.ref nw, .ref tk, .int (bI itk), .ref ch, .ref ah, .ref th, .ref tp, .ref wt, .ref rows])), (nw, .inr (7, [.ref g, .ref ru, .ref se, .ref ev])), (tp, .inr (5, [.int (nI tn), .ref tl])), (tl, ia G 300 ts)]) rfl rfl ?_
  refine j_topi (y := nI i) (by rw [hr]; rfl) ?_
  refine j_istore_n (pc := 7) (lv' := [(1, .int (nI i)), (0, .ref x)]) hX dX8_readTape_7 (by decide) rfl ?_
  refine j_iload_n (pc := 8) hX dX8_readTape_8 0 rfl ?_
  refine j_if_lt (pc := 9) (tgt := 17) hX dX8_readTape_9 (by decide) (nI_toInt (n := i) (by omega)) (fun c9 => by exfalso; omega) (fun c9 => ?_)
  refine j_bipush (pc := 12) (v := (-100)) hX dX8_readTape_12 (by decide) ?_
  refine j_iload_n (pc := 14) hX dX8_readTape_14 0 rfl ?_
  refine j_isub (pc := 15) hX dX8_readTape_15 ?_
  exact j_iret (pc := 16) hX hR dX8_readTape_16 ⟨congrArg some (show Value.int ((-100) - (nI i)) = Value.int ((-100) - nI i) from by rfl), rfl⟩
set_option maxHeartbeats 4000000 in
set_option maxRecDepth 100000 in
theorem c_X8_readTape_sides (G : GT) (x : Nat) (nw : Nat) (tk : Nat) (itk : Bool) (ch : Nat) (ah : Nat) (th : Nat) (tp : Nat) (wt : Nat) (rows : Nat) (g : Nat) (ru : Nat) (se : Nat) (ev : Nat) (tn : Nat) (tl : Nat) (ts : Nat → Int32) (u : RdT) (hn : tn ≤ 300) (hu : rdS ts tn = some u) (hc : ¬ u.2.2.2.1 < u.1) (hb : (sideB (nI u.2.2.2.1) && sideB (nI (u.2.2.1 + 1))) = false) (l : Launch) : CT l G yX8_readTape cX8_readTape 4 (some .int) { frames := 3, cells := 0, slots := 0, locals := 68 } [.ref x] [(x, .inr (8, [.ref nw, .ref tk, .int (bI itk), .ref ch, .ref ah, .ref th, .ref tp, .ref wt, .ref rows])), (nw, .inr (7, [.ref g, .ref ru, .ref se, .ref ev])), (tp, .inr (5, [.int (nI tn), .ref tl])), (tl, ia G 300 ts)] (fun vv ww => vv = some (.int (-500)) ∧ ww = [(x, .inr (8, [.ref nw, .ref tk, .int (bI itk), .ref ch, .ref ah, .ref th, .ref tp, .ref wt, .ref rows])), (nw, .inr (7, [.ref g, .ref ru, .ref se, .ref ev])), (tp, .inr (5, [.int (nI tn), .ref tl])), (tl, ia G 300 ts)]) := by
  refine CT.of (lv := [(0, .ref x)]) RX8 "readTape" rfl rfl (by decide +kernel) (Nat.le_of_ble_eq_true rfl) rfl (fun X hX hR => ?_)
  have hv := rdV_all hu
  have hv1 := hv.1
  have hr0 : rdR ts tn = none := rdR_C hu hc
  refine j_aload_n (pc := 0) hX dX8_readTape_0 0 rfl ?_
  refine j_get (pc := 1) hX f_RX8_51 0 rfl rfl dX8_readTape_1 ?_
  refine j_callV (pc := 4) hX kX5_faultPlace kVX5_faultPlace l_RX8_302 (fun l => c_X5_faultPlace G tp tn tl ts (by omega) l) [2, 3] [0, 1] [] rfl 0 5 rfl rfl rfl rfl rfl rfl ⟨rfl, rfl, by decide⟩ rfl rfl (Nat.le_of_ble_eq_true rfl) dX8_readTape_4 (fun v w hq => ?_)
  obtain ⟨rfl, rfl⟩ := hq
  refine j_ws [0, 1, 2, 3] (ws' := [(x, .inr (8, [.ref nw, .ref tk, .int (bI itk), .ref ch, .ref ah, .ref th, .ref tp, .ref wt, .ref rows])), (nw, .inr (7, [.ref g, .ref ru, .ref se, .ref ev])), (tp, .inr (5, [.int (nI tn), .ref tl])), (tl, ia G 300 ts)]) rfl rfl ?_
  refine j_topi (y := (-5)) (by rw [hr0]; rfl) ?_
  refine j_istore_n (pc := 7) (lv' := [(1, .int (-5)), (0, .ref x)]) hX dX8_readTape_7 (by decide) rfl ?_
  refine j_iload_n (pc := 8) hX dX8_readTape_8 0 rfl ?_
  refine j_if_lt (pc := 9) (tgt := 17) hX dX8_readTape_9 (by decide) (show ((-5) : Int32).toInt = -5 from by decide) (fun c9 => ?_) (fun c9 => absurd c9 (by decide))
  refine j_aload_n (pc := 17) hX dX8_readTape_17 1 rfl ?_
  refine j_get (pc := 18) hX f_RX8_51 0 rfl rfl dX8_readTape_18 ?_
  refine j_callV (pc := 21) hX kX5_firstRowLength kVX5_firstRowLength l_RX8_305 (fun l => c_X5_firstRowLength G tp tn tl ts (by omega) l) [2, 3] [0, 1] [] rfl 0 5 rfl rfl rfl rfl rfl rfl ⟨rfl, rfl, by decide⟩ rfl rfl (Nat.le_of_ble_eq_true rfl) dX8_readTape_21 (fun v w hq => ?_)
  obtain ⟨rr__21, rfl, rfl, h21_0, h21_1, h21_2⟩ := hq
  refine j_ws [0, 1, 2, 3] (ws' := [(x, .inr (8, [.ref nw, .ref tk, .int (bI itk), .ref ch, .ref ah, .ref th, .ref tp, .ref wt, .ref rows])), (nw, .inr (7, [.ref g, .ref ru, .ref se, .ref ev])), (tp, .inr (5, [.int (nI tn), .ref tl])), (tl, ia G 300 ts)]) rfl rfl ?_
  have hrr : rr__21 = u.2.2.2.1 := rd_frl hu hc h21_0 h21_1 h21_2
  refine j_topi (y := nI u.2.2.2.1) (by rw [hrr]) ?_
  refine j_istore_n (pc := 24) (lv' := [(2, .int (nI u.2.2.2.1)), (1, .int (-5)), (0, .ref x)]) hX dX8_readTape_24 (by decide) rfl ?_
  refine j_aload_n (pc := 25) hX dX8_readTape_25 2 rfl ?_
  refine j_get (pc := 26) hX f_RX8_51 0 rfl rfl dX8_readTape_26 ?_
  refine j_callV (pc := 29) hX kX5_howManyRows kVX5_howManyRows l_RX8_308 (fun l => c_X5_howManyRows G tp tn tl ts (by omega) l) [2, 3] [0, 1] [] rfl 0 5 rfl rfl rfl rfl rfl rfl ⟨rfl, rfl, by decide⟩ rfl rfl (Nat.le_of_ble_eq_true rfl) dX8_readTape_29 (fun v w hq => ?_)
  obtain ⟨rfl, rfl⟩ := hq
  refine j_ws [0, 1, 2, 3] (ws' := [(x, .inr (8, [.ref nw, .ref tk, .int (bI itk), .ref ch, .ref ah, .ref th, .ref tp, .ref wt, .ref rows])), (nw, .inr (7, [.ref g, .ref ru, .ref se, .ref ev])), (tp, .inr (5, [.int (nI tn), .ref tl])), (tl, ia G 300 ts)]) rfl rfl ?_
  refine j_topi (y := nI (u.2.2.1 + 1)) (by rw [hv1.2.2.2.2.2.1, Nat.add_comm]) ?_
  refine j_istore_n (pc := 32) (lv' := [(3, .int (nI (u.2.2.1 + 1))), (2, .int (nI u.2.2.2.1)), (1, .int (-5)), (0, .ref x)]) hX dX8_readTape_32 (by decide) rfl ?_
  refine j_iload_n (pc := 33) hX dX8_readTape_33 1 rfl ?_
  refine j_callS (pc := 34) hX kX8_isSide kSX8_isSide l_RX8_65 (fun l => c_X8_isSide G (nI u.2.2.2.1)  l) [] [0, 1, 2, 3] [] rfl rfl rfl rfl ⟨rfl, rfl, by decide⟩ rfl rfl (Nat.le_of_ble_eq_true rfl) dX8_readTape_34 (fun v w hq => ?_)
  obtain ⟨rfl, rfl⟩ := hq
  refine j_ws [0, 1, 2, 3] (ws' := [(x, .inr (8, [.ref nw, .ref tk, .int (bI itk), .ref ch, .ref ah, .ref th, .ref tp, .ref wt, .ref rows])), (nw, .inr (7, [.ref g, .ref ru, .ref se, .ref ev])), (tp, .inr (5, [.int (nI tn), .ref tl])), (tl, ia G 300 ts)]) rfl rfl ?_
  refine j_ifB_eq (pc := 37) (tgt := 47) hX dX8_readTape_37 (by decide) (fun c37 => ?_) (fun c37 => ?_)
  · skip
    refine j_sipush (pc := 47) (v := (-500)) hX dX8_readTape_47 (by decide) ?_
    exact j_iret (pc := 50) hX hR dX8_readTape_50 ⟨rfl, rfl⟩
  · skip
    refine j_iload_n (pc := 40) hX dX8_readTape_40 0 rfl ?_
    refine j_callS (pc := 41) hX kX8_isSide kSX8_isSide l_RX8_65 (fun l => c_X8_isSide G (nI (u.2.2.1 + 1))  l) [] [0, 1, 2, 3] [] rfl rfl rfl rfl ⟨rfl, rfl, by decide⟩ rfl rfl (Nat.le_of_ble_eq_true rfl) dX8_readTape_41 (fun v w hq => ?_)
    obtain ⟨rfl, rfl⟩ := hq
    refine j_ws [0, 1, 2, 3] (ws' := [(x, .inr (8, [.ref nw, .ref tk, .int (bI itk), .ref ch, .ref ah, .ref th, .ref tp, .ref wt, .ref rows])), (nw, .inr (7, [.ref g, .ref ru, .ref se, .ref ev])), (tp, .inr (5, [.int (nI tn), .ref tl])), (tl, ia G 300 ts)]) rfl rfl ?_
    refine j_ifB_ne (pc := 44) (tgt := 51) hX dX8_readTape_44 (by decide) (fun c44 => by exfalso; rw [c37, c44] at hb; cases hb) (fun c44 => ?_)
    refine j_sipush (pc := 47) (v := (-500)) hX dX8_readTape_47 (by decide) ?_
    exact j_iret (pc := 50) hX hR dX8_readTape_50 ⟨rfl, rfl⟩
set_option maxHeartbeats 4000000 in
set_option maxRecDepth 100000 in
theorem c_X8_readTape_ok (G : GT) (x : Nat) (nw : Nat) (tk : Nat) (itk : Bool) (ch : Nat) (ah : Nat) (th : Nat) (tp : Nat) (wt : Nat) (rows : Nat) (g : Nat) (ru : Nat) (se : Nat) (ev : Nat) (W : Nat) (H : Nat) (t : Int32) (b : Nat) (f : Nat → Int32) (c : Nat) (cn : Nat) (c0 : Nat → Nat) (c1 : Nat → Nat) (c2 : Nat → Int32) (tn : Nat) (tl : Nat) (ts : Nat → Int32) (u : RdT) (hn : tn ≤ 300) (hu : rdS ts tn = some u) (hc : ¬ u.2.2.2.1 < u.1) (hb : (sideB (nI u.2.2.2.1) && sideB (nI (u.2.2.1 + 1))) = true) (l : Launch) : CT l G yX8_readTape cX8_readTape 4 (some .int) { frames := 3, cells := 0, slots := 0, locals := 68 } [.ref x] [(x, .inr (8, [.ref nw, .ref tk, .int (bI itk), .ref ch, .ref ah, .ref th, .ref tp, .ref wt, .ref rows])), (nw, .inr (7, [.ref g, .ref ru, .ref se, .ref ev])), (g, .inr (1, [.int (nI W), .int (nI H), .int t, .ref b])), (b, ia G 16 f), (ch, .inr (4, [.int (nI c), .ref cn])), (cn, ia G (3 * 12) (tab (fun ι => nI (c0 ι)) (fun ι => nI (c1 ι)) c2)), (tp, .inr (5, [.int (nI tn), .ref tl])), (tl, ia G 300 ts)] (fun vv ww => vv = some (.int (nI (cnt u.2.2.2.2 (u.2.2.1 + 1)))) ∧ ww = [(x, .inr (8, [.ref nw, .ref tk, .int (bI itk), .ref ch, .ref ah, .ref th, .ref tp, .ref wt, .ref rows])), (nw, .inr (7, [.ref g, .ref ru, .ref se, .ref ev])), (g, .inr (1, [.int (nI u.2.2.2.1), .int (nI (u.2.2.1 + 1)), .int t, .ref b])), (b, ia G 16 u.2.2.2.2), (ch, .inr (4, [.int (nI 0), .ref cn])), (cn, ia G (3 * 12) (tab (fun ι => nI (c0 ι)) (fun ι => nI (c1 ι)) c2)), (tp, .inr (5, [.int (nI tn), .ref tl])), (tl, ia G 300 ts)]) := by
  refine CT.of (lv := [(0, .ref x)]) RX8 "readTape" rfl rfl (by decide +kernel) (Nat.le_of_ble_eq_true rfl) rfl (fun X hX hR => ?_)
  have hv := rdV_all hu
  have hv1 := hv.1
  have hr0 : rdR ts tn = none := rdR_C hu hc
  have hb := (Bool.and_eq_true _ _).mp hb
  have w1 := of_decide_eq_true hb.1
  have w2 := of_decide_eq_true hb.2
  rw [nI_toInt (by omega)] at w1 w2
  refine j_aload_n (pc := 0) hX dX8_readTape_0 0 rfl ?_
  refine j_get (pc := 1) hX f_RX8_51 0 rfl rfl dX8_readTape_1 ?_
  refine j_callV (pc := 4) hX kX5_faultPlace kVX5_faultPlace l_RX8_302 (fun l => c_X5_faultPlace G tp tn tl ts (by omega) l) [6, 7] [0, 1, 2, 3, 4, 5] [] rfl 0 5 rfl rfl rfl rfl rfl rfl ⟨rfl, rfl, by decide⟩ rfl rfl (Nat.le_of_ble_eq_true rfl) dX8_readTape_4 (fun v w hq => ?_)
  obtain ⟨rfl, rfl⟩ := hq
  refine j_ws [0, 1, 2, 3, 4, 5, 6, 7] (ws' := [(x, .inr (8, [.ref nw, .ref tk, .int (bI itk), .ref ch, .ref ah, .ref th, .ref tp, .ref wt, .ref rows])), (nw, .inr (7, [.ref g, .ref ru, .ref se, .ref ev])), (g, .inr (1, [.int (nI W), .int (nI H), .int t, .ref b])), (b, ia G 16 f), (ch, .inr (4, [.int (nI c), .ref cn])), (cn, ia G (3 * 12) (tab (fun ι => nI (c0 ι)) (fun ι => nI (c1 ι)) c2)), (tp, .inr (5, [.int (nI tn), .ref tl])), (tl, ia G 300 ts)]) rfl rfl ?_
  refine j_topi (y := (-5)) (by rw [hr0]; rfl) ?_
  refine j_istore_n (pc := 7) (lv' := [(1, .int (-5)), (0, .ref x)]) hX dX8_readTape_7 (by decide) rfl ?_
  refine j_iload_n (pc := 8) hX dX8_readTape_8 0 rfl ?_
  refine j_if_lt (pc := 9) (tgt := 17) hX dX8_readTape_9 (by decide) (show ((-5) : Int32).toInt = -5 from by decide) (fun c9 => ?_) (fun c9 => absurd c9 (by decide))
  refine j_aload_n (pc := 17) hX dX8_readTape_17 1 rfl ?_
  refine j_get (pc := 18) hX f_RX8_51 0 rfl rfl dX8_readTape_18 ?_
  refine j_callV (pc := 21) hX kX5_firstRowLength kVX5_firstRowLength l_RX8_305 (fun l => c_X5_firstRowLength G tp tn tl ts (by omega) l) [6, 7] [0, 1, 2, 3, 4, 5] [] rfl 0 5 rfl rfl rfl rfl rfl rfl ⟨rfl, rfl, by decide⟩ rfl rfl (Nat.le_of_ble_eq_true rfl) dX8_readTape_21 (fun v w hq => ?_)
  obtain ⟨rr__21, rfl, rfl, h21_0, h21_1, h21_2⟩ := hq
  refine j_ws [0, 1, 2, 3, 4, 5, 6, 7] (ws' := [(x, .inr (8, [.ref nw, .ref tk, .int (bI itk), .ref ch, .ref ah, .ref th, .ref tp, .ref wt, .ref rows])), (nw, .inr (7, [.ref g, .ref ru, .ref se, .ref ev])), (g, .inr (1, [.int (nI W), .int (nI H), .int t, .ref b])), (b, ia G 16 f), (ch, .inr (4, [.int (nI c), .ref cn])), (cn, ia G (3 * 12) (tab (fun ι => nI (c0 ι)) (fun ι => nI (c1 ι)) c2)), (tp, .inr (5, [.int (nI tn), .ref tl])), (tl, ia G 300 ts)]) rfl rfl ?_
  have hrr : rr__21 = u.2.2.2.1 := rd_frl hu hc h21_0 h21_1 h21_2
  refine j_topi (y := nI u.2.2.2.1) (by rw [hrr]) ?_
  refine j_istore_n (pc := 24) (lv' := [(2, .int (nI u.2.2.2.1)), (1, .int (-5)), (0, .ref x)]) hX dX8_readTape_24 (by decide) rfl ?_
  refine j_aload_n (pc := 25) hX dX8_readTape_25 2 rfl ?_
  refine j_get (pc := 26) hX f_RX8_51 0 rfl rfl dX8_readTape_26 ?_
  refine j_callV (pc := 29) hX kX5_howManyRows kVX5_howManyRows l_RX8_308 (fun l => c_X5_howManyRows G tp tn tl ts (by omega) l) [6, 7] [0, 1, 2, 3, 4, 5] [] rfl 0 5 rfl rfl rfl rfl rfl rfl ⟨rfl, rfl, by decide⟩ rfl rfl (Nat.le_of_ble_eq_true rfl) dX8_readTape_29 (fun v w hq => ?_)
  obtain ⟨rfl, rfl⟩ := hq
  refine j_ws [0, 1, 2, 3, 4, 5, 6, 7] (ws' := [(x, .inr (8, [.ref nw, .ref tk, .int (bI itk), .ref ch, .ref ah, .ref th, .ref tp, .ref wt, .ref rows])), (nw, .inr (7, [.ref g, .ref ru, .ref se, .ref ev])), (g, .inr (1, [.int (nI W), .int (nI H), .int t, .ref b])), (b, ia G 16 f), (ch, .inr (4, [.int (nI c), .ref cn])), (cn, ia G (3 * 12) (tab (fun ι => nI (c0 ι)) (fun ι => nI (c1 ι)) c2)), (tp, .inr (5, [.int (nI tn), .ref tl])), (tl, ia G 300 ts)]) rfl rfl ?_
  refine j_topi (y := nI (u.2.2.1 + 1)) (by rw [hv1.2.2.2.2.2.1, Nat.add_comm]) ?_
  refine j_istore_n (pc := 32) (lv' := [(3, .int (nI (u.2.2.1 + 1))), (2, .int (nI u.2.2.2.1)), (1, .int (-5)), (0, .ref x)]) hX dX8_readTape_32 (by decide) rfl ?_
  refine j_iload_n (pc := 33) hX dX8_readTape_33 1 rfl ?_
  refine j_callS (pc := 34) hX kX8_isSide kSX8_isSide l_RX8_65 (fun l => c_X8_isSide G (nI u.2.2.2.1)  l) [] [0, 1, 2, 3, 4, 5, 6, 7] [] rfl rfl rfl rfl ⟨rfl, rfl, by decide⟩ rfl rfl (Nat.le_of_ble_eq_true rfl) dX8_readTape_34 (fun v w hq => ?_)
  obtain ⟨rfl, rfl⟩ := hq
  refine j_ws [0, 1, 2, 3, 4, 5, 6, 7] (ws' := [(x, .inr (8, [.ref nw, .ref tk, .int (bI itk), .ref ch, .ref ah, .ref th, .ref tp, .ref wt, .ref rows])), (nw, .inr (7, [.ref g, .ref ru, .ref se, .ref ev])), (g, .inr (1, [.int (nI W), .int (nI H), .int t, .ref b])), (b, ia G 16 f), (ch, .inr (4, [.int (nI c), .ref cn])), (cn, ia G (3 * 12) (tab (fun ι => nI (c0 ι)) (fun ι => nI (c1 ι)) c2)), (tp, .inr (5, [.int (nI tn), .ref tl])), (tl, ia G 300 ts)]) rfl rfl ?_
  refine j_ifB_eq (pc := 37) (tgt := 47) hX dX8_readTape_37 (by decide) (fun c37 => by exfalso; rw [hb.1] at c37; cases c37) (fun c37 => ?_)
  refine j_iload_n (pc := 40) hX dX8_readTape_40 0 rfl ?_
  refine j_callS (pc := 41) hX kX8_isSide kSX8_isSide l_RX8_65 (fun l => c_X8_isSide G (nI (u.2.2.1 + 1))  l) [] [0, 1, 2, 3, 4, 5, 6, 7] [] rfl rfl rfl rfl ⟨rfl, rfl, by decide⟩ rfl rfl (Nat.le_of_ble_eq_true rfl) dX8_readTape_41 (fun v w hq => ?_)
  obtain ⟨rfl, rfl⟩ := hq
  refine j_ws [0, 1, 2, 3, 4, 5, 6, 7] (ws' := [(x, .inr (8, [.ref nw, .ref tk, .int (bI itk), .ref ch, .ref ah, .ref th, .ref tp, .ref wt, .ref rows])), (nw, .inr (7, [.ref g, .ref ru, .ref se, .ref ev])), (g, .inr (1, [.int (nI W), .int (nI H), .int t, .ref b])), (b, ia G 16 f), (ch, .inr (4, [.int (nI c), .ref cn])), (cn, ia G (3 * 12) (tab (fun ι => nI (c0 ι)) (fun ι => nI (c1 ι)) c2)), (tp, .inr (5, [.int (nI tn), .ref tl])), (tl, ia G 300 ts)]) rfl rfl ?_
  refine j_ifB_ne (pc := 44) (tgt := 51) hX dX8_readTape_44 (by decide) (fun c44 => ?_) (fun c44 => by exfalso; rw [hb.2] at c44; cases c44)
  refine j_aload_n (pc := 51) hX dX8_readTape_51 3 rfl ?_
  refine j_get (pc := 52) hX f_RX8_12 0 rfl rfl dX8_readTape_52 ?_
  refine j_getR (pc := 55) hX f_RX8_69 1 rfl rfl dX8_readTape_55 ?_
  refine j_iload_n (pc := 58) hX dX8_readTape_58 1 rfl ?_
  refine j_iload_n (pc := 59) hX dX8_readTape_59 0 rfl ?_
  refine j_callV (pc := 60) hX kX1_becomeEmpty kVX1_becomeEmpty l_RX8_82 (fun l => c_X1_becomeEmpty G g W H t b f u.2.2.2.1 (u.2.2.1 + 1)  l) [2, 3] [0, 1, 4, 5, 6, 7] [] rfl 0 1 rfl rfl rfl rfl rfl rfl ⟨rfl, rfl, by decide⟩ rfl rfl (Nat.le_of_ble_eq_true rfl) dX8_readTape_60 (fun v w hq => ?_)
  obtain ⟨rfl, rfl⟩ := hq
  refine j_ws [0, 1, 6, 7, 2, 3, 4, 5] (ws' := [(x, .inr (8, [.ref nw, .ref tk, .int (bI itk), .ref ch, .ref ah, .ref th, .ref tp, .ref wt, .ref rows])), (nw, .inr (7, [.ref g, .ref ru, .ref se, .ref ev])), (g, .inr (1, [.int (nI u.2.2.2.1), .int (nI (u.2.2.1 + 1)), .int t, .ref b])), (b, ia G 16 (fun _ => 0)), (ch, .inr (4, [.int (nI c), .ref cn])), (cn, ia G (3 * 12) (tab (fun ι => nI (c0 ι)) (fun ι => nI (c1 ι)) c2)), (tp, .inr (5, [.int (nI tn), .ref tl])), (tl, ia G 300 ts)]) rfl rfl ?_
  refine j_aload_n (pc := 63) hX dX8_readTape_63 3 rfl ?_
  refine j_callV (pc := 64) hX kX8_fillFromTape kVX8_fillFromTape l_RX8_311 (fun l => c_X8_fillFromTape G x nw tk itk ch ah th tp wt rows g ru se ev u.2.2.2.1 (u.2.2.1 + 1) t b (fun _ => 0) tn tl ts (by omega) (by omega) (by omega) (by omega) (by omega) l) [0, 1, 2, 3, 6, 7] [4, 5] [] rfl 0 8 rfl rfl rfl rfl rfl rfl ⟨rfl, rfl, by decide⟩ rfl rfl (Nat.le_of_ble_eq_true rfl) dX8_readTape_64 (fun v w hq => ?_)
  obtain ⟨rfl, rfl⟩ := hq
  refine j_ws [2, 3, 4, 5, 0, 1, 6, 7] (ws' := [(x, .inr (8, [.ref nw, .ref tk, .int (bI itk), .ref ch, .ref ah, .ref th, .ref tp, .ref wt, .ref rows])), (nw, .inr (7, [.ref g, .ref ru, .ref se, .ref ev])), (g, .inr (1, [.int (nI u.2.2.2.1), .int (nI (u.2.2.1 + 1)), .int t, .ref b])), (b, ia G 16 ((flS u.2.2.2.1 (u.2.2.1 + 1) ts (fun _ => 0) tn).2.2)), (ch, .inr (4, [.int (nI c), .ref cn])), (cn, ia G (3 * 12) (tab (fun ι => nI (c0 ι)) (fun ι => nI (c1 ι)) c2)), (tp, .inr (5, [.int (nI tn), .ref tl])), (tl, ia G 300 ts)]) rfl rfl ?_
  refine j_ia (q0 := 3) (f := (flS u.2.2.2.1 (u.2.2.1 + 1) ts (fun _ => 0) tn).2.2) (g := u.2.2.2.2) rfl (fun z hz => by rw [rd_fill hu hc tn (Nat.le_refl _) u hu]) (ws' := [(x, .inr (8, [.ref nw, .ref tk, .int (bI itk), .ref ch, .ref ah, .ref th, .ref tp, .ref wt, .ref rows])), (nw, .inr (7, [.ref g, .ref ru, .ref se, .ref ev])), (g, .inr (1, [.int (nI u.2.2.2.1), .int (nI (u.2.2.1 + 1)), .int t, .ref b])), (b, ia G 16 u.2.2.2.2), (ch, .inr (4, [.int (nI c), .ref cn])), (cn, ia G (3 * 12) (tab (fun ι => nI (c0 ι)) (fun ι => nI (c1 ι)) c2)), (tp, .inr (5, [.int (nI tn), .ref tl])), (tl, ia G 300 ts)]) rfl ?_
  refine j_aload_n (pc := 67) hX dX8_readTape_67 3 rfl ?_
  refine j_get (pc := 68) hX f_RX8_30 0 rfl rfl dX8_readTape_68 ?_
  refine j_callV (pc := 71) hX kX4_empty kVX4_empty l_RX8_89 (fun l => c_X4_empty G ch cn 12 c (fun ι => nI (c0 ι)) (fun ι => nI (c1 ι)) c2  l) [4, 5] [0, 1, 2, 3, 6, 7] [] rfl 0 4 rfl rfl rfl rfl rfl rfl ⟨rfl, rfl, by decide⟩ rfl rfl (Nat.le_of_ble_eq_true rfl) dX8_readTape_71 (fun v w hq => ?_)
  obtain ⟨rfl, rfl⟩ := hq
  refine j_ws [0, 1, 2, 3, 6, 7, 4, 5] (ws' := [(x, .inr (8, [.ref nw, .ref tk, .int (bI itk), .ref ch, .ref ah, .ref th, .ref tp, .ref wt, .ref rows])), (nw, .inr (7, [.ref g, .ref ru, .ref se, .ref ev])), (g, .inr (1, [.int (nI u.2.2.2.1), .int (nI (u.2.2.1 + 1)), .int t, .ref b])), (b, ia G 16 u.2.2.2.2), (ch, .inr (4, [.int (nI 0), .ref cn])), (cn, ia G (3 * 12) (tab (fun ι => nI (c0 ι)) (fun ι => nI (c1 ι)) c2)), (tp, .inr (5, [.int (nI tn), .ref tl])), (tl, ia G 300 ts)]) rfl rfl ?_
  refine j_aload_n (pc := 74) hX dX8_readTape_74 3 rfl ?_
  refine j_get (pc := 75) hX f_RX8_12 0 rfl rfl dX8_readTape_75 ?_
  refine j_getR (pc := 78) hX f_RX8_69 1 rfl rfl dX8_readTape_78 ?_
  refine j_callV (pc := 81) hX kX1_ones kVX1_ones l_RX8_134 (fun l => c_X1_ones G g u.2.2.2.1 (u.2.2.1 + 1) t b u.2.2.2.2 (by omega) (by omega) (by omega) (by omega) (fun y => lt16 (by omega) (hv.2.2.2.2.1 y)) l) [2, 3] [0, 1, 4, 5, 6, 7] [] rfl 0 1 rfl rfl rfl rfl rfl rfl ⟨rfl, rfl, by decide⟩ rfl rfl (Nat.le_of_ble_eq_true rfl) dX8_readTape_81 (fun v w hq => ?_)
  obtain ⟨rfl, rfl⟩ := hq
  refine j_ws [0, 1, 6, 7, 2, 3, 4, 5] (ws' := [(x, .inr (8, [.ref nw, .ref tk, .int (bI itk), .ref ch, .ref ah, .ref th, .ref tp, .ref wt, .ref rows])), (nw, .inr (7, [.ref g, .ref ru, .ref se, .ref ev])), (g, .inr (1, [.int (nI u.2.2.2.1), .int (nI (u.2.2.1 + 1)), .int t, .ref b])), (b, ia G 16 u.2.2.2.2), (ch, .inr (4, [.int (nI 0), .ref cn])), (cn, ia G (3 * 12) (tab (fun ι => nI (c0 ι)) (fun ι => nI (c1 ι)) c2)), (tp, .inr (5, [.int (nI tn), .ref tl])), (tl, ia G 300 ts)]) rfl rfl ?_
  exact j_iret (pc := 84) hX hR dX8_readTape_84 ⟨rfl, rfl⟩
set_option maxHeartbeats 4000000 in
set_option maxRecDepth 100000 in
theorem c_X8_read_fault (G : GT) (x : Nat) (nw : Nat) (tk : Nat) (itk : Bool) (ch : Nat) (ah : Nat) (th : Nat) (tp : Nat) (wt : Nat) (rows : Nat) (g : Nat) (ru : Nat) (se : Nat) (ev : Nat) (tn : Nat) (tl : Nat) (ts : Nat → Int32) (i : Nat) (hn : tn ≤ 300) (hr : rdR ts tn = some i) (hi : i ≤ 300) (l : Launch) : CT l G yX8_read cX8_read 2 (some .int) { frames := 4, cells := 0, slots := 0, locals := 91 } [.ref x] [(x, .inr (8, [.ref nw, .ref tk, .int (bI itk), .ref ch, .ref ah, .ref th, .ref tp, .ref wt, .ref rows])), (nw, .inr (7, [.ref g, .ref ru, .ref se, .ref ev])), (tp, .inr (5, [.int (nI tn), .ref tl])), (tl, ia G 300 ts)] (fun vv ww => vv = some (.int ((-100) - nI i)) ∧ ww = [(x, .inr (8, [.ref nw, .ref tk, .int (bI itk), .ref ch, .ref ah, .ref th, .ref tp, .ref wt, .ref rows])), (nw, .inr (7, [.ref g, .ref ru, .ref se, .ref ev])), (tp, .inr (5, [.int (nI 0), .ref tl])), (tl, ia G 300 ts)]) := by
  refine CT.of (lv := [(0, .ref x)]) RX8 "read" rfl rfl (by decide +kernel) (Nat.le_of_ble_eq_true rfl) rfl (fun X hX hR => ?_)
  refine j_aload_n (pc := 0) hX dX8_read_0 0 rfl ?_
  refine j_callV (pc := 1) hX kX8_readTape kVX8_readTape l_RX8_235 (fun l => c_X8_readTape_fault G x nw tk itk ch ah th tp wt rows g ru se ev tn tl ts i (by omega) (by assumption) (by omega) l) [0, 1, 2, 3] [] [] rfl 0 8 rfl rfl rfl rfl rfl rfl ⟨rfl, rfl, by decide⟩ rfl rfl (Nat.le_of_ble_eq_true rfl) dX8_read_1 (fun v w hq => ?_)
  obtain ⟨rfl, rfl⟩ := hq
  refine j_ws [0, 1, 2, 3] (ws' := [(x, .inr (8, [.ref nw, .ref tk, .int (bI itk), .ref ch, .ref ah, .ref th, .ref tp, .ref wt, .ref rows])), (nw, .inr (7, [.ref g, .ref ru, .ref se, .ref ev])), (tp, .inr (5, [.int (nI tn), .ref tl])), (tl, ia G 300 ts)]) rfl rfl ?_
  refine j_istore_n (pc := 4) (lv' := [(1, .int ((-100) - nI i)), (0, .ref x)]) hX dX8_read_4 (by decide) rfl ?_
  refine j_aload_n (pc := 5) hX dX8_read_5 1 rfl ?_
  refine j_get (pc := 6) hX f_RX8_51 0 rfl rfl dX8_read_6 ?_
  refine j_callV (pc := 9) hX kX5_empty kVX5_empty l_RX8_238 (fun l => c_X5_empty G tp tl 300 tn ts  l) [2, 3] [0, 1] [] rfl 0 5 rfl rfl rfl rfl rfl rfl ⟨rfl, rfl, by decide⟩ rfl rfl (Nat.le_of_ble_eq_true rfl) dX8_read_9 (fun v w hq => ?_)
  obtain ⟨rfl, rfl⟩ := hq
  refine j_ws [0, 1, 2, 3] (ws' := [(x, .inr (8, [.ref nw, .ref tk, .int (bI itk), .ref ch, .ref ah, .ref th, .ref tp, .ref wt, .ref rows])), (nw, .inr (7, [.ref g, .ref ru, .ref se, .ref ev])), (tp, .inr (5, [.int (nI 0), .ref tl])), (tl, ia G 300 ts)]) rfl rfl ?_
  refine j_iload_n (pc := 12) hX dX8_read_12 0 rfl ?_
  exact j_iret (pc := 13) hX hR dX8_read_13 ⟨rfl, rfl⟩
set_option maxHeartbeats 4000000 in
set_option maxRecDepth 100000 in
theorem c_X8_read_sides (G : GT) (x : Nat) (nw : Nat) (tk : Nat) (itk : Bool) (ch : Nat) (ah : Nat) (th : Nat) (tp : Nat) (wt : Nat) (rows : Nat) (g : Nat) (ru : Nat) (se : Nat) (ev : Nat) (tn : Nat) (tl : Nat) (ts : Nat → Int32) (u : RdT) (hn : tn ≤ 300) (hu : rdS ts tn = some u) (hc : ¬ u.2.2.2.1 < u.1) (hb : (sideB (nI u.2.2.2.1) && sideB (nI (u.2.2.1 + 1))) = false) (l : Launch) : CT l G yX8_read cX8_read 2 (some .int) { frames := 4, cells := 0, slots := 0, locals := 91 } [.ref x] [(x, .inr (8, [.ref nw, .ref tk, .int (bI itk), .ref ch, .ref ah, .ref th, .ref tp, .ref wt, .ref rows])), (nw, .inr (7, [.ref g, .ref ru, .ref se, .ref ev])), (tp, .inr (5, [.int (nI tn), .ref tl])), (tl, ia G 300 ts)] (fun vv ww => vv = some (.int (-500)) ∧ ww = [(x, .inr (8, [.ref nw, .ref tk, .int (bI itk), .ref ch, .ref ah, .ref th, .ref tp, .ref wt, .ref rows])), (nw, .inr (7, [.ref g, .ref ru, .ref se, .ref ev])), (tp, .inr (5, [.int (nI 0), .ref tl])), (tl, ia G 300 ts)]) := by
  refine CT.of (lv := [(0, .ref x)]) RX8 "read" rfl rfl (by decide +kernel) (Nat.le_of_ble_eq_true rfl) rfl (fun X hX hR => ?_)
  refine j_aload_n (pc := 0) hX dX8_read_0 0 rfl ?_
  refine j_callV (pc := 1) hX kX8_readTape kVX8_readTape l_RX8_235 (fun l => c_X8_readTape_sides G x nw tk itk ch ah th tp wt rows g ru se ev tn tl ts u (by omega) (by assumption) (by assumption) (by assumption) l) [0, 1, 2, 3] [] [] rfl 0 8 rfl rfl rfl rfl rfl rfl ⟨rfl, rfl, by decide⟩ rfl rfl (Nat.le_of_ble_eq_true rfl) dX8_read_1 (fun v w hq => ?_)
  obtain ⟨rfl, rfl⟩ := hq
  refine j_ws [0, 1, 2, 3] (ws' := [(x, .inr (8, [.ref nw, .ref tk, .int (bI itk), .ref ch, .ref ah, .ref th, .ref tp, .ref wt, .ref rows])), (nw, .inr (7, [.ref g, .ref ru, .ref se, .ref ev])), (tp, .inr (5, [.int (nI tn), .ref tl])), (tl, ia G 300 ts)]) rfl rfl ?_
  refine j_istore_n (pc := 4) (lv' := [(1, .int (-500)), (0, .ref x)]) hX dX8_read_4 (by decide) rfl ?_
  refine j_aload_n (pc := 5) hX dX8_read_5 1 rfl ?_
  refine j_get (pc := 6) hX f_RX8_51 0 rfl rfl dX8_read_6 ?_
  refine j_callV (pc := 9) hX kX5_empty kVX5_empty l_RX8_238 (fun l => c_X5_empty G tp tl 300 tn ts  l) [2, 3] [0, 1] [] rfl 0 5 rfl rfl rfl rfl rfl rfl ⟨rfl, rfl, by decide⟩ rfl rfl (Nat.le_of_ble_eq_true rfl) dX8_read_9 (fun v w hq => ?_)
  obtain ⟨rfl, rfl⟩ := hq
  refine j_ws [0, 1, 2, 3] (ws' := [(x, .inr (8, [.ref nw, .ref tk, .int (bI itk), .ref ch, .ref ah, .ref th, .ref tp, .ref wt, .ref rows])), (nw, .inr (7, [.ref g, .ref ru, .ref se, .ref ev])), (tp, .inr (5, [.int (nI 0), .ref tl])), (tl, ia G 300 ts)]) rfl rfl ?_
  refine j_iload_n (pc := 12) hX dX8_read_12 0 rfl ?_
  exact j_iret (pc := 13) hX hR dX8_read_13 ⟨rfl, rfl⟩
set_option maxHeartbeats 4000000 in
set_option maxRecDepth 100000 in
theorem c_X8_read_ok (G : GT) (x : Nat) (nw : Nat) (tk : Nat) (itk : Bool) (ch : Nat) (ah : Nat) (th : Nat) (tp : Nat) (wt : Nat) (rows : Nat) (g : Nat) (ru : Nat) (se : Nat) (ev : Nat) (W : Nat) (H : Nat) (t : Int32) (b : Nat) (f : Nat → Int32) (c : Nat) (cn : Nat) (c0 : Nat → Nat) (c1 : Nat → Nat) (c2 : Nat → Int32) (tn : Nat) (tl : Nat) (ts : Nat → Int32) (u : RdT) (hn : tn ≤ 300) (hu : rdS ts tn = some u) (hc : ¬ u.2.2.2.1 < u.1) (hb : (sideB (nI u.2.2.2.1) && sideB (nI (u.2.2.1 + 1))) = true) (l : Launch) : CT l G yX8_read cX8_read 2 (some .int) { frames := 4, cells := 0, slots := 0, locals := 91 } [.ref x] [(x, .inr (8, [.ref nw, .ref tk, .int (bI itk), .ref ch, .ref ah, .ref th, .ref tp, .ref wt, .ref rows])), (nw, .inr (7, [.ref g, .ref ru, .ref se, .ref ev])), (g, .inr (1, [.int (nI W), .int (nI H), .int t, .ref b])), (b, ia G 16 f), (ch, .inr (4, [.int (nI c), .ref cn])), (cn, ia G (3 * 12) (tab (fun ι => nI (c0 ι)) (fun ι => nI (c1 ι)) c2)), (tp, .inr (5, [.int (nI tn), .ref tl])), (tl, ia G 300 ts)] (fun vv ww => vv = some (.int (nI (cnt u.2.2.2.2 (u.2.2.1 + 1)))) ∧ ww = [(x, .inr (8, [.ref nw, .ref tk, .int (bI itk), .ref ch, .ref ah, .ref th, .ref tp, .ref wt, .ref rows])), (nw, .inr (7, [.ref g, .ref ru, .ref se, .ref ev])), (g, .inr (1, [.int (nI u.2.2.2.1), .int (nI (u.2.2.1 + 1)), .int t, .ref b])), (b, ia G 16 u.2.2.2.2), (ch, .inr (4, [.int (nI 0), .ref cn])), (cn, ia G (3 * 12) (tab (fun ι => nI (c0 ι)) (fun ι => nI (c1 ι)) c2)), (tp, .inr (5, [.int (nI 0), .ref tl])), (tl, ia G 300 ts)]) := by
  refine CT.of (lv := [(0, .ref x)]) RX8 "read" rfl rfl (by decide +kernel) (Nat.le_of_ble_eq_true rfl) rfl (fun X hX hR => ?_)
  refine j_aload_n (pc := 0) hX dX8_read_0 0 rfl ?_
  refine j_callV (pc := 1) hX kX8_readTape kVX8_readTape l_RX8_235 (fun l => c_X8_readTape_ok G x nw tk itk ch ah th tp wt rows g ru se ev W H t b f c cn c0 c1 c2 tn tl ts u (by omega) (by assumption) (by assumption) (by assumption) l) [0, 1, 2, 3, 4, 5, 6, 7] [] [] rfl 0 8 rfl rfl rfl rfl rfl rfl ⟨rfl, rfl, by decide⟩ rfl rfl (Nat.le_of_ble_eq_true rfl) dX8_read_1 (fun v w hq => ?_)
  obtain ⟨rfl, rfl⟩ := hq
  refine j_ws [0, 1, 2, 3, 4, 5, 6, 7] (ws' := [(x, .inr (8, [.ref nw, .ref tk, .int (bI itk), .ref ch, .ref ah, .ref th, .ref tp, .ref wt, .ref rows])), (nw, .inr (7, [.ref g, .ref ru, .ref se, .ref ev])), (g, .inr (1, [.int (nI u.2.2.2.1), .int (nI (u.2.2.1 + 1)), .int t, .ref b])), (b, ia G 16 u.2.2.2.2), (ch, .inr (4, [.int (nI 0), .ref cn])), (cn, ia G (3 * 12) (tab (fun ι => nI (c0 ι)) (fun ι => nI (c1 ι)) c2)), (tp, .inr (5, [.int (nI tn), .ref tl])), (tl, ia G 300 ts)]) rfl rfl ?_
  refine j_istore_n (pc := 4) (lv' := [(1, .int (nI (cnt u.2.2.2.2 (u.2.2.1 + 1)))), (0, .ref x)]) hX dX8_read_4 (by decide) rfl ?_
  refine j_aload_n (pc := 5) hX dX8_read_5 1 rfl ?_
  refine j_get (pc := 6) hX f_RX8_51 0 rfl rfl dX8_read_6 ?_
  refine j_callV (pc := 9) hX kX5_empty kVX5_empty l_RX8_238 (fun l => c_X5_empty G tp tl 300 tn ts  l) [6, 7] [0, 1, 2, 3, 4, 5] [] rfl 0 5 rfl rfl rfl rfl rfl rfl ⟨rfl, rfl, by decide⟩ rfl rfl (Nat.le_of_ble_eq_true rfl) dX8_read_9 (fun v w hq => ?_)
  obtain ⟨rfl, rfl⟩ := hq
  refine j_ws [0, 1, 2, 3, 4, 5, 6, 7] (ws' := [(x, .inr (8, [.ref nw, .ref tk, .int (bI itk), .ref ch, .ref ah, .ref th, .ref tp, .ref wt, .ref rows])), (nw, .inr (7, [.ref g, .ref ru, .ref se, .ref ev])), (g, .inr (1, [.int (nI u.2.2.2.1), .int (nI (u.2.2.1 + 1)), .int t, .ref b])), (b, ia G 16 u.2.2.2.2), (ch, .inr (4, [.int (nI 0), .ref cn])), (cn, ia G (3 * 12) (tab (fun ι => nI (c0 ι)) (fun ι => nI (c1 ι)) c2)), (tp, .inr (5, [.int (nI 0), .ref tl])), (tl, ia G 300 ts)]) rfl rfl ?_
  refine j_iload_n (pc := 12) hX dX8_read_12 0 rfl ?_
  exact j_iret (pc := 13) hX hR dX8_read_13 ⟨rfl, rfl⟩
