set_option maxHeartbeats 4000000 in
set_option maxRecDepth 100000 in
theorem c_X8_at (G : GT) (a nn : Nat) (f : Nat → Int32) (j : Nat) (hj : j < nn) (hn : nn < 2 ^ 31) (l : Launch) : CT l G yX8_at cX8_at 2 (some .int) { frames := 0, cells := 0, slots := 0, locals := 0 } [.ref a, .int (nI j)] [(a, ia G nn f)] (fun vv ww => vv = some (.int (f j)) ∧ ww = [(a, ia G nn f)]) := by
  refine CT.of (lv := [(0, .ref a), (1, .int (nI j))]) RX8 "at" rfl rfl (by decide +kernel) (Nat.le_of_ble_eq_true rfl) rfl (fun X hX hR => ?_)
  refine j_iload_n (pc := 0) hX dX8_at_0 1 rfl ?_
  refine j_if_lt (pc := 1) (tgt := 16) hX dX8_at_1 (by decide) (nI_toInt (n := j) (by omega)) (fun c1 => by exfalso; omega) (fun c1 => ?_)
  refine j_iload_n (pc := 4) hX dX8_at_4 1 rfl ?_
  refine j_aload_n (pc := 5) hX dX8_at_5 0 rfl ?_
  refine j_len_i (pc := 6) hX 0 rfl dX8_at_6 ?_
  refine j_icmp_ge (pc := 7) (tgt := 16) hX dX8_at_7 (by decide) (nI_toInt (n := j) (by omega)) (nI_toInt (n := nn) (by omega)) (fun c7 => by exfalso; omega) (fun c7 => ?_)
  refine j_aload_n (pc := 10) hX dX8_at_10 0 rfl ?_
  refine j_iload_n (pc := 11) hX dX8_at_11 1 rfl ?_
  refine j_ialdN (pc := 12) (j := j) hX 0 rfl (by omega) (by omega) dX8_at_12 ?_
  refine j_goto (pc := 13) (tgt := 17) hX dX8_at_13 (by decide) ?_
  exact j_iret (pc := 17) hX hR dX8_at_17 ⟨rfl, rfl⟩
set_option maxHeartbeats 4000000 in
set_option maxRecDepth 100000 in
theorem c_X8_put (G : GT) (a nn : Nat) (f : Nat → Int32) (j : Nat) (x : Int32) (hj : j < nn) (hn : nn < 2 ^ 31) (l : Launch) : CT l G yX8_put cX8_put 3 none { frames := 0, cells := 0, slots := 0, locals := 0 } [.ref a, .int (nI j), .int x] [(a, ia G nn f)] (fun vv ww => vv = none ∧ ww = [(a, ia G nn (upd f j x))]) := by
  refine CT.of (lv := [(0, .ref a), (1, .int (nI j)), (2, .int x)]) RX8 "put" rfl rfl (by decide +kernel) (Nat.le_of_ble_eq_true rfl) rfl (fun X hX hR => ?_)
  refine j_iload_n (pc := 0) hX dX8_put_0 1 rfl ?_
  refine j_if_lt (pc := 1) (tgt := 14) hX dX8_put_1 (by decide) (nI_toInt (n := j) (by omega)) (fun c1 => by exfalso; omega) (fun c1 => ?_)
  refine j_iload_n (pc := 4) hX dX8_put_4 1 rfl ?_
  refine j_aload_n (pc := 5) hX dX8_put_5 0 rfl ?_
  refine j_len_i (pc := 6) hX 0 rfl dX8_put_6 ?_
  refine j_icmp_ge (pc := 7) (tgt := 14) hX dX8_put_7 (by decide) (nI_toInt (n := j) (by omega)) (nI_toInt (n := nn) (by omega)) (fun c7 => by exfalso; omega) (fun c7 => ?_)
  refine j_aload_n (pc := 10) hX dX8_put_10 0 rfl ?_
  refine j_iload_n (pc := 11) hX dX8_put_11 1 rfl ?_
  refine j_iload_n (pc := 12) hX dX8_put_12 2 rfl ?_
  refine j_iastN (pc := 13) (j := j) (ws' := [(a, ia G nn (upd f j x))]) hX 0 rfl (by omega) (by omega) rfl dX8_put_13 ?_
  exact j_vret (pc := 14) hX hR dX8_put_14 ⟨rfl, rfl⟩
set_option maxHeartbeats 4000000 in
set_option maxRecDepth 100000 in
theorem c_X8_copy (G : GT) (a b nn : Nat) (f g : Nat → Int32) (hn : nn < 2 ^ 31) (l : Launch) : CT l G yX8_copy cX8_copy 3 none { frames := 0, cells := 0, slots := 0, locals := 0 } [.ref a, .ref b] [(a, ia G nn f), (b, ia G nn g)] (fun vv ww => vv = none ∧ ww = [(a, ia G nn f), (b, ia G nn f)]) := by
  refine CT.of (lv := [(0, .ref a), (1, .ref b)]) RX8 "copy" rfl rfl (by decide +kernel) (Nat.le_of_ble_eq_true rfl) rfl (fun X hX hR => ?_)
  refine j_iconstN (pc := 0) (j := 0) hX dX8_copy_0 rfl ?_
  refine j_istore_n (pc := 1) (lv' := [(2, .int (nI 0)), (0, .ref a), (1, .ref b)]) hX dX8_copy_1 (by decide) rfl ?_
  have L2 : ∀ (m2 : Nat) (k : Nat) (g2 : Nat → Int32) (hk : k ≤ nn) (hg : ∀ z, z < k → g2 z = f z), nn - k < m2 → J X G 3 0 0 [(a, ia G nn f), (b, ia G nn g2)] [(0, .ref a), (1, .ref b), (2, .int (nI k))] 2 [] := by
    intro m2
    induction m2 with
    | zero => intro k g2 hk hg hm2; exact absurd hm2 (Nat.not_lt_zero _)
    | succ m2 ih2 =>
      intro k g2 hk hg hm2
      refine j_iload_n (pc := 2) hX dX8_copy_2 2 rfl ?_
      refine j_aload_n (pc := 3) hX dX8_copy_3 0 rfl ?_
      refine j_len_i (pc := 4) hX 0 rfl dX8_copy_4 ?_
      refine j_icmp_ge (pc := 5) (tgt := 26) hX dX8_copy_5 (by decide) (nI_toInt (n := k) (by omega)) (nI_toInt (n := nn) (by omega)) (fun c5 => ?_) (fun c5 => ?_)
      · skip
        refine j_ia (q0 := 1) (f := g2) (g := f) rfl (fun z hz => by exact hg z (by omega)) (ws' := [(a, ia G nn f), (b, ia G nn f)]) rfl ?_
        exact j_vret (pc := 26) hX hR dX8_copy_26 ⟨rfl, rfl⟩
      · skip
        refine j_iload_n (pc := 8) hX dX8_copy_8 2 rfl ?_
        refine j_aload_n (pc := 9) hX dX8_copy_9 1 rfl ?_
        refine j_len_i (pc := 10) hX 1 rfl dX8_copy_10 ?_
        refine j_icmp_ge (pc := 11) (tgt := 26) hX dX8_copy_11 (by decide) (nI_toInt (n := k) (by omega)) (nI_toInt (n := nn) (by omega)) (fun c11 => by exfalso; omega) (fun c11 => ?_)
        refine j_aload_n (pc := 14) hX dX8_copy_14 1 rfl ?_
        refine j_iload_n (pc := 15) hX dX8_copy_15 2 rfl ?_
        refine j_aload_n (pc := 16) hX dX8_copy_16 0 rfl ?_
        refine j_iload_n (pc := 17) hX dX8_copy_17 2 rfl ?_
        refine j_ialdN (pc := 18) (j := k) hX 0 rfl (by omega) (by omega) dX8_copy_18 ?_
        refine j_iastN (pc := 19) (j := k) (ws' := [(a, ia G nn f), (b, ia G nn (upd g2 k (f k)))]) hX 1 rfl (by omega) (by omega) rfl dX8_copy_19 ?_
        refine j_iinc (pc := 20) (q := 2) (v := nI (k + 1)) (lv' := [(2, .int (nI (k + 1))), (0, .ref a), (1, .ref b)]) hX dX8_copy_20 rfl (nI_inc _ 1) (by decide) rfl ?_
        refine j_goto (pc := 23) (tgt := 2) hX dX8_copy_23 (by decide) ?_
        refine j_lv [1, 2, 0] (lv' := [(0, .ref a), (1, .ref b), (2, .int (nI (k + 1)))]) rfl ?_
        exact ih2 (k + 1) (upd g2 k (f k)) (by omega) (upd_fill hg) (by omega)
  refine j_lv [1, 2, 0] (lv' := [(0, .ref a), (1, .ref b), (2, .int (nI 0))]) rfl ?_
  exact L2 ((nn - 0) + 1) 0 g (by omega) (fun z hz => absurd hz (Nat.not_lt_zero _)) (Nat.lt_succ_self _)
set_option maxHeartbeats 4000000 in
set_option maxRecDepth 100000 in
theorem c_X8_closedRound (G : GT) (k n : Nat) (hk : k < 2 * n) (hn : n ≤ 1000) (l : Launch) : CT l G yX8_closedRound cX8_closedRound 2 (some .int) { frames := 0, cells := 0, slots := 0, locals := 0 } [.int (nI k), .int (nI n)] [] (fun vv ww => vv = some (.int (nI (wr k n))) ∧ ww = []) := by
  refine CT.of (lv := [(0, .int (nI k)), (1, .int (nI n))]) RX8 "closedRound" rfl rfl (by decide +kernel) (Nat.le_of_ble_eq_true rfl) rfl (fun X hX hR => ?_)
  refine j_iload_n (pc := 0) hX dX8_closedRound_0 0 rfl ?_
  refine j_if_ge (pc := 1) (tgt := 8) hX dX8_closedRound_1 (by decide) (nI_toInt (n := k) (by omega)) (fun c1 => ?_) (fun c1 => by exfalso; omega)
  refine j_iload_n (pc := 8) hX dX8_closedRound_8 0 rfl ?_
  refine j_iload_n (pc := 9) hX dX8_closedRound_9 1 rfl ?_
  refine j_icmp_lt (pc := 10) (tgt := 19) hX dX8_closedRound_10 (by decide) (nI_toInt (n := k) (by omega)) (nI_toInt (n := n) (by omega)) (fun c10 => ?_) (fun c10 => ?_)
  · skip
    refine j_iload_n (pc := 19) hX dX8_closedRound_19 0 rfl ?_
    exact j_iret (pc := 20) hX hR dX8_closedRound_20 ⟨congrArg some (show Value.int (nI k) = Value.int (nI (wr k n)) from by first | rw [wr, if_pos (by omega)] | rw [wr, if_neg (by omega)]), rfl⟩
  · skip
    refine j_iload_n (pc := 13) hX dX8_closedRound_13 0 rfl ?_
    refine j_iload_n (pc := 14) hX dX8_closedRound_14 1 rfl ?_
    refine j_isub (pc := 15) hX dX8_closedRound_15 ?_
    refine j_topi (y := nI (k - n)) (pk_sub (by omega)) ?_
    refine j_goto (pc := 16) (tgt := 20) hX dX8_closedRound_16 (by decide) ?_
    exact j_iret (pc := 20) hX hR dX8_closedRound_20 ⟨congrArg some (show Value.int (nI (k - n)) = Value.int (nI (wr k n)) from by first | rw [wr, if_pos (by omega)] | rw [wr, if_neg (by omega)]), rfl⟩
set_option maxHeartbeats 4000000 in
set_option maxRecDepth 100000 in
theorem c_X8_closedRound_i (G : GT) (i : Int32) (n : Nat) (z : Int) (hz : i.toInt = z) (hk : -n ≤ z ∧ z < 2 * n) (hn : n ≤ 1000) (l : Launch) : CT l G yX8_closedRound cX8_closedRound 2 (some .int) { frames := 0, cells := 0, slots := 0, locals := 0 } [.int i, .int (nI n)] [] (fun vv ww => vv = some (.int (nI (crI z n))) ∧ ww = []) := by
  refine CT.of (lv := [(0, .int i), (1, .int (nI n))]) RX8 "closedRound" rfl rfl (by decide +kernel) (Nat.le_of_ble_eq_true rfl) rfl (fun X hX hR => ?_)
  refine j_iload_n (pc := 0) hX dX8_closedRound_0 0 rfl ?_
  refine j_if_ge (pc := 1) (tgt := 8) hX dX8_closedRound_1 (by decide) rfl (fun c1 => ?_) (fun c1 => ?_)
  · skip
    refine j_iload_n (pc := 8) hX dX8_closedRound_8 0 rfl ?_
    refine j_iload_n (pc := 9) hX dX8_closedRound_9 1 rfl ?_
    refine j_icmp_lt (pc := 10) (tgt := 19) hX dX8_closedRound_10 (by decide) rfl (nI_toInt (n := n) (by omega)) (fun c10 => ?_) (fun c10 => ?_)
    · skip
      refine j_iload_n (pc := 19) hX dX8_closedRound_19 0 rfl ?_
      exact j_iret (pc := 20) hX hR dX8_closedRound_20 ⟨congrArg some (show Value.int i = Value.int (nI (crI z n)) from by first | rw [crI, if_neg (by omega), if_pos (by omega)] | (rw [crI, if_neg (by omega), if_neg (by omega)]; congr 1; apply Int32.toInt_inj.mp; rw [nI_toInt (by omega)]; omega)), rfl⟩
    · skip
      refine j_iload_n (pc := 13) hX dX8_closedRound_13 0 rfl ?_
      refine j_iload_n (pc := 14) hX dX8_closedRound_14 1 rfl ?_
      refine j_isub (pc := 15) hX dX8_closedRound_15 ?_
      refine j_topi (y := nI ((z - n).toNat)) (by apply Int32.toInt_inj.mp; rw [nI_toInt (by omega), fb_subI (by rw [hz, nI_toInt (by omega)]; omega) (by rw [hz, nI_toInt (by omega)]; omega), hz, nI_toInt (by omega)]; omega) ?_
      refine j_goto (pc := 16) (tgt := 20) hX dX8_closedRound_16 (by decide) ?_
      exact j_iret (pc := 20) hX hR dX8_closedRound_20 ⟨congrArg some (show Value.int (nI ((z - n).toNat)) = Value.int (nI (crI z n)) from by first | rw [crI, if_neg (by omega), if_pos (by omega)] | (rw [crI, if_neg (by omega), if_neg (by omega)]; congr 1; apply Int32.toInt_inj.mp; rw [nI_toInt (by omega)]; omega)), rfl⟩
  · skip
    refine j_iload_n (pc := 4) hX dX8_closedRound_4 0 rfl ?_
    refine j_iload_n (pc := 5) hX dX8_closedRound_5 1 rfl ?_
    refine j_iadd (pc := 6) hX dX8_closedRound_6 ?_
    refine j_topi (y := nI ((z + n).toNat)) (by apply Int32.toInt_inj.mp; rw [nI_toInt (by omega), fb_addI (by rw [hz, nI_toInt (by omega)]; omega) (by rw [hz, nI_toInt (by omega)]; omega), hz, nI_toInt (by omega)]; omega) ?_
    exact j_iret (pc := 7) hX hR dX8_closedRound_7 ⟨congrArg some (show Value.int (nI ((z + n).toNat)) = Value.int (nI (crI z n)) from by rw [crI, if_pos (by omega)]), rfl⟩
set_option maxHeartbeats 4000000 in
set_option maxRecDepth 100000 in
theorem c_X8_isSide (G : GT) (w : Int32)  (l : Launch) : CT l G yX8_isSide cX8_isSide 1 (some .boolean) { frames := 0, cells := 0, slots := 0, locals := 0 } [.int w] [] (fun vv ww => vv = some (.int (bI (sideB w))) ∧ ww = []) := by
  refine CT.of (lv := [(0, .int w)]) RX8 "isSide" rfl rfl (by decide +kernel) (Nat.le_of_ble_eq_true rfl) rfl (fun X hX hR => ?_)
  refine j_iload_n (pc := 0) hX dX8_isSide_0 0 rfl ?_
  refine j_iconstN (pc := 1) (j := 2) hX dX8_isSide_1 rfl ?_
  refine j_icmp_lt (pc := 2) (tgt := 21) hX dX8_isSide_2 (by decide) rfl (nI_toInt (n := 2) (by decide)) (fun c2 => ?_) (fun c2 => ?_)
  · skip
    refine j_iconstN (pc := 21) (j := 0) hX dX8_isSide_21 rfl ?_
    exact j_zret (pc := 22) hX hR (by decide) dX8_isSide_22 ⟨congrArg some (show Value.int (nI 0) = Value.int (bI (sideB w)) from by first | exact bI_t (by omega) | exact bI_f (by omega)), rfl⟩
  · skip
    refine j_iload_n (pc := 5) hX dX8_isSide_5 0 rfl ?_
    refine j_bipush (pc := 6) (v := nI 16) hX dX8_isSide_6 (by decide) ?_
    refine j_icmp_gt (pc := 8) (tgt := 21) hX dX8_isSide_8 (by decide) rfl (nI_toInt (n := 16) (by decide)) (fun c8 => ?_) (fun c8 => ?_)
    · skip
      refine j_iconstN (pc := 21) (j := 0) hX dX8_isSide_21 rfl ?_
      exact j_zret (pc := 22) hX hR (by decide) dX8_isSide_22 ⟨congrArg some (show Value.int (nI 0) = Value.int (bI (sideB w)) from by first | exact bI_t (by omega) | exact bI_f (by omega)), rfl⟩
    · skip
      refine j_iload_n (pc := 11) hX dX8_isSide_11 0 rfl ?_
      refine j_iconstN (pc := 12) (j := 1) hX dX8_isSide_12 rfl ?_
      refine j_iand (pc := 13) hX dX8_isSide_13 ?_
      refine j_topi (y := nI ((w.toInt % 2).toNat)) (and1 w) ?_
      refine j_if_ne (pc := 14) (tgt := 21) hX dX8_isSide_14 (by decide) (nI_toInt (n := (w.toInt % 2).toNat) (by omega)) (fun c14 => ?_) (fun c14 => ?_)
      · skip
        refine j_iconstN (pc := 21) (j := 0) hX dX8_isSide_21 rfl ?_
        exact j_zret (pc := 22) hX hR (by decide) dX8_isSide_22 ⟨congrArg some (show Value.int (nI 0) = Value.int (bI (sideB w)) from by first | exact bI_t (by omega) | exact bI_f (by omega)), rfl⟩
      · skip
        refine j_iconstN (pc := 17) (j := 1) hX dX8_isSide_17 rfl ?_
        refine j_goto (pc := 18) (tgt := 22) hX dX8_isSide_18 (by decide) ?_
        exact j_zret (pc := 22) hX hR (by decide) dX8_isSide_22 ⟨congrArg some (show Value.int (nI 1) = Value.int (bI (sideB w)) from by first | exact bI_t (by omega) | exact bI_f (by omega)), rfl⟩
set_option maxHeartbeats 4000000 in
set_option maxRecDepth 100000 in
theorem c_X8_isState (G : GT) (w : Int32)  (l : Launch) : CT l G yX8_isState cX8_isState 1 (some .boolean) { frames := 0, cells := 0, slots := 0, locals := 0 } [.int w] [] (fun vv ww => vv = some (.int (bI (rngB w 0 15))) ∧ ww = []) := by
  refine CT.of (lv := [(0, .int w)]) RX8 "isState" rfl rfl (by decide +kernel) (Nat.le_of_ble_eq_true rfl) rfl (fun X hX hR => ?_)
  refine j_iload_n (pc := 0) hX dX8_isState_0 0 rfl ?_
  refine j_if_lt (pc := 1) (tgt := 14) hX dX8_isState_1 (by decide) rfl (fun c1 => ?_) (fun c1 => ?_)
  · skip
    refine j_iconstN (pc := 14) (j := 0) hX dX8_isState_14 rfl ?_
    exact j_zret (pc := 15) hX hR (by decide) dX8_isState_15 ⟨congrArg some (show Value.int (nI 0) = Value.int (bI (rngB w 0 15)) from by first | exact bI_t (by omega) | exact bI_f (by omega)), rfl⟩
  · skip
    refine j_iload_n (pc := 4) hX dX8_isState_4 0 rfl ?_
    refine j_bipush (pc := 5) (v := nI 16) hX dX8_isState_5 (by decide) ?_
    refine j_icmp_ge (pc := 7) (tgt := 14) hX dX8_isState_7 (by decide) rfl (nI_toInt (n := 16) (by decide)) (fun c7 => ?_) (fun c7 => ?_)
    · skip
      refine j_iconstN (pc := 14) (j := 0) hX dX8_isState_14 rfl ?_
      exact j_zret (pc := 15) hX hR (by decide) dX8_isState_15 ⟨congrArg some (show Value.int (nI 0) = Value.int (bI (rngB w 0 15)) from by first | exact bI_t (by omega) | exact bI_f (by omega)), rfl⟩
    · skip
      refine j_iconstN (pc := 10) (j := 1) hX dX8_isState_10 rfl ?_
      refine j_goto (pc := 11) (tgt := 15) hX dX8_isState_11 (by decide) ?_
      exact j_zret (pc := 15) hX hR (by decide) dX8_isState_15 ⟨congrArg some (show Value.int (nI 1) = Value.int (bI (rngB w 0 15)) from by first | exact bI_t (by omega) | exact bI_f (by omega)), rfl⟩
set_option maxHeartbeats 4000000 in
set_option maxRecDepth 100000 in
theorem c_X8_isWeight (G : GT) (w : Int32)  (l : Launch) : CT l G yX8_isWeight cX8_isWeight 1 (some .boolean) { frames := 0, cells := 0, slots := 0, locals := 0 } [.int w] [] (fun vv ww => vv = some (.int (bI (rngB w (-9) 9))) ∧ ww = []) := by
  refine CT.of (lv := [(0, .int w)]) RX8 "isWeight" rfl rfl (by decide +kernel) (Nat.le_of_ble_eq_true rfl) rfl (fun X hX hR => ?_)
  refine j_iload_n (pc := 0) hX dX8_isWeight_0 0 rfl ?_
  refine j_bipush (pc := 1) (v := (-9)) hX dX8_isWeight_1 (by decide) ?_
  refine j_icmp_lt (pc := 3) (tgt := 16) hX dX8_isWeight_3 (by decide) rfl (show ((-9) : Int32).toInt = -9 from by decide) (fun c3 => ?_) (fun c3 => ?_)
  · skip
    refine j_iconstN (pc := 16) (j := 0) hX dX8_isWeight_16 rfl ?_
    exact j_zret (pc := 17) hX hR (by decide) dX8_isWeight_17 ⟨congrArg some (show Value.int (nI 0) = Value.int (bI (rngB w (-9) 9)) from by first | exact bI_t (by omega) | exact bI_f (by omega)), rfl⟩
  · skip
    refine j_iload_n (pc := 6) hX dX8_isWeight_6 0 rfl ?_
    refine j_bipush (pc := 7) (v := nI 9) hX dX8_isWeight_7 (by decide) ?_
    refine j_icmp_gt (pc := 9) (tgt := 16) hX dX8_isWeight_9 (by decide) rfl (nI_toInt (n := 9) (by decide)) (fun c9 => ?_) (fun c9 => ?_)
    · skip
      refine j_iconstN (pc := 16) (j := 0) hX dX8_isWeight_16 rfl ?_
      exact j_zret (pc := 17) hX hR (by decide) dX8_isWeight_17 ⟨congrArg some (show Value.int (nI 0) = Value.int (bI (rngB w (-9) 9)) from by first | exact bI_t (by omega) | exact bI_f (by omega)), rfl⟩
    · skip
      refine j_iconstN (pc := 12) (j := 1) hX dX8_isWeight_12 rfl ?_
      refine j_goto (pc := 13) (tgt := 17) hX dX8_isWeight_13 (by decide) ?_
      exact j_zret (pc := 17) hX hR (by decide) dX8_isWeight_17 ⟨congrArg some (show Value.int (nI 1) = Value.int (bI (rngB w (-9) 9)) from by first | exact bI_t (by omega) | exact bI_f (by omega)), rfl⟩
set_option maxHeartbeats 4000000 in
set_option maxRecDepth 100000 in
theorem c_X8_areWeights (G : GT) (a b c d : Int32)  (l : Launch) : CT l G yX8_areWeights cX8_areWeights 4 (some .boolean) { frames := 1, cells := 0, slots := 0, locals := 20 } [.int a, .int b, .int c, .int d] [] (fun vv ww => vv = some (.int (bI (rngB a (-9) 9 && (rngB b (-9) 9 && (rngB c (-9) 9 && rngB d (-9) 9))))) ∧ ww = []) := by
  refine CT.of (lv := [(0, .int a), (1, .int b), (2, .int c), (3, .int d)]) RX8 "areWeights" rfl rfl (by decide +kernel) (Nat.le_of_ble_eq_true rfl) rfl (fun X hX hR => ?_)
  refine j_iload_n (pc := 0) hX dX8_areWeights_0 0 rfl ?_
  refine j_callS (pc := 1) hX kX8_isWeight kSX8_isWeight l_RX8_299 (fun l => c_X8_isWeight G a  l) [] [] [] rfl rfl rfl rfl ⟨rfl, rfl, by decide⟩ rfl rfl (Nat.le_of_ble_eq_true rfl) dX8_areWeights_1 (fun v w hq => ?_)
  obtain ⟨rfl, rfl⟩ := hq
  refine j_ws [] (ws' := []) rfl rfl ?_
  refine j_ifB_eq (pc := 4) (tgt := 32) hX dX8_areWeights_4 (by decide) (fun c4 => ?_) (fun c4 => ?_)
  · skip
    refine j_iconstN (pc := 32) (j := 0) hX dX8_areWeights_32 rfl ?_
    exact j_zret (pc := 33) hX hR (by decide) dX8_areWeights_33 ⟨congrArg some (show Value.int (nI 0) = Value.int (bI (rngB a (-9) 9 && (rngB b (-9) 9 && (rngB c (-9) 9 && rngB d (-9) 9)))) from by first | exact bI_tt (by simp_all; done) | exact bI_ff (by simp_all; done)), rfl⟩
  · skip
    refine j_iload_n (pc := 7) hX dX8_areWeights_7 1 rfl ?_
    refine j_callS (pc := 8) hX kX8_isWeight kSX8_isWeight l_RX8_299 (fun l => c_X8_isWeight G b  l) [] [] [] rfl rfl rfl rfl ⟨rfl, rfl, by decide⟩ rfl rfl (Nat.le_of_ble_eq_true rfl) dX8_areWeights_8 (fun v w hq => ?_)
    obtain ⟨rfl, rfl⟩ := hq
    refine j_ws [] (ws' := []) rfl rfl ?_
    refine j_ifB_eq (pc := 11) (tgt := 32) hX dX8_areWeights_11 (by decide) (fun c11 => ?_) (fun c11 => ?_)
    · skip
      refine j_iconstN (pc := 32) (j := 0) hX dX8_areWeights_32 rfl ?_
      exact j_zret (pc := 33) hX hR (by decide) dX8_areWeights_33 ⟨congrArg some (show Value.int (nI 0) = Value.int (bI (rngB a (-9) 9 && (rngB b (-9) 9 && (rngB c (-9) 9 && rngB d (-9) 9)))) from by first | exact bI_tt (by simp_all; done) | exact bI_ff (by simp_all; done)), rfl⟩
    · skip
      refine j_iload_n (pc := 14) hX dX8_areWeights_14 2 rfl ?_
      refine j_callS (pc := 15) hX kX8_isWeight kSX8_isWeight l_RX8_299 (fun l => c_X8_isWeight G c  l) [] [] [] rfl rfl rfl rfl ⟨rfl, rfl, by decide⟩ rfl rfl (Nat.le_of_ble_eq_true rfl) dX8_areWeights_15 (fun v w hq => ?_)
      obtain ⟨rfl, rfl⟩ := hq
      refine j_ws [] (ws' := []) rfl rfl ?_
      refine j_ifB_eq (pc := 18) (tgt := 32) hX dX8_areWeights_18 (by decide) (fun c18 => ?_) (fun c18 => ?_)
      · skip
        refine j_iconstN (pc := 32) (j := 0) hX dX8_areWeights_32 rfl ?_
        exact j_zret (pc := 33) hX hR (by decide) dX8_areWeights_33 ⟨congrArg some (show Value.int (nI 0) = Value.int (bI (rngB a (-9) 9 && (rngB b (-9) 9 && (rngB c (-9) 9 && rngB d (-9) 9)))) from by first | exact bI_tt (by simp_all; done) | exact bI_ff (by simp_all; done)), rfl⟩
      · skip
        refine j_iload_n (pc := 21) hX dX8_areWeights_21 3 rfl ?_
        refine j_callS (pc := 22) hX kX8_isWeight kSX8_isWeight l_RX8_299 (fun l => c_X8_isWeight G d  l) [] [] [] rfl rfl rfl rfl ⟨rfl, rfl, by decide⟩ rfl rfl (Nat.le_of_ble_eq_true rfl) dX8_areWeights_22 (fun v w hq => ?_)
        obtain ⟨rfl, rfl⟩ := hq
        refine j_ws [] (ws' := []) rfl rfl ?_
        refine j_ifB_eq (pc := 25) (tgt := 32) hX dX8_areWeights_25 (by decide) (fun c25 => ?_) (fun c25 => ?_)
        · skip
          refine j_iconstN (pc := 32) (j := 0) hX dX8_areWeights_32 rfl ?_
          exact j_zret (pc := 33) hX hR (by decide) dX8_areWeights_33 ⟨congrArg some (show Value.int (nI 0) = Value.int (bI (rngB a (-9) 9 && (rngB b (-9) 9 && (rngB c (-9) 9 && rngB d (-9) 9)))) from by first | exact bI_tt (by simp_all; done) | exact bI_ff (by simp_all; done)), rfl⟩
        · skip
          refine j_iconstN (pc := 28) (j := 1) hX dX8_areWeights_28 rfl ?_
          refine j_goto (pc := 29) (tgt := 33) hX dX8_areWeights_29 (by decide) ?_
          exact j_zret (pc := 33) hX hR (by decide) dX8_areWeights_33 ⟨congrArg some (show Value.int (nI 1) = Value.int (bI (rngB a (-9) 9 && (rngB b (-9) 9 && (rngB c (-9) 9 && rngB d (-9) 9)))) from by first | exact bI_tt (by simp_all; done) | exact bI_ff (by simp_all; done)), rfl⟩
set_option maxHeartbeats 4000000 in
set_option maxRecDepth 100000 in
theorem c_X1_has (G : GT) (g W H : Nat) (t : Int32) (b : Nat) (f : Nat → Int32) (x y : Int32) (hW1 : 2 ≤ W) (hW2 : W ≤ 16) (hH1 : 2 ≤ H) (hH2 : H ≤ 16) (l : Launch) : CT l G yX1_has cX1_has 3 (some .boolean) { frames := 0, cells := 0, slots := 0, locals := 0 } [.ref g, .int x, .int y] [(g, .inr (1, [.int (nI W), .int (nI H), .int t, .ref b])), (b, ia G 16 f)] (fun vv ww => vv = some (.int (bI (inG W H x y))) ∧ ww = [(g, .inr (1, [.int (nI W), .int (nI H), .int t, .ref b])), (b, ia G 16 f)]) := by
  refine CT.of (lv := [(0, .ref g), (1, .int x), (2, .int y)]) RX1 "has" rfl rfl (by decide +kernel) (Nat.le_of_ble_eq_true rfl) rfl (fun X hX hR => ?_)
  refine j_iload_n (pc := 0) hX dX1_has_0 1 rfl ?_
  refine j_if_lt (pc := 1) (tgt := 28) hX dX1_has_1 (by decide) rfl (fun c1 => ?_) (fun c1 => ?_)
  · skip
    refine j_iconstN (pc := 28) (j := 0) hX dX1_has_28 rfl ?_
    exact j_zret (pc := 29) hX hR (by decide) dX1_has_29 ⟨congrArg some (show Value.int (nI 0) = Value.int (bI (inG W H x y)) from by first | exact bI_t (by omega) | exact bI_f (by omega)), rfl⟩
  · skip
    refine j_iload_n (pc := 4) hX dX1_has_4 1 rfl ?_
    refine j_aload_n (pc := 5) hX dX1_has_5 0 rfl ?_
    refine j_get (pc := 6) hX f_RX1_9 0 rfl rfl dX1_has_6 ?_
    refine j_icmp_ge (pc := 9) (tgt := 28) hX dX1_has_9 (by decide) rfl (nI_toInt (n := W) (by omega)) (fun c9 => ?_) (fun c9 => ?_)
    · skip
      refine j_iconstN (pc := 28) (j := 0) hX dX1_has_28 rfl ?_
      exact j_zret (pc := 29) hX hR (by decide) dX1_has_29 ⟨congrArg some (show Value.int (nI 0) = Value.int (bI (inG W H x y)) from by first | exact bI_t (by omega) | exact bI_f (by omega)), rfl⟩
    · skip
      refine j_iload_n (pc := 12) hX dX1_has_12 2 rfl ?_
      refine j_if_lt (pc := 13) (tgt := 28) hX dX1_has_13 (by decide) rfl (fun c13 => ?_) (fun c13 => ?_)
      · skip
        refine j_iconstN (pc := 28) (j := 0) hX dX1_has_28 rfl ?_
        exact j_zret (pc := 29) hX hR (by decide) dX1_has_29 ⟨congrArg some (show Value.int (nI 0) = Value.int (bI (inG W H x y)) from by first | exact bI_t (by omega) | exact bI_f (by omega)), rfl⟩
      · skip
        refine j_iload_n (pc := 16) hX dX1_has_16 2 rfl ?_
        refine j_aload_n (pc := 17) hX dX1_has_17 0 rfl ?_
        refine j_get (pc := 18) hX f_RX1_15 0 rfl rfl dX1_has_18 ?_
        refine j_icmp_ge (pc := 21) (tgt := 28) hX dX1_has_21 (by decide) rfl (nI_toInt (n := H) (by omega)) (fun c21 => ?_) (fun c21 => ?_)
        · skip
          refine j_iconstN (pc := 28) (j := 0) hX dX1_has_28 rfl ?_
          exact j_zret (pc := 29) hX hR (by decide) dX1_has_29 ⟨congrArg some (show Value.int (nI 0) = Value.int (bI (inG W H x y)) from by first | exact bI_t (by omega) | exact bI_f (by omega)), rfl⟩
        · skip
          refine j_iconstN (pc := 24) (j := 1) hX dX1_has_24 rfl ?_
          refine j_goto (pc := 25) (tgt := 29) hX dX1_has_25 (by decide) ?_
          exact j_zret (pc := 29) hX hR (by decide) dX1_has_29 ⟨congrArg some (show Value.int (nI 1) = Value.int (bI (inG W H x y)) from by first | exact bI_t (by omega) | exact bI_f (by omega)), rfl⟩
set_option maxHeartbeats 4000000 in
set_option maxRecDepth 100000 in
theorem c_X1_rowAt (G : GT) (g W H : Nat) (t : Int32) (b : Nat) (f : Nat → Int32) (y : Nat) (hW1 : 2 ≤ W) (hW2 : W ≤ 16) (hH1 : 2 ≤ H) (hH2 : H ≤ 16) (hy : y < 16) (l : Launch) : CT l G yX1_rowAt cX1_rowAt 2 (some .int) { frames := 1, cells := 0, slots := 0, locals := 21 } [.ref g, .int (nI y)] [(g, .inr (1, [.int (nI W), .int (nI H), .int t, .ref b])), (b, ia G 16 f)] (fun vv ww => vv = some (.int (f y)) ∧ ww = [(g, .inr (1, [.int (nI W), .int (nI H), .int t, .ref b])), (b, ia G 16 f)]) := by
  refine CT.of (lv := [(0, .ref g), (1, .int (nI y))]) RX1 "rowAt" rfl rfl (by decide +kernel) (Nat.le_of_ble_eq_true rfl) rfl (fun X hX hR => ?_)
  refine j_aload_n (pc := 0) hX dX1_rowAt_0 0 rfl ?_
  refine j_get (pc := 1) hX f_RX1_21 0 rfl rfl dX1_rowAt_1 ?_
  refine j_iload_n (pc := 4) hX dX1_rowAt_4 1 rfl ?_
  refine j_callSN (pc := 5) hX kX8_at kSX8_at l_RX1_25 (fun l => c_X8_at G b 16 f y (by omega) (by omega) l) [1] [0] [] rfl rfl rfl rfl ⟨rfl, rfl, by decide⟩ rfl rfl (Nat.le_of_ble_eq_true rfl) dX1_rowAt_5 (fun v w hq => ?_)
  obtain ⟨rfl, rfl⟩ := hq
  refine j_ws [0, 1] (ws' := [(g, .inr (1, [.int (nI W), .int (nI H), .int t, .ref b])), (b, ia G 16 f)]) rfl rfl ?_
  exact j_iret (pc := 8) hX hR dX1_rowAt_8 ⟨rfl, rfl⟩
set_option maxHeartbeats 4000000 in
set_option maxRecDepth 100000 in
theorem c_X1_phase (G : GT) (g W H : Nat) (t : Int32) (b : Nat) (f : Nat → Int32) (hW1 : 2 ≤ W) (hW2 : W ≤ 16) (hH1 : 2 ≤ H) (hH2 : H ≤ 16) (l : Launch) : CT l G yX1_phase cX1_phase 1 (some .int) { frames := 0, cells := 0, slots := 0, locals := 0 } [.ref g] [(g, .inr (1, [.int (nI W), .int (nI H), .int t, .ref b])), (b, ia G 16 f)] (fun vv ww => vv = some (.int (nI (ph t))) ∧ ww = [(g, .inr (1, [.int (nI W), .int (nI H), .int t, .ref b])), (b, ia G 16 f)]) := by
  refine CT.of (lv := [(0, .ref g)]) RX1 "phase" rfl rfl (by decide +kernel) (Nat.le_of_ble_eq_true rfl) rfl (fun X hX hR => ?_)
  refine j_aload_n (pc := 0) hX dX1_phase_0 0 rfl ?_
  refine j_get (pc := 1) hX f_RX1_18 0 rfl rfl dX1_phase_1 ?_
  refine j_iconstN (pc := 4) (j := 1) hX dX1_phase_4 rfl ?_
  refine j_iand (pc := 5) hX dX1_phase_5 ?_
  refine j_topi (y := nI (ph t)) (and1ph t) ?_
  exact j_iret (pc := 6) hX hR dX1_phase_6 ⟨rfl, rfl⟩
set_option maxHeartbeats 4000000 in
set_option maxRecDepth 100000 in
theorem c_X1_putRow (G : GT) (g W H : Nat) (t : Int32) (b : Nat) (f : Nat → Int32) (y : Nat) (v : Int32) (hW1 : 2 ≤ W) (hW2 : W ≤ 16) (hH1 : 2 ≤ H) (hH2 : H ≤ 16) (hy : y < 16) (l : Launch) : CT l G yX1_putRow cX1_putRow 3 none { frames := 1, cells := 0, slots := 0, locals := 22 } [.ref g, .int (nI y), .int v] [(g, .inr (1, [.int (nI W), .int (nI H), .int t, .ref b])), (b, ia G 16 f)] (fun vv ww => vv = none ∧ ww = [(g, .inr (1, [.int (nI W), .int (nI H), .int t, .ref b])), (b, ia G 16 (upd f y (v &&& msk W)))]) := by
  refine CT.of (lv := [(0, .ref g), (1, .int (nI y)), (2, .int v)]) RX1 "putRow" rfl rfl (by decide +kernel) (Nat.le_of_ble_eq_true rfl) rfl (fun X hX hR => ?_)
  refine j_aload_n (pc := 0) hX dX1_putRow_0 0 rfl ?_
  refine j_get (pc := 1) hX f_RX1_21 0 rfl rfl dX1_putRow_1 ?_
  refine j_iload_n (pc := 4) hX dX1_putRow_4 1 rfl ?_
  refine j_iload_n (pc := 5) hX dX1_putRow_5 2 rfl ?_
  refine j_iconstN (pc := 6) (j := 1) hX dX1_putRow_6 rfl ?_
  refine j_aload_n (pc := 7) hX dX1_putRow_7 0 rfl ?_
  refine j_get (pc := 8) hX f_RX1_9 0 rfl rfl dX1_putRow_8 ?_
  refine j_ishl (pc := 11) hX dX1_putRow_11 ?_
  refine j_iconstN (pc := 12) (j := 1) hX dX1_putRow_12 rfl ?_
  refine j_isub (pc := 13) hX dX1_putRow_13 ?_
  refine j_iand (pc := 14) hX dX1_putRow_14 ?_
  refine j_callSN (pc := 15) hX kX8_put kSX8_put l_RX1_29 (fun l => c_X8_put G b 16 f y (v &&& (((nI 1) <<< ((nI W) &&& 31)) - (nI 1))) (by omega) (by omega) l) [1] [0] [] rfl rfl rfl rfl ⟨rfl, rfl, by decide⟩ rfl rfl (Nat.le_of_ble_eq_true rfl) dX1_putRow_15 (fun v w hq => ?_)
  obtain ⟨rfl, rfl⟩ := hq
  refine j_ws [0, 1] (ws' := [(g, .inr (1, [.int (nI W), .int (nI H), .int t, .ref b])), (b, ia G 16 (upd f y (v &&& (((nI 1) <<< ((nI W) &&& 31)) - (nI 1)))))]) rfl rfl ?_
  refine j_ia (q0 := 1) (f := upd f y (v &&& (((nI 1) <<< ((nI W) &&& 31)) - (nI 1)))) (g := upd f y (v &&& msk W)) rfl (fun z hz => by rfl) (ws' := [(g, .inr (1, [.int (nI W), .int (nI H), .int t, .ref b])), (b, ia G 16 (upd f y (v &&& msk W)))]) rfl ?_
  exact j_vret (pc := 18) hX hR dX1_putRow_18 ⟨rfl, rfl⟩
set_option maxHeartbeats 4000000 in
set_option maxRecDepth 100000 in
theorem c_X1_cellAt (G : GT) (g W H : Nat) (t : Int32) (b : Nat) (f : Nat → Int32) (x y : Nat) (hW1 : 2 ≤ W) (hW2 : W ≤ 16) (hH1 : 2 ≤ H) (hH2 : H ≤ 16) (hx : x < W) (hy : y < H) (l : Launch) : CT l G yX1_cellAt cX1_cellAt 3 (some .int) { frames := 1, cells := 0, slots := 0, locals := 22 } [.ref g, .int (nI x), .int (nI y)] [(g, .inr (1, [.int (nI W), .int (nI H), .int t, .ref b])), (b, ia G 16 f)] (fun vv ww => vv = some (.int (bI (bt (f y) x))) ∧ ww = [(g, .inr (1, [.int (nI W), .int (nI H), .int t, .ref b])), (b, ia G 16 f)]) := by
  refine CT.of (lv := [(0, .ref g), (1, .int (nI x)), (2, .int (nI y))]) RX1 "cellAt" rfl rfl (by decide +kernel) (Nat.le_of_ble_eq_true rfl) rfl (fun X hX hR => ?_)
  refine j_aload_n (pc := 0) hX dX1_cellAt_0 0 rfl ?_
  refine j_iload_n (pc := 1) hX dX1_cellAt_1 1 rfl ?_
  refine j_iload_n (pc := 2) hX dX1_cellAt_2 2 rfl ?_
  refine j_callV (pc := 3) hX kX1_has kVX1_has l_RX1_33 (fun l => c_X1_has G g W H t b f (nI x) (nI y) (by omega) (by omega) (by omega) (by omega) l) [0, 1] [] [] rfl 0 1 rfl rfl rfl rfl rfl rfl ⟨rfl, rfl, by decide⟩ rfl rfl (Nat.le_of_ble_eq_true rfl) dX1_cellAt_3 (fun v w hq => ?_)
  obtain ⟨rfl, rfl⟩ := hq
  refine j_ws [0, 1] (ws' := [(g, .inr (1, [.int (nI W), .int (nI H), .int t, .ref b])), (b, ia G 16 f)]) rfl rfl ?_
  refine j_ifB_eq (pc := 6) (tgt := 24) hX dX1_cellAt_6 (by decide) (fun c6 => by rw [inG_in hx hy hW2 hH2] at c6; cases c6) (fun c6 => ?_)
  refine j_aload_n (pc := 9) hX dX1_cellAt_9 0 rfl ?_
  refine j_get (pc := 10) hX f_RX1_21 0 rfl rfl dX1_cellAt_10 ?_
  refine j_iload_n (pc := 13) hX dX1_cellAt_13 2 rfl ?_
  refine j_callSN (pc := 14) hX kX8_at kSX8_at l_RX1_25 (fun l => c_X8_at G b 16 f y (by omega) (by omega) l) [1] [0] [] rfl rfl rfl rfl ⟨rfl, rfl, by decide⟩ rfl rfl (Nat.le_of_ble_eq_true rfl) dX1_cellAt_14 (fun v w hq => ?_)
  obtain ⟨rfl, rfl⟩ := hq
  refine j_ws [0, 1] (ws' := [(g, .inr (1, [.int (nI W), .int (nI H), .int t, .ref b])), (b, ia G 16 f)]) rfl rfl ?_
  refine j_iload_n (pc := 17) hX dX1_cellAt_17 1 rfl ?_
  refine j_ishr (pc := 18) hX dX1_cellAt_18 ?_
  refine j_iconstN (pc := 19) (j := 1) hX dX1_cellAt_19 rfl ?_
  refine j_iand (pc := 20) hX dX1_cellAt_20 ?_
  refine j_topi (y := bI (bt (f y) x)) (bt_raw _ (by omega)) ?_
  refine j_goto (pc := 21) (tgt := 25) hX dX1_cellAt_21 (by decide) ?_
  exact j_iret (pc := 25) hX hR dX1_cellAt_25 ⟨rfl, rfl⟩
set_option maxHeartbeats 4000000 in
set_option maxRecDepth 100000 in
theorem c_X1_flip (G : GT) (g W H : Nat) (t : Int32) (b : Nat) (f : Nat → Int32) (x y : Nat) (hW1 : 2 ≤ W) (hW2 : W ≤ 16) (hH1 : 2 ≤ H) (hH2 : H ≤ 16) (hx : x < 2147483648) (hy : y < 2147483648) (l : Launch) : CT l G yX1_flip cX1_flip 3 none { frames := 1, cells := 0, slots := 0, locals := 22 } [.ref g, .int (nI x), .int (nI y)] [(g, .inr (1, [.int (nI W), .int (nI H), .int t, .ref b])), (b, ia G 16 f)] (fun vv ww => vv = none ∧ ww = [(g, .inr (1, [.int (nI W), .int (nI H), .int t, .ref b])), (b, ia G 16 (flp W H f x y))]) := by
  refine CT.of (lv := [(0, .ref g), (1, .int (nI x)), (2, .int (nI y))]) RX1 "flip" rfl rfl (by decide +kernel) (Nat.le_of_ble_eq_true rfl) rfl (fun X hX hR => ?_)
  refine j_aload_n (pc := 0) hX dX1_flip_0 0 rfl ?_
  refine j_iload_n (pc := 1) hX dX1_flip_1 1 rfl ?_
  refine j_iload_n (pc := 2) hX dX1_flip_2 2 rfl ?_
  refine j_callV (pc := 3) hX kX1_has kVX1_has l_RX1_33 (fun l => c_X1_has G g W H t b f (nI x) (nI y) (by omega) (by omega) (by omega) (by omega) l) [0, 1] [] [] rfl 0 1 rfl rfl rfl rfl rfl rfl ⟨rfl, rfl, by decide⟩ rfl rfl (Nat.le_of_ble_eq_true rfl) dX1_flip_3 (fun v w hq => ?_)
  obtain ⟨rfl, rfl⟩ := hq
  refine j_ws [0, 1] (ws' := [(g, .inr (1, [.int (nI W), .int (nI H), .int t, .ref b])), (b, ia G 16 f)]) rfl rfl ?_
  refine j_ifB_eq (pc := 6) (tgt := 29) hX dX1_flip_6 (by decide) (fun c6 => ?_) (fun c6 => ?_)
  · skip
    rw [inG_nat hx hy] at c6; have c6 := of_decide_eq_false c6
    refine j_ia (q0 := 1) (f := f) (g := flp W H f x y) rfl (fun z hz => by first | (rw [flp, if_neg c6]; done) | (rw [flp, if_pos c6]; rfl)) (ws' := [(g, .inr (1, [.int (nI W), .int (nI H), .int t, .ref b])), (b, ia G 16 (flp W H f x y))]) rfl ?_
    exact j_vret (pc := 29) hX hR dX1_flip_29 ⟨rfl, rfl⟩
  · skip
    rw [inG_nat hx hy] at c6; have c6 := of_decide_eq_true c6
    refine j_aload_n (pc := 9) hX dX1_flip_9 0 rfl ?_
    refine j_get (pc := 10) hX f_RX1_21 0 rfl rfl dX1_flip_10 ?_
    refine j_iload_n (pc := 13) hX dX1_flip_13 2 rfl ?_
    refine j_aload_n (pc := 14) hX dX1_flip_14 0 rfl ?_
    refine j_get (pc := 15) hX f_RX1_21 0 rfl rfl dX1_flip_15 ?_
    refine j_iload_n (pc := 18) hX dX1_flip_18 2 rfl ?_
    refine j_callSN (pc := 19) hX kX8_at kSX8_at l_RX1_25 (fun l => c_X8_at G b 16 f y (by omega) (by omega) l) [1] [0] [.int (nI y), .ref b] rfl rfl rfl rfl ⟨rfl, rfl, by decide⟩ rfl rfl (Nat.le_of_ble_eq_true rfl) dX1_flip_19 (fun v w hq => ?_)
    obtain ⟨rfl, rfl⟩ := hq
    refine j_ws [0, 1] (ws' := [(g, .inr (1, [.int (nI W), .int (nI H), .int t, .ref b])), (b, ia G 16 f)]) rfl rfl ?_
    refine j_iconstN (pc := 22) (j := 1) hX dX1_flip_22 rfl ?_
    refine j_iload_n (pc := 23) hX dX1_flip_23 1 rfl ?_
    refine j_ishl (pc := 24) hX dX1_flip_24 ?_
    refine j_ixor (pc := 25) hX dX1_flip_25 ?_
    refine j_callSN (pc := 26) hX kX8_put kSX8_put l_RX1_29 (fun l => c_X8_put G b 16 f y ((f y) ^^^ ((nI 1) <<< ((nI x) &&& 31))) (by omega) (by omega) l) [1] [0] [] rfl rfl rfl rfl ⟨rfl, rfl, by decide⟩ rfl rfl (Nat.le_of_ble_eq_true rfl) dX1_flip_26 (fun v w hq => ?_)
    obtain ⟨rfl, rfl⟩ := hq
    refine j_ws [0, 1] (ws' := [(g, .inr (1, [.int (nI W), .int (nI H), .int t, .ref b])), (b, ia G 16 (upd f y ((f y) ^^^ ((nI 1) <<< ((nI x) &&& 31)))))]) rfl rfl ?_
    refine j_ia (q0 := 1) (f := upd f y ((f y) ^^^ ((nI 1) <<< ((nI x) &&& 31)))) (g := flp W H f x y) rfl (fun z hz => by first | (rw [flp, if_neg c6]; done) | (rw [flp, if_pos c6]; rfl)) (ws' := [(g, .inr (1, [.int (nI W), .int (nI H), .int t, .ref b])), (b, ia G 16 (flp W H f x y))]) rfl ?_
    exact j_vret (pc := 29) hX hR dX1_flip_29 ⟨rfl, rfl⟩
