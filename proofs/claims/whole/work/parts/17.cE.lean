set_option maxHeartbeats 4000000 in
set_option maxRecDepth 100000 in
theorem c_X8_rowOf_ok (G : GT) (x : Nat) (nw : Nat) (tk : Nat) (itk : Bool) (ch : Nat) (ah : Nat) (th : Nat) (tp : Nat) (wt : Nat) (rows : Nat) (rfn : Nat → Option Nat) (li : Nat) (rw : Nat) (hl : li < 4) (hr : rfn li = some rw) (l : Launch) : CT l G yX8_rowOf cX8_rowOf 2 (some (.object "BlockCells$Row")) { frames := 0, cells := 0, slots := 0, locals := 0 } [.ref x, .int (nI li)] [(x, .inr (8, [.ref nw, .ref tk, .int (bI itk), .ref ch, .ref ah, .ref th, .ref tp, .ref wt, .ref rows])), (rows, ra G 4 rfn)] (fun vv ww => vv = some (.ref rw) ∧ ww = [(x, .inr (8, [.ref nw, .ref tk, .int (bI itk), .ref ch, .ref ah, .ref th, .ref tp, .ref wt, .ref rows])), (rows, ra G 4 rfn)]) := by
  refine CT.of (lv := [(0, .ref x), (1, .int (nI li))]) RX8 "rowOf" rfl rfl (by decide +kernel) (Nat.le_of_ble_eq_true rfl) rfl (fun X hX hR => ?_)
  refine j_iload_n (pc := 0) hX dX8_rowOf_0 1 rfl ?_
  refine j_if_lt (pc := 1) (tgt := 22) hX dX8_rowOf_1 (by decide) (nI_toInt (n := li) (by omega)) (fun c1 => by exfalso; omega) (fun c1 => ?_)
  refine j_iload_n (pc := 4) hX dX8_rowOf_4 1 rfl ?_
  refine j_aload_n (pc := 5) hX dX8_rowOf_5 0 rfl ?_
  refine j_get (pc := 6) hX f_RX8_60 0 rfl rfl dX8_rowOf_6 ?_
  refine j_len_r (pc := 9) hX 1 rfl dX8_rowOf_9 ?_
  refine j_icmp_ge (pc := 10) (tgt := 22) hX dX8_rowOf_10 (by decide) (nI_toInt (n := li) (by omega)) (nI_toInt (n := 4) (by decide)) (fun c10 => by exfalso; omega) (fun c10 => ?_)
  refine j_aload_n (pc := 13) hX dX8_rowOf_13 0 rfl ?_
  refine j_get (pc := 14) hX f_RX8_60 0 rfl rfl dX8_rowOf_14 ?_
  refine j_iload_n (pc := 17) hX dX8_rowOf_17 1 rfl ?_
  refine j_rald (pc := 18) (j := li) (b := rw) hX 1 rfl (by omega) (by omega) (hr) dX8_rowOf_18 ?_
  refine j_goto (pc := 19) (tgt := 23) hX dX8_rowOf_19 (by decide) ?_
  exact j_aret (pc := 23) hX hR (Or.inr ⟨_, rfl⟩) dX8_rowOf_23 ⟨rfl, rfl⟩
set_option maxHeartbeats 4000000 in
set_option maxRecDepth 100000 in
theorem c_X8_rowOf_no (G : GT) (x : Nat) (nw : Nat) (tk : Nat) (itk : Bool) (ch : Nat) (ah : Nat) (th : Nat) (tp : Nat) (wt : Nat) (rows : Nat) (rfn : Nat → Option Nat) (li : Int32) (hl : li.toInt < 0 ∨ 4 ≤ li.toInt) (l : Launch) : CT l G yX8_rowOf cX8_rowOf 2 (some (.object "BlockCells$Row")) { frames := 0, cells := 0, slots := 0, locals := 0 } [.ref x, .int li] [(x, .inr (8, [.ref nw, .ref tk, .int (bI itk), .ref ch, .ref ah, .ref th, .ref tp, .ref wt, .ref rows])), (rows, ra G 4 rfn)] (fun vv ww => vv = some (.null) ∧ ww = [(x, .inr (8, [.ref nw, .ref tk, .int (bI itk), .ref ch, .ref ah, .ref th, .ref tp, .ref wt, .ref rows])), (rows, ra G 4 rfn)]) := by
  refine CT.of (lv := [(0, .ref x), (1, .int li)]) RX8 "rowOf" rfl rfl (by decide +kernel) (Nat.le_of_ble_eq_true rfl) rfl (fun X hX hR => ?_)
  refine j_iload_n (pc := 0) hX dX8_rowOf_0 1 rfl ?_
  refine j_if_lt (pc := 1) (tgt := 22) hX dX8_rowOf_1 (by decide) rfl (fun c1 => ?_) (fun c1 => ?_)
  · skip
    refine j_null (pc := 22) hX dX8_rowOf_22 ?_
    exact j_aret (pc := 23) hX hR (Or.inl rfl) dX8_rowOf_23 ⟨rfl, rfl⟩
  · skip
    refine j_iload_n (pc := 4) hX dX8_rowOf_4 1 rfl ?_
    refine j_aload_n (pc := 5) hX dX8_rowOf_5 0 rfl ?_
    refine j_get (pc := 6) hX f_RX8_60 0 rfl rfl dX8_rowOf_6 ?_
    refine j_len_r (pc := 9) hX 1 rfl dX8_rowOf_9 ?_
    refine j_icmp_ge (pc := 10) (tgt := 22) hX dX8_rowOf_10 (by decide) rfl (nI_toInt (n := 4) (by decide)) (fun c10 => ?_) (fun c10 => by exfalso; omega)
    refine j_null (pc := 22) hX dX8_rowOf_22 ?_
    exact j_aret (pc := 23) hX hR (Or.inl rfl) dX8_rowOf_23 ⟨rfl, rfl⟩
set_option maxHeartbeats 4000000 in
set_option maxRecDepth 100000 in
theorem c_X8_list_none (G : GT) (x : Nat) (nw : Nat) (tk : Nat) (itk : Bool) (ch : Nat) (ah : Nat) (th : Nat) (tp : Nat) (wt : Nat) (rows : Nat) (rfn : Nat → Option Nat) (li n : Int32) (hl : li.toInt < 0 ∨ 4 ≤ li.toInt) (l : Launch) : CT l G yX8_list cX8_list 4 (some .int) { frames := 1, cells := 0, slots := 0, locals := 22 } [.ref x, .int li, .int n] [(x, .inr (8, [.ref nw, .ref tk, .int (bI itk), .ref ch, .ref ah, .ref th, .ref tp, .ref wt, .ref rows])), (rows, ra G 4 rfn)] (fun vv ww => vv = some (.int (-1)) ∧ ww = [(x, .inr (8, [.ref nw, .ref tk, .int (bI itk), .ref ch, .ref ah, .ref th, .ref tp, .ref wt, .ref rows])), (rows, ra G 4 rfn)]) := by
  refine CT.of (lv := [(0, .ref x), (1, .int li), (2, .int n)]) RX8 "list" rfl rfl (by decide +kernel) (Nat.le_of_ble_eq_true rfl) rfl (fun X hX hR => ?_)
  refine j_aload_n (pc := 0) hX dX8_list_0 0 rfl ?_
  refine j_iload_n (pc := 1) hX dX8_list_1 1 rfl ?_
  refine j_callV (pc := 2) hX kX8_rowOf kVX8_rowOf l_RX8_242 (fun l => c_X8_rowOf_no G x nw tk itk ch ah th tp wt rows rfn li (by omega) l) [0, 1] [] [] rfl 0 8 rfl rfl rfl rfl rfl rfl ⟨rfl, rfl, by decide⟩ rfl rfl (Nat.le_of_ble_eq_true rfl) dX8_list_2 (fun v w hq => ?_)
  obtain ⟨rfl, rfl⟩ := hq
  refine j_ws [0, 1] (ws' := [(x, .inr (8, [.ref nw, .ref tk, .int (bI itk), .ref ch, .ref ah, .ref th, .ref tp, .ref wt, .ref rows])), (rows, ra G 4 rfn)]) rfl rfl ?_
  refine j_astore_nN (pc := 5) (lv' := [(3, .null), (0, .ref x), (1, .int li), (2, .int n)]) hX dX8_list_5 (by decide) rfl ?_
  refine j_aload_nN (pc := 6) hX dX8_list_6 0 rfl ?_
  refine j_ifnonnullN (pc := 7) hX dX8_list_7 ?_
  refine j_iconst (pc := 10) (v := (-1)) hX dX8_list_10 (by decide) ?_
  exact j_iret (pc := 11) hX hR dX8_list_11 ⟨rfl, rfl⟩
set_option maxHeartbeats 4000000 in
set_option maxRecDepth 100000 in
theorem c_X8_list_bad (G : GT) (x : Nat) (nw : Nat) (tk : Nat) (itk : Bool) (ch : Nat) (ah : Nat) (th : Nat) (tp : Nat) (wt : Nat) (rows : Nat) (rfn : Nat → Option Nat) (li : Nat) (rw : Nat) (n : Int32) (hl : li < 4) (hr : rfn li = some rw) (hn : 20 < n.toInt) (l : Launch) : CT l G yX8_list cX8_list 4 (some .int) { frames := 1, cells := 0, slots := 0, locals := 22 } [.ref x, .int (nI li), .int n] [(x, .inr (8, [.ref nw, .ref tk, .int (bI itk), .ref ch, .ref ah, .ref th, .ref tp, .ref wt, .ref rows])), (rows, ra G 4 rfn)] (fun vv ww => vv = some (.int (-2)) ∧ ww = [(x, .inr (8, [.ref nw, .ref tk, .int (bI itk), .ref ch, .ref ah, .ref th, .ref tp, .ref wt, .ref rows])), (rows, ra G 4 rfn)]) := by
  refine CT.of (lv := [(0, .ref x), (1, .int (nI li)), (2, .int n)]) RX8 "list" rfl rfl (by decide +kernel) (Nat.le_of_ble_eq_true rfl) rfl (fun X hX hR => ?_)
  refine j_aload_n (pc := 0) hX dX8_list_0 0 rfl ?_
  refine j_iload_n (pc := 1) hX dX8_list_1 1 rfl ?_
  refine j_callV (pc := 2) hX kX8_rowOf kVX8_rowOf l_RX8_242 (fun l => c_X8_rowOf_ok G x nw tk itk ch ah th tp wt rows rfn li rw (by omega) (by assumption) l) [0, 1] [] [] rfl 0 8 rfl rfl rfl rfl rfl rfl ⟨rfl, rfl, by decide⟩ rfl rfl (Nat.le_of_ble_eq_true rfl) dX8_list_2 (fun v w hq => ?_)
  obtain ⟨rfl, rfl⟩ := hq
  refine j_ws [0, 1] (ws' := [(x, .inr (8, [.ref nw, .ref tk, .int (bI itk), .ref ch, .ref ah, .ref th, .ref tp, .ref wt, .ref rows])), (rows, ra G 4 rfn)]) rfl rfl ?_
  refine j_astore_n (pc := 5) (lv' := [(3, .ref rw), (0, .ref x), (1, .int (nI li)), (2, .int n)]) hX dX8_list_5 (by decide) rfl ?_
  refine j_aload_n (pc := 6) hX dX8_list_6 0 rfl ?_
  refine j_ifnonnullR (pc := 7) (tgt := 12) hX dX8_list_7 (by decide) ?_
  refine j_iload_n (pc := 12) hX dX8_list_12 3 rfl ?_
  refine j_bipush (pc := 13) (v := nI 20) hX dX8_list_13 (by decide) ?_
  refine j_icmp_le (pc := 15) (tgt := 21) hX dX8_list_15 (by decide) rfl (nI_toInt (n := 20) (by decide)) (fun c15 => by exfalso; omega) (fun c15 => ?_)
  refine j_bipush (pc := 18) (v := (-2)) hX dX8_list_18 (by decide) ?_
  exact j_iret (pc := 20) hX hR dX8_list_20 ⟨rfl, rfl⟩
set_option maxHeartbeats 4000000 in
set_option maxRecDepth 100000 in
theorem c_X8_list_neg (G : GT) (x : Nat) (nw : Nat) (tk : Nat) (itk : Bool) (ch : Nat) (ah : Nat) (th : Nat) (tp : Nat) (wt : Nat) (rows : Nat) (rfn : Nat → Option Nat) (li : Nat) (rw : Nat) (n : Int32) (hl : li < 4) (hr : rfn li = some rw) (hn : n.toInt < 0) (l : Launch) : CT l G yX8_list cX8_list 4 (some .int) { frames := 1, cells := 0, slots := 0, locals := 22 } [.ref x, .int (nI li), .int n] [(x, .inr (8, [.ref nw, .ref tk, .int (bI itk), .ref ch, .ref ah, .ref th, .ref tp, .ref wt, .ref rows])), (rows, ra G 4 rfn)] (fun vv ww => vv = some (.int (-14)) ∧ ww = [(x, .inr (8, [.ref nw, .ref tk, .int (bI itk), .ref ch, .ref ah, .ref th, .ref tp, .ref wt, .ref rows])), (rows, ra G 4 rfn)]) := by
  refine CT.of (lv := [(0, .ref x), (1, .int (nI li)), (2, .int n)]) RX8 "list" rfl rfl (by decide +kernel) (Nat.le_of_ble_eq_true rfl) rfl (fun X hX hR => ?_)
  refine j_aload_n (pc := 0) hX dX8_list_0 0 rfl ?_
  refine j_iload_n (pc := 1) hX dX8_list_1 1 rfl ?_
  refine j_callV (pc := 2) hX kX8_rowOf kVX8_rowOf l_RX8_242 (fun l => c_X8_rowOf_ok G x nw tk itk ch ah th tp wt rows rfn li rw (by omega) (by assumption) l) [0, 1] [] [] rfl 0 8 rfl rfl rfl rfl rfl rfl ⟨rfl, rfl, by decide⟩ rfl rfl (Nat.le_of_ble_eq_true rfl) dX8_list_2 (fun v w hq => ?_)
  obtain ⟨rfl, rfl⟩ := hq
  refine j_ws [0, 1] (ws' := [(x, .inr (8, [.ref nw, .ref tk, .int (bI itk), .ref ch, .ref ah, .ref th, .ref tp, .ref wt, .ref rows])), (rows, ra G 4 rfn)]) rfl rfl ?_
  refine j_astore_n (pc := 5) (lv' := [(3, .ref rw), (0, .ref x), (1, .int (nI li)), (2, .int n)]) hX dX8_list_5 (by decide) rfl ?_
  refine j_aload_n (pc := 6) hX dX8_list_6 0 rfl ?_
  refine j_ifnonnullR (pc := 7) (tgt := 12) hX dX8_list_7 (by decide) ?_
  refine j_iload_n (pc := 12) hX dX8_list_12 3 rfl ?_
  refine j_bipush (pc := 13) (v := nI 20) hX dX8_list_13 (by decide) ?_
  refine j_icmp_le (pc := 15) (tgt := 21) hX dX8_list_15 (by decide) rfl (nI_toInt (n := 20) (by decide)) (fun c15 => ?_) (fun c15 => by exfalso; omega)
  refine j_iload_n (pc := 21) hX dX8_list_21 3 rfl ?_
  refine j_if_ge (pc := 22) (tgt := 28) hX dX8_list_22 (by decide) rfl (fun c22 => by exfalso; omega) (fun c22 => ?_)
  refine j_bipush (pc := 25) (v := (-14)) hX dX8_list_25 (by decide) ?_
  exact j_iret (pc := 27) hX hR dX8_list_27 ⟨rfl, rfl⟩
set_option maxHeartbeats 4000000 in
set_option maxRecDepth 100000 in
theorem c_X8_list_ok (G : GT) (x : Nat) (nw : Nat) (tk : Nat) (itk : Bool) (ch : Nat) (ah : Nat) (th : Nat) (tp : Nat) (wt : Nat) (rows : Nat) (rfn : Nat → Option Nat) (rw : Nat) (m_ : Int32) (lo : Nat) (it : Nat → Int64) (li : Nat) (n : Nat) (hl : li < 4) (hr : rfn li = some rw) (hn : n ≤ 20) (l : Launch) : CT l G yX8_list cX8_list 4 (some .int) { frames := 1, cells := 0, slots := 0, locals := 22 } [.ref x, .int (nI li), .int (nI n)] [(x, .inr (8, [.ref nw, .ref tk, .int (bI itk), .ref ch, .ref ah, .ref th, .ref tp, .ref wt, .ref rows])), (rows, ra G 4 rfn), (rw, .inr (2, [.int m_, .ref lo])), (lo, la G 20 it)] (fun vv ww => vv = some (.int (nI 1)) ∧ ww = [(x, .inr (8, [.ref nw, .ref tk, .int (bI itk), .ref ch, .ref ah, .ref th, .ref tp, .ref wt, .ref rows])), (rows, ra G 4 rfn), (rw, .inr (2, [.int (nI n), .ref lo])), (lo, la G 20 (fun _ => 0))]) := by
  refine CT.of (lv := [(0, .ref x), (1, .int (nI li)), (2, .int (nI n))]) RX8 "list" rfl rfl (by decide +kernel) (Nat.le_of_ble_eq_true rfl) rfl (fun X hX hR => ?_)
  refine j_aload_n (pc := 0) hX dX8_list_0 0 rfl ?_
  refine j_iload_n (pc := 1) hX dX8_list_1 1 rfl ?_
  refine j_callV (pc := 2) hX kX8_rowOf kVX8_rowOf l_RX8_242 (fun l => c_X8_rowOf_ok G x nw tk itk ch ah th tp wt rows rfn li rw (by omega) (by assumption) l) [0, 1] [2, 3] [] rfl 0 8 rfl rfl rfl rfl rfl rfl ⟨rfl, rfl, by decide⟩ rfl rfl (Nat.le_of_ble_eq_true rfl) dX8_list_2 (fun v w hq => ?_)
  obtain ⟨rfl, rfl⟩ := hq
  refine j_ws [2, 3, 0, 1] (ws' := [(x, .inr (8, [.ref nw, .ref tk, .int (bI itk), .ref ch, .ref ah, .ref th, .ref tp, .ref wt, .ref rows])), (rows, ra G 4 rfn), (rw, .inr (2, [.int m_, .ref lo])), (lo, la G 20 it)]) rfl rfl ?_
  refine j_astore_n (pc := 5) (lv' := [(3, .ref rw), (0, .ref x), (1, .int (nI li)), (2, .int (nI n))]) hX dX8_list_5 (by decide) rfl ?_
  refine j_aload_n (pc := 6) hX dX8_list_6 0 rfl ?_
  refine j_ifnonnullR (pc := 7) (tgt := 12) hX dX8_list_7 (by decide) ?_
  refine j_iload_n (pc := 12) hX dX8_list_12 3 rfl ?_
  refine j_bipush (pc := 13) (v := nI 20) hX dX8_list_13 (by decide) ?_
  refine j_icmp_le (pc := 15) (tgt := 21) hX dX8_list_15 (by decide) (nI_toInt (n := n) (by omega)) (nI_toInt (n := 20) (by decide)) (fun c15 => ?_) (fun c15 => by exfalso; omega)
  refine j_iload_n (pc := 21) hX dX8_list_21 3 rfl ?_
  refine j_if_ge (pc := 22) (tgt := 28) hX dX8_list_22 (by decide) (nI_toInt (n := n) (by omega)) (fun c22 => ?_) (fun c22 => by exfalso; omega)
  refine j_aload_n (pc := 28) hX dX8_list_28 0 rfl ?_
  refine j_iload_n (pc := 29) hX dX8_list_29 3 rfl ?_
  refine j_callV (pc := 30) hX kX2_becomeZeros kVX2_becomeZeros l_RX8_246 (fun l => c_X2_becomeZeros G rw lo m_ it n  l) [2, 3] [0, 1] [] rfl 0 2 rfl rfl rfl rfl rfl rfl ⟨rfl, rfl, by decide⟩ rfl rfl (Nat.le_of_ble_eq_true rfl) dX8_list_30 (fun v w hq => ?_)
  obtain ⟨rfl, rfl⟩ := hq
  refine j_ws [0, 1, 2, 3] (ws' := [(x, .inr (8, [.ref nw, .ref tk, .int (bI itk), .ref ch, .ref ah, .ref th, .ref tp, .ref wt, .ref rows])), (rows, ra G 4 rfn), (rw, .inr (2, [.int (nI n), .ref lo])), (lo, la G 20 (fun _ => 0))]) rfl rfl ?_
  refine j_iconstN (pc := 33) (j := 1) hX dX8_list_33 rfl ?_
  exact j_iret (pc := 34) hX hR dX8_list_34 ⟨rfl, rfl⟩
set_option maxHeartbeats 4000000 in
set_option maxRecDepth 100000 in
theorem c_X8_set_none (G : GT) (x : Nat) (nw : Nat) (tk : Nat) (itk : Bool) (ch : Nat) (ah : Nat) (th : Nat) (tp : Nat) (wt : Nat) (rows : Nat) (rfn : Nat → Option Nat) (li i : Int32) (v : Int64) (hl : li.toInt < 0 ∨ 4 ≤ li.toInt) (l : Launch) : CT l G yX8_set cX8_set 6 (some .int) { frames := 2, cells := 0, slots := 0, locals := 44 } [.ref x, .int li, .int i, .long v] [(x, .inr (8, [.ref nw, .ref tk, .int (bI itk), .ref ch, .ref ah, .ref th, .ref tp, .ref wt, .ref rows])), (rows, ra G 4 rfn)] (fun vv ww => vv = some (.int (-1)) ∧ ww = [(x, .inr (8, [.ref nw, .ref tk, .int (bI itk), .ref ch, .ref ah, .ref th, .ref tp, .ref wt, .ref rows])), (rows, ra G 4 rfn)]) := by
  refine CT.of (lv := [(0, .ref x), (1, .int li), (2, .int i), (3, .long v)]) RX8 "set" rfl rfl (by decide +kernel) (Nat.le_of_ble_eq_true rfl) rfl (fun X hX hR => ?_)
  refine j_aload_n (pc := 0) hX dX8_set_0 0 rfl ?_
  refine j_iload_n (pc := 1) hX dX8_set_1 1 rfl ?_
  refine j_callV (pc := 2) hX kX8_rowOf kVX8_rowOf l_RX8_242 (fun l => c_X8_rowOf_no G x nw tk itk ch ah th tp wt rows rfn li (by omega) l) [0, 1] [] [] rfl 0 8 rfl rfl rfl rfl rfl rfl ⟨rfl, rfl, by decide⟩ rfl rfl (Nat.le_of_ble_eq_true rfl) dX8_set_2 (fun v w hq => ?_)
  obtain ⟨rfl, rfl⟩ := hq
  refine j_ws [0, 1] (ws' := [(x, .inr (8, [.ref nw, .ref tk, .int (bI itk), .ref ch, .ref ah, .ref th, .ref tp, .ref wt, .ref rows])), (rows, ra G 4 rfn)]) rfl rfl ?_
  refine j_astoreN (pc := 5) (lv' := [(5, .null), (0, .ref x), (1, .int li), (2, .int i), (3, .long v)]) hX dX8_set_5 (by decide) rfl ?_
  refine j_aloadN (pc := 7) hX dX8_set_7 0 rfl ?_
  refine j_ifnonnullN (pc := 9) hX dX8_set_9 ?_
  refine j_iconst (pc := 12) (v := (-1)) hX dX8_set_12 (by decide) ?_
  exact j_iret (pc := 13) hX hR dX8_set_13 ⟨rfl, rfl⟩
set_option maxHeartbeats 4000000 in
set_option maxRecDepth 100000 in
theorem c_X8_set_nothing (G : GT) (x : Nat) (nw : Nat) (tk : Nat) (itk : Bool) (ch : Nat) (ah : Nat) (th : Nat) (tp : Nat) (wt : Nat) (rows : Nat) (rfn : Nat → Option Nat) (rw : Nat) (m_ : Int32) (lo : Nat) (it : Nat → Int64) (li : Nat) (i : Int32) (v : Int64) (hl : li < 4) (hr : rfn li = some rw) (hm : m_.toInt < 0) (l : Launch) : CT l G yX8_set cX8_set 6 (some .int) { frames := 2, cells := 0, slots := 0, locals := 44 } [.ref x, .int (nI li), .int i, .long v] [(x, .inr (8, [.ref nw, .ref tk, .int (bI itk), .ref ch, .ref ah, .ref th, .ref tp, .ref wt, .ref rows])), (rows, ra G 4 rfn), (rw, .inr (2, [.int m_, .ref lo])), (lo, la G 20 it)] (fun vv ww => vv = some (.int (-11)) ∧ ww = [(x, .inr (8, [.ref nw, .ref tk, .int (bI itk), .ref ch, .ref ah, .ref th, .ref tp, .ref wt, .ref rows])), (rows, ra G 4 rfn), (rw, .inr (2, [.int m_, .ref lo])), (lo, la G 20 it)]) := by
  refine CT.of (lv := [(0, .ref x), (1, .int (nI li)), (2, .int i), (3, .long v)]) RX8 "set" rfl rfl (by decide +kernel) (Nat.le_of_ble_eq_true rfl) rfl (fun X hX hR => ?_)
  refine j_aload_n (pc := 0) hX dX8_set_0 0 rfl ?_
  refine j_iload_n (pc := 1) hX dX8_set_1 1 rfl ?_
  refine j_callV (pc := 2) hX kX8_rowOf kVX8_rowOf l_RX8_242 (fun l => c_X8_rowOf_ok G x nw tk itk ch ah th tp wt rows rfn li rw (by omega) (by assumption) l) [0, 1] [2, 3] [] rfl 0 8 rfl rfl rfl rfl rfl rfl ⟨rfl, rfl, by decide⟩ rfl rfl (Nat.le_of_ble_eq_true rfl) dX8_set_2 (fun v w hq => ?_)
  obtain ⟨rfl, rfl⟩ := hq
  refine j_ws [2, 3, 0, 1] (ws' := [(x, .inr (8, [.ref nw, .ref tk, .int (bI itk), .ref ch, .ref ah, .ref th, .ref tp, .ref wt, .ref rows])), (rows, ra G 4 rfn), (rw, .inr (2, [.int m_, .ref lo])), (lo, la G 20 it)]) rfl rfl ?_
  refine j_astore (pc := 5) (lv' := [(5, .ref rw), (0, .ref x), (1, .int (nI li)), (2, .int i), (3, .long v)]) hX dX8_set_5 (by decide) rfl ?_
  refine j_aload (pc := 7) hX dX8_set_7 0 rfl ?_
  refine j_ifnonnullR (pc := 9) (tgt := 14) hX dX8_set_9 (by decide) ?_
  refine j_aload (pc := 14) hX dX8_set_14 0 rfl ?_
  refine j_callV (pc := 16) hX kX2_isNothing kVX2_isNothing l_RX8_249 (fun l => c_X2_isNothing G rw lo m_ it  l) [2, 3] [0, 1] [] rfl 0 2 rfl rfl rfl rfl rfl rfl ⟨rfl, rfl, by decide⟩ rfl rfl (Nat.le_of_ble_eq_true rfl) dX8_set_16 (fun v w hq => ?_)
  obtain ⟨rfl, rfl⟩ := hq
  refine j_ws [0, 1, 2, 3] (ws' := [(x, .inr (8, [.ref nw, .ref tk, .int (bI itk), .ref ch, .ref ah, .ref th, .ref tp, .ref wt, .ref rows])), (rows, ra G 4 rfn), (rw, .inr (2, [.int m_, .ref lo])), (lo, la G 20 it)]) rfl rfl ?_
  refine j_ifB_eq (pc := 19) (tgt := 25) hX dX8_set_19 (by decide) (fun c19 => by have := of_decide_eq_false c19; omega) (fun c19 => ?_)
  refine j_bipush (pc := 22) (v := (-11)) hX dX8_set_22 (by decide) ?_
  exact j_iret (pc := 24) hX hR dX8_set_24 ⟨rfl, rfl⟩
set_option maxHeartbeats 4000000 in
set_option maxRecDepth 100000 in
theorem c_X8_set_place (G : GT) (x : Nat) (nw : Nat) (tk : Nat) (itk : Bool) (ch : Nat) (ah : Nat) (th : Nat) (tp : Nat) (wt : Nat) (rows : Nat) (rfn : Nat → Option Nat) (rw : Nat) (mm : Nat) (lo : Nat) (it : Nat → Int64) (li : Nat) (i : Int32) (v : Int64) (hl : li < 4) (hr : rfn li = some rw) (hmm : mm ≤ 20) (hi : i.toInt < 0 ∨ (mm : Int) ≤ i.toInt) (l : Launch) : CT l G yX8_set cX8_set 6 (some .int) { frames := 2, cells := 0, slots := 0, locals := 44 } [.ref x, .int (nI li), .int i, .long v] [(x, .inr (8, [.ref nw, .ref tk, .int (bI itk), .ref ch, .ref ah, .ref th, .ref tp, .ref wt, .ref rows])), (rows, ra G 4 rfn), (rw, .inr (2, [.int (nI mm), .ref lo])), (lo, la G 20 it)] (fun vv ww => vv = some (.int (-13)) ∧ ww = [(x, .inr (8, [.ref nw, .ref tk, .int (bI itk), .ref ch, .ref ah, .ref th, .ref tp, .ref wt, .ref rows])), (rows, ra G 4 rfn), (rw, .inr (2, [.int (nI mm), .ref lo])), (lo, la G 20 it)]) := by
  refine CT.of (lv := [(0, .ref x), (1, .int (nI li)), (2, .int i), (3, .long v)]) RX8 "set" rfl rfl (by decide +kernel) (Nat.le_of_ble_eq_true rfl) rfl (fun X hX hR => ?_)
  refine j_aload_n (pc := 0) hX dX8_set_0 0 rfl ?_
  refine j_iload_n (pc := 1) hX dX8_set_1 1 rfl ?_
  refine j_callV (pc := 2) hX kX8_rowOf kVX8_rowOf l_RX8_242 (fun l => c_X8_rowOf_ok G x nw tk itk ch ah th tp wt rows rfn li rw (by omega) (by assumption) l) [0, 1] [2, 3] [] rfl 0 8 rfl rfl rfl rfl rfl rfl ⟨rfl, rfl, by decide⟩ rfl rfl (Nat.le_of_ble_eq_true rfl) dX8_set_2 (fun v w hq => ?_)
  obtain ⟨rfl, rfl⟩ := hq
  refine j_ws [2, 3, 0, 1] (ws' := [(x, .inr (8, [.ref nw, .ref tk, .int (bI itk), .ref ch, .ref ah, .ref th, .ref tp, .ref wt, .ref rows])), (rows, ra G 4 rfn), (rw, .inr (2, [.int (nI mm), .ref lo])), (lo, la G 20 it)]) rfl rfl ?_
  refine j_astore (pc := 5) (lv' := [(5, .ref rw), (0, .ref x), (1, .int (nI li)), (2, .int i), (3, .long v)]) hX dX8_set_5 (by decide) rfl ?_
  refine j_aload (pc := 7) hX dX8_set_7 0 rfl ?_
  refine j_ifnonnullR (pc := 9) (tgt := 14) hX dX8_set_9 (by decide) ?_
  refine j_aload (pc := 14) hX dX8_set_14 0 rfl ?_
  refine j_callV (pc := 16) hX kX2_isNothing kVX2_isNothing l_RX8_249 (fun l => c_X2_isNothing G rw lo (nI mm) it  l) [2, 3] [0, 1] [] rfl 0 2 rfl rfl rfl rfl rfl rfl ⟨rfl, rfl, by decide⟩ rfl rfl (Nat.le_of_ble_eq_true rfl) dX8_set_16 (fun v w hq => ?_)
  obtain ⟨rfl, rfl⟩ := hq
  refine j_ws [0, 1, 2, 3] (ws' := [(x, .inr (8, [.ref nw, .ref tk, .int (bI itk), .ref ch, .ref ah, .ref th, .ref tp, .ref wt, .ref rows])), (rows, ra G 4 rfn), (rw, .inr (2, [.int (nI mm), .ref lo])), (lo, la G 20 it)]) rfl rfl ?_
  refine j_ifB_eq (pc := 19) (tgt := 25) hX dX8_set_19 (by decide) (fun c19 => ?_) (fun c19 => by have := of_decide_eq_true c19; (try rw [nI_toInt (by omega)] at this); omega)
  refine j_aload (pc := 25) hX dX8_set_25 0 rfl ?_
  refine j_iload_n (pc := 27) hX dX8_set_27 3 rfl ?_
  refine j_callV (pc := 28) hX kX2_has kVX2_has l_RX8_252 (fun l => c_X2_has G rw lo (nI mm) it i (by first | omega | (rw [nI_toInt (by omega)]; omega)) l) [2, 3] [0, 1] [] rfl 0 2 rfl rfl rfl rfl rfl rfl ⟨rfl, rfl, by decide⟩ rfl rfl (Nat.le_of_ble_eq_true rfl) dX8_set_28 (fun v w hq => ?_)
  obtain ⟨rfl, rfl⟩ := hq
  refine j_ws [0, 1, 2, 3] (ws' := [(x, .inr (8, [.ref nw, .ref tk, .int (bI itk), .ref ch, .ref ah, .ref th, .ref tp, .ref wt, .ref rows])), (rows, ra G 4 rfn), (rw, .inr (2, [.int (nI mm), .ref lo])), (lo, la G 20 it)]) rfl rfl ?_
  refine j_ifB_ne (pc := 31) (tgt := 37) hX dX8_set_31 (by decide) (fun c31 => by have := of_decide_eq_true c31; (try rw [nI_toInt (by omega)] at this); omega) (fun c31 => ?_)
  refine j_bipush (pc := 34) (v := (-13)) hX dX8_set_34 (by decide) ?_
  exact j_iret (pc := 36) hX hR dX8_set_36 ⟨rfl, rfl⟩
set_option maxHeartbeats 4000000 in
set_option maxRecDepth 100000 in
theorem c_X8_set_ok (G : GT) (x : Nat) (nw : Nat) (tk : Nat) (itk : Bool) (ch : Nat) (ah : Nat) (th : Nat) (tp : Nat) (wt : Nat) (rows : Nat) (rfn : Nat → Option Nat) (rw : Nat) (mm : Nat) (lo : Nat) (it : Nat → Int64) (li : Nat) (i : Nat) (v : Int64) (hl : li < 4) (hr : rfn li = some rw) (hmm : mm ≤ 20) (hi : i < mm) (l : Launch) : CT l G yX8_set cX8_set 6 (some .int) { frames := 2, cells := 0, slots := 0, locals := 44 } [.ref x, .int (nI li), .int (nI i), .long v] [(x, .inr (8, [.ref nw, .ref tk, .int (bI itk), .ref ch, .ref ah, .ref th, .ref tp, .ref wt, .ref rows])), (rows, ra G 4 rfn), (rw, .inr (2, [.int (nI mm), .ref lo])), (lo, la G 20 it)] (fun vv ww => vv = some (.int (nI 1)) ∧ ww = [(x, .inr (8, [.ref nw, .ref tk, .int (bI itk), .ref ch, .ref ah, .ref th, .ref tp, .ref wt, .ref rows])), (rows, ra G 4 rfn), (rw, .inr (2, [.int (nI mm), .ref lo])), (lo, la G 20 (vp_updL it i v))]) := by
  refine CT.of (lv := [(0, .ref x), (1, .int (nI li)), (2, .int (nI i)), (3, .long v)]) RX8 "set" rfl rfl (by decide +kernel) (Nat.le_of_ble_eq_true rfl) rfl (fun X hX hR => ?_)
  refine j_aload_n (pc := 0) hX dX8_set_0 0 rfl ?_
  refine j_iload_n (pc := 1) hX dX8_set_1 1 rfl ?_
  refine j_callV (pc := 2) hX kX8_rowOf kVX8_rowOf l_RX8_242 (fun l => c_X8_rowOf_ok G x nw tk itk ch ah th tp wt rows rfn li rw (by omega) (by assumption) l) [0, 1] [2, 3] [] rfl 0 8 rfl rfl rfl rfl rfl rfl ⟨rfl, rfl, by decide⟩ rfl rfl (Nat.le_of_ble_eq_true rfl) dX8_set_2 (fun v w hq => ?_)
  obtain ⟨rfl, rfl⟩ := hq
  refine j_ws [2, 3, 0, 1] (ws' := [(x, .inr (8, [.ref nw, .ref tk, .int (bI itk), .ref ch, .ref ah, .ref th, .ref tp, .ref wt, .ref rows])), (rows, ra G 4 rfn), (rw, .inr (2, [.int (nI mm), .ref lo])), (lo, la G 20 it)]) rfl rfl ?_
  refine j_astore (pc := 5) (lv' := [(5, .ref rw), (0, .ref x), (1, .int (nI li)), (2, .int (nI i)), (3, .long v)]) hX dX8_set_5 (by decide) rfl ?_
  refine j_aload (pc := 7) hX dX8_set_7 0 rfl ?_
  refine j_ifnonnullR (pc := 9) (tgt := 14) hX dX8_set_9 (by decide) ?_
  refine j_aload (pc := 14) hX dX8_set_14 0 rfl ?_
  refine j_callV (pc := 16) hX kX2_isNothing kVX2_isNothing l_RX8_249 (fun l => c_X2_isNothing G rw lo (nI mm) it  l) [2, 3] [0, 1] [] rfl 0 2 rfl rfl rfl rfl rfl rfl ⟨rfl, rfl, by decide⟩ rfl rfl (Nat.le_of_ble_eq_true rfl) dX8_set_16 (fun v w hq => ?_)
  obtain ⟨rfl, rfl⟩ := hq
  refine j_ws [0, 1, 2, 3] (ws' := [(x, .inr (8, [.ref nw, .ref tk, .int (bI itk), .ref ch, .ref ah, .ref th, .ref tp, .ref wt, .ref rows])), (rows, ra G 4 rfn), (rw, .inr (2, [.int (nI mm), .ref lo])), (lo, la G 20 it)]) rfl rfl ?_
  refine j_ifB_eq (pc := 19) (tgt := 25) hX dX8_set_19 (by decide) (fun c19 => ?_) (fun c19 => by have := of_decide_eq_true c19; (try rw [nI_toInt (by omega)] at this); omega)
  refine j_aload (pc := 25) hX dX8_set_25 0 rfl ?_
  refine j_iload_n (pc := 27) hX dX8_set_27 3 rfl ?_
  refine j_callV (pc := 28) hX kX2_has kVX2_has l_RX8_252 (fun l => c_X2_has G rw lo (nI mm) it (nI i) (by first | omega | (rw [nI_toInt (by omega)]; omega)) l) [2, 3] [0, 1] [] rfl 0 2 rfl rfl rfl rfl rfl rfl ⟨rfl, rfl, by decide⟩ rfl rfl (Nat.le_of_ble_eq_true rfl) dX8_set_28 (fun v w hq => ?_)
  obtain ⟨rfl, rfl⟩ := hq
  refine j_ws [0, 1, 2, 3] (ws' := [(x, .inr (8, [.ref nw, .ref tk, .int (bI itk), .ref ch, .ref ah, .ref th, .ref tp, .ref wt, .ref rows])), (rows, ra G 4 rfn), (rw, .inr (2, [.int (nI mm), .ref lo])), (lo, la G 20 it)]) rfl rfl ?_
  refine j_ifB_ne (pc := 31) (tgt := 37) hX dX8_set_31 (by decide) (fun c31 => ?_) (fun c31 => by have := of_decide_eq_false c31; (try rw [nI_toInt (by omega)] at this); (try rw [nI_toInt (by omega)] at this); omega)
  refine j_aload (pc := 37) hX dX8_set_37 0 rfl ?_
  refine j_iload_n (pc := 39) hX dX8_set_39 3 rfl ?_
  refine j_lload_n (pc := 40) hX dX8_set_40 4 rfl ?_
  refine j_callV (pc := 41) hX kX2_write kVX2_write l_RX8_254 (fun l => c_X2_write G rw lo (nI mm) it i v (by first | omega | (rw [nI_toInt (by omega)]; omega)) (by first | omega | (rw [nI_toInt (by omega)]; omega)) l) [2, 3] [0, 1] [] rfl 0 2 rfl rfl rfl rfl rfl rfl ⟨rfl, rfl, by decide⟩ rfl rfl (Nat.le_of_ble_eq_true rfl) dX8_set_41 (fun v w hq => ?_)
  obtain ⟨rfl, rfl⟩ := hq
  refine j_ws [0, 1, 2, 3] (ws' := [(x, .inr (8, [.ref nw, .ref tk, .int (bI itk), .ref ch, .ref ah, .ref th, .ref tp, .ref wt, .ref rows])), (rows, ra G 4 rfn), (rw, .inr (2, [.int (nI mm), .ref lo])), (lo, la G 20 (vp_updL it i v))]) rfl rfl ?_
  refine j_iconstN (pc := 44) (j := 1) hX dX8_set_44 rfl ?_
  exact j_iret (pc := 45) hX hR dX8_set_45 ⟨rfl, rfl⟩
set_option maxHeartbeats 4000000 in
set_option maxRecDepth 100000 in
theorem c_X8_get_none (G : GT) (x : Nat) (nw : Nat) (tk : Nat) (itk : Bool) (ch : Nat) (ah : Nat) (th : Nat) (tp : Nat) (wt : Nat) (rows : Nat) (rfn : Nat → Option Nat) (li i : Int32) (hl : li.toInt < 0 ∨ 4 ≤ li.toInt) (l : Launch) : CT l G yX8_get cX8_get 4 (some .long) { frames := 2, cells := 0, slots := 0, locals := 42 } [.ref x, .int li, .int i] [(x, .inr (8, [.ref nw, .ref tk, .int (bI itk), .ref ch, .ref ah, .ref th, .ref tp, .ref wt, .ref rows])), (rows, ra G 4 rfn)] (fun vv ww => vv = some (.long (-9223372036854775808)) ∧ ww = [(x, .inr (8, [.ref nw, .ref tk, .int (bI itk), .ref ch, .ref ah, .ref th, .ref tp, .ref wt, .ref rows])), (rows, ra G 4 rfn)]) := by
  refine CT.of (lv := [(0, .ref x), (1, .int li), (2, .int i)]) RX8 "get" rfl rfl (by decide +kernel) (Nat.le_of_ble_eq_true rfl) rfl (fun X hX hR => ?_)
  refine j_aload_n (pc := 0) hX dX8_get_0 0 rfl ?_
  refine j_iload_n (pc := 1) hX dX8_get_1 1 rfl ?_
  refine j_callV (pc := 2) hX kX8_rowOf kVX8_rowOf l_RX8_242 (fun l => c_X8_rowOf_no G x nw tk itk ch ah th tp wt rows rfn li (by omega) l) [0, 1] [] [] rfl 0 8 rfl rfl rfl rfl rfl rfl ⟨rfl, rfl, by decide⟩ rfl rfl (Nat.le_of_ble_eq_true rfl) dX8_get_2 (fun v w hq => ?_)
  obtain ⟨rfl, rfl⟩ := hq
  refine j_ws [0, 1] (ws' := [(x, .inr (8, [.ref nw, .ref tk, .int (bI itk), .ref ch, .ref ah, .ref th, .ref tp, .ref wt, .ref rows])), (rows, ra G 4 rfn)]) rfl rfl ?_
  refine j_astore_nN (pc := 5) (lv' := [(3, .null), (0, .ref x), (1, .int li), (2, .int i)]) hX dX8_get_5 (by decide) rfl ?_
  refine j_aload_nN (pc := 6) hX dX8_get_6 0 rfl ?_
  refine j_ifnullN (pc := 7) (tgt := 26) hX dX8_get_7 (by decide) ?_
  refine j_ldc2 (pc := 26) (v := (-9223372036854775808)) hX k_RX8_262 dX8_get_26 ?_
  exact j_lret (pc := 29) hX hR dX8_get_29 ⟨rfl, rfl⟩
set_option maxHeartbeats 4000000 in
set_option maxRecDepth 100000 in
theorem c_X8_get_bad (G : GT) (x : Nat) (nw : Nat) (tk : Nat) (itk : Bool) (ch : Nat) (ah : Nat) (th : Nat) (tp : Nat) (wt : Nat) (rows : Nat) (rfn : Nat → Option Nat) (rw : Nat) (m_ : Int32) (lo : Nat) (it : Nat → Int64) (li : Nat) (i : Int32) (hl : li < 4) (hr : rfn li = some rw) (hm : -1 ≤ m_.toInt ∧ m_.toInt ≤ 20) (hi : i.toInt < 0 ∨ m_.toInt ≤ i.toInt) (l : Launch) : CT l G yX8_get cX8_get 4 (some .long) { frames := 2, cells := 0, slots := 0, locals := 42 } [.ref x, .int (nI li), .int i] [(x, .inr (8, [.ref nw, .ref tk, .int (bI itk), .ref ch, .ref ah, .ref th, .ref tp, .ref wt, .ref rows])), (rows, ra G 4 rfn), (rw, .inr (2, [.int m_, .ref lo])), (lo, la G 20 it)] (fun vv ww => vv = some (.long (-9223372036854775808)) ∧ ww = [(x, .inr (8, [.ref nw, .ref tk, .int (bI itk), .ref ch, .ref ah, .ref th, .ref tp, .ref wt, .ref rows])), (rows, ra G 4 rfn), (rw, .inr (2, [.int m_, .ref lo])), (lo, la G 20 it)]) := by
  refine CT.of (lv := [(0, .ref x), (1, .int (nI li)), (2, .int i)]) RX8 "get" rfl rfl (by decide +kernel) (Nat.le_of_ble_eq_true rfl) rfl (fun X hX hR => ?_)
  refine j_aload_n (pc := 0) hX dX8_get_0 0 rfl ?_
  refine j_iload_n (pc := 1) hX dX8_get_1 1 rfl ?_
  refine j_callV (pc := 2) hX kX8_rowOf kVX8_rowOf l_RX8_242 (fun l => c_X8_rowOf_ok G x nw tk itk ch ah th tp wt rows rfn li rw (by omega) (by assumption) l) [0, 1] [2, 3] [] rfl 0 8 rfl rfl rfl rfl rfl rfl ⟨rfl, rfl, by decide⟩ rfl rfl (Nat.le_of_ble_eq_true rfl) dX8_get_2 (fun v w hq => ?_)
  obtain ⟨rfl, rfl⟩ := hq
  refine j_ws [2, 3, 0, 1] (ws' := [(x, .inr (8, [.ref nw, .ref tk, .int (bI itk), .ref ch, .ref ah, .ref th, .ref tp, .ref wt, .ref rows])), (rows, ra G 4 rfn), (rw, .inr (2, [.int m_, .ref lo])), (lo, la G 20 it)]) rfl rfl ?_
  refine j_astore_n (pc := 5) (lv' := [(3, .ref rw), (0, .ref x), (1, .int (nI li)), (2, .int i)]) hX dX8_get_5 (by decide) rfl ?_
  refine j_aload_n (pc := 6) hX dX8_get_6 0 rfl ?_
  refine j_ifnullR (pc := 7) hX dX8_get_7 ?_
  refine j_aload_n (pc := 10) hX dX8_get_10 0 rfl ?_
  refine j_iload_n (pc := 11) hX dX8_get_11 3 rfl ?_
  refine j_callV (pc := 12) hX kX2_has kVX2_has l_RX8_252 (fun l => c_X2_has G rw lo m_ it i (by first | omega | (rw [nI_toInt (by omega)]; omega)) l) [2, 3] [0, 1] [] rfl 0 2 rfl rfl rfl rfl rfl rfl ⟨rfl, rfl, by decide⟩ rfl rfl (Nat.le_of_ble_eq_true rfl) dX8_get_12 (fun v w hq => ?_)
  obtain ⟨rfl, rfl⟩ := hq
  refine j_ws [0, 1, 2, 3] (ws' := [(x, .inr (8, [.ref nw, .ref tk, .int (bI itk), .ref ch, .ref ah, .ref th, .ref tp, .ref wt, .ref rows])), (rows, ra G 4 rfn), (rw, .inr (2, [.int m_, .ref lo])), (lo, la G 20 it)]) rfl rfl ?_
  refine j_ifB_eq (pc := 15) (tgt := 26) hX dX8_get_15 (by decide) (fun c15 => ?_) (fun c15 => by have := of_decide_eq_true c15; (try rw [nI_toInt (by omega)] at this); omega)
  refine j_ldc2 (pc := 26) (v := (-9223372036854775808)) hX k_RX8_262 dX8_get_26 ?_
  exact j_lret (pc := 29) hX hR dX8_get_29 ⟨rfl, rfl⟩
set_option maxHeartbeats 4000000 in
set_option maxRecDepth 100000 in
theorem c_X8_get_ok (G : GT) (x : Nat) (nw : Nat) (tk : Nat) (itk : Bool) (ch : Nat) (ah : Nat) (th : Nat) (tp : Nat) (wt : Nat) (rows : Nat) (rfn : Nat → Option Nat) (rw : Nat) (mm : Nat) (lo : Nat) (it : Nat → Int64) (li : Nat) (i : Nat) (hl : li < 4) (hr : rfn li = some rw) (hmm : mm ≤ 20) (hi : i < mm) (l : Launch) : CT l G yX8_get cX8_get 4 (some .long) { frames := 2, cells := 0, slots := 0, locals := 42 } [.ref x, .int (nI li), .int (nI i)] [(x, .inr (8, [.ref nw, .ref tk, .int (bI itk), .ref ch, .ref ah, .ref th, .ref tp, .ref wt, .ref rows])), (rows, ra G 4 rfn), (rw, .inr (2, [.int (nI mm), .ref lo])), (lo, la G 20 it)] (fun vv ww => vv = some (.long (it i)) ∧ ww = [(x, .inr (8, [.ref nw, .ref tk, .int (bI itk), .ref ch, .ref ah, .ref th, .ref tp, .ref wt, .ref rows])), (rows, ra G 4 rfn), (rw, .inr (2, [.int (nI mm), .ref lo])), (lo, la G 20 it)]) := by
  refine CT.of (lv := [(0, .ref x), (1, .int (nI li)), (2, .int (nI i))]) RX8 "get" rfl rfl (by decide +kernel) (Nat.le_of_ble_eq_true rfl) rfl (fun X hX hR => ?_)
  refine j_aload_n (pc := 0) hX dX8_get_0 0 rfl ?_
  refine j_iload_n (pc := 1) hX dX8_get_1 1 rfl ?_
  refine j_callV (pc := 2) hX kX8_rowOf kVX8_rowOf l_RX8_242 (fun l => c_X8_rowOf_ok G x nw tk itk ch ah th tp wt rows rfn li rw (by omega) (by assumption) l) [0, 1] [2, 3] [] rfl 0 8 rfl rfl rfl rfl rfl rfl ⟨rfl, rfl, by decide⟩ rfl rfl (Nat.le_of_ble_eq_true rfl) dX8_get_2 (fun v w hq => ?_)
  obtain ⟨rfl, rfl⟩ := hq
  refine j_ws [2, 3, 0, 1] (ws' := [(x, .inr (8, [.ref nw, .ref tk, .int (bI itk), .ref ch, .ref ah, .ref th, .ref tp, .ref wt, .ref rows])), (rows, ra G 4 rfn), (rw, .inr (2, [.int (nI mm), .ref lo])), (lo, la G 20 it)]) rfl rfl ?_
  refine j_astore_n (pc := 5) (lv' := [(3, .ref rw), (0, .ref x), (1, .int (nI li)), (2, .int (nI i))]) hX dX8_get_5 (by decide) rfl ?_
  refine j_aload_n (pc := 6) hX dX8_get_6 0 rfl ?_
  refine j_ifnullR (pc := 7) hX dX8_get_7 ?_
  refine j_aload_n (pc := 10) hX dX8_get_10 0 rfl ?_
  refine j_iload_n (pc := 11) hX dX8_get_11 3 rfl ?_
  refine j_callV (pc := 12) hX kX2_has kVX2_has l_RX8_252 (fun l => c_X2_has G rw lo (nI mm) it (nI i) (by first | omega | (rw [nI_toInt (by omega)]; omega)) l) [2, 3] [0, 1] [] rfl 0 2 rfl rfl rfl rfl rfl rfl ⟨rfl, rfl, by decide⟩ rfl rfl (Nat.le_of_ble_eq_true rfl) dX8_get_12 (fun v w hq => ?_)
  obtain ⟨rfl, rfl⟩ := hq
  refine j_ws [0, 1, 2, 3] (ws' := [(x, .inr (8, [.ref nw, .ref tk, .int (bI itk), .ref ch, .ref ah, .ref th, .ref tp, .ref wt, .ref rows])), (rows, ra G 4 rfn), (rw, .inr (2, [.int (nI mm), .ref lo])), (lo, la G 20 it)]) rfl rfl ?_
  refine j_ifB_eq (pc := 15) (tgt := 26) hX dX8_get_15 (by decide) (fun c15 => by have := of_decide_eq_false c15; (try rw [nI_toInt (by omega)] at this); (try rw [nI_toInt (by omega)] at this); omega) (fun c15 => ?_)
  refine j_aload_n (pc := 18) hX dX8_get_18 0 rfl ?_
  refine j_iload_n (pc := 19) hX dX8_get_19 3 rfl ?_
  refine j_callV (pc := 20) hX kX2_longAt kVX2_longAt l_RX8_258 (fun l => c_X2_longAt G rw lo (nI mm) it i (by first | omega | (rw [nI_toInt (by omega)]; omega)) (by first | omega | (rw [nI_toInt (by omega)]; omega)) l) [2, 3] [0, 1] [] rfl 0 2 rfl rfl rfl rfl rfl rfl ⟨rfl, rfl, by decide⟩ rfl rfl (Nat.le_of_ble_eq_true rfl) dX8_get_20 (fun v w hq => ?_)
  obtain ⟨rfl, rfl⟩ := hq
  refine j_ws [0, 1, 2, 3] (ws' := [(x, .inr (8, [.ref nw, .ref tk, .int (bI itk), .ref ch, .ref ah, .ref th, .ref tp, .ref wt, .ref rows])), (rows, ra G 4 rfn), (rw, .inr (2, [.int (nI mm), .ref lo])), (lo, la G 20 it)]) rfl rfl ?_
  refine j_goto (pc := 23) (tgt := 29) hX dX8_get_23 (by decide) ?_
  exact j_lret (pc := 29) hX hR dX8_get_29 ⟨rfl, rfl⟩
set_option maxHeartbeats 4000000 in
set_option maxRecDepth 100000 in
theorem c_X8_lay_none (G : GT) (x : Nat) (nw : Nat) (tk : Nat) (itk : Bool) (ch : Nat) (ah : Nat) (th : Nat) (tp : Nat) (wt : Nat) (rows : Nat) (rfn : Nat → Option Nat) (li i : Int32) (hl : li.toInt < 0 ∨ 4 ≤ li.toInt) (l : Launch) : CT l G yX8_lay cX8_lay 5 (some .int) { frames := 2, cells := 0, slots := 0, locals := 44 } [.ref x, .int li, .int i] [(x, .inr (8, [.ref nw, .ref tk, .int (bI itk), .ref ch, .ref ah, .ref th, .ref tp, .ref wt, .ref rows])), (rows, ra G 4 rfn)] (fun vv ww => vv = some (.int (-1)) ∧ ww = [(x, .inr (8, [.ref nw, .ref tk, .int (bI itk), .ref ch, .ref ah, .ref th, .ref tp, .ref wt, .ref rows])), (rows, ra G 4 rfn)]) := by
  refine CT.of (lv := [(0, .ref x), (1, .int li), (2, .int i)]) RX8 "lay" rfl rfl (by decide +kernel) (Nat.le_of_ble_eq_true rfl) rfl (fun X hX hR => ?_)
  refine j_aload_n (pc := 0) hX dX8_lay_0 0 rfl ?_
  refine j_iload_n (pc := 1) hX dX8_lay_1 1 rfl ?_
  refine j_callV (pc := 2) hX kX8_rowOf kVX8_rowOf l_RX8_242 (fun l => c_X8_rowOf_no G x nw tk itk ch ah th tp wt rows rfn li (by omega) l) [0, 1] [] [] rfl 0 8 rfl rfl rfl rfl rfl rfl ⟨rfl, rfl, by decide⟩ rfl rfl (Nat.le_of_ble_eq_true rfl) dX8_lay_2 (fun v w hq => ?_)
  obtain ⟨rfl, rfl⟩ := hq
  refine j_ws [0, 1] (ws' := [(x, .inr (8, [.ref nw, .ref tk, .int (bI itk), .ref ch, .ref ah, .ref th, .ref tp, .ref wt, .ref rows])), (rows, ra G 4 rfn)]) rfl rfl ?_
  refine j_astore_nN (pc := 5) (lv' := [(3, .null), (0, .ref x), (1, .int li), (2, .int i)]) hX dX8_lay_5 (by decide) rfl ?_
  refine j_aload_nN (pc := 6) hX dX8_lay_6 0 rfl ?_
  refine j_ifnonnullN (pc := 7) hX dX8_lay_7 ?_
  refine j_iconst (pc := 10) (v := (-1)) hX dX8_lay_10 (by decide) ?_
  exact j_iret (pc := 11) hX hR dX8_lay_11 ⟨rfl, rfl⟩
set_option maxHeartbeats 4000000 in
set_option maxRecDepth 100000 in
theorem c_X8_lay_nothing (G : GT) (x : Nat) (nw : Nat) (tk : Nat) (itk : Bool) (ch : Nat) (ah : Nat) (th : Nat) (tp : Nat) (wt : Nat) (rows : Nat) (rfn : Nat → Option Nat) (rw : Nat) (m_ : Int32) (lo : Nat) (it : Nat → Int64) (li : Nat) (i : Int32) (hl : li < 4) (hr : rfn li = some rw) (hm : m_.toInt < 0) (l : Launch) : CT l G yX8_lay cX8_lay 5 (some .int) { frames := 2, cells := 0, slots := 0, locals := 44 } [.ref x, .int (nI li), .int i] [(x, .inr (8, [.ref nw, .ref tk, .int (bI itk), .ref ch, .ref ah, .ref th, .ref tp, .ref wt, .ref rows])), (rows, ra G 4 rfn), (rw, .inr (2, [.int m_, .ref lo])), (lo, la G 20 it)] (fun vv ww => vv = some (.int (-11)) ∧ ww = [(x, .inr (8, [.ref nw, .ref tk, .int (bI itk), .ref ch, .ref ah, .ref th, .ref tp, .ref wt, .ref rows])), (rows, ra G 4 rfn), (rw, .inr (2, [.int m_, .ref lo])), (lo, la G 20 it)]) := by
  refine CT.of (lv := [(0, .ref x), (1, .int (nI li)), (2, .int i)]) RX8 "lay" rfl rfl (by decide +kernel) (Nat.le_of_ble_eq_true rfl) rfl (fun X hX hR => ?_)
  refine j_aload_n (pc := 0) hX dX8_lay_0 0 rfl ?_
  refine j_iload_n (pc := 1) hX dX8_lay_1 1 rfl ?_
  refine j_callV (pc := 2) hX kX8_rowOf kVX8_rowOf l_RX8_242 (fun l => c_X8_rowOf_ok G x nw tk itk ch ah th tp wt rows rfn li rw (by omega) (by assumption) l) [0, 1] [2, 3] [] rfl 0 8 rfl rfl rfl rfl rfl rfl ⟨rfl, rfl, by decide⟩ rfl rfl (Nat.le_of_ble_eq_true rfl) dX8_lay_2 (fun v w hq => ?_)
  obtain ⟨rfl, rfl⟩ := hq
  refine j_ws [2, 3, 0, 1] (ws' := [(x, .inr (8, [.ref nw, .ref tk, .int (bI itk), .ref ch, .ref ah, .ref th, .ref tp, .ref wt, .ref rows])), (rows, ra G 4 rfn), (rw, .inr (2, [.int m_, .ref lo])), (lo, la G 20 it)]) rfl rfl ?_
  refine j_astore_n (pc := 5) (lv' := [(3, .ref rw), (0, .ref x), (1, .int (nI li)), (2, .int i)]) hX dX8_lay_5 (by decide) rfl ?_
  refine j_aload_n (pc := 6) hX dX8_lay_6 0 rfl ?_
  refine j_ifnonnullR (pc := 7) (tgt := 12) hX dX8_lay_7 (by decide) ?_
  refine j_aload_n (pc := 12) hX dX8_lay_12 0 rfl ?_
  refine j_callV (pc := 13) hX kX2_isNothing kVX2_isNothing l_RX8_249 (fun l => c_X2_isNothing G rw lo m_ it  l) [2, 3] [0, 1] [] rfl 0 2 rfl rfl rfl rfl rfl rfl ⟨rfl, rfl, by decide⟩ rfl rfl (Nat.le_of_ble_eq_true rfl) dX8_lay_13 (fun v w hq => ?_)
  obtain ⟨rfl, rfl⟩ := hq
  refine j_ws [0, 1, 2, 3] (ws' := [(x, .inr (8, [.ref nw, .ref tk, .int (bI itk), .ref ch, .ref ah, .ref th, .ref tp, .ref wt, .ref rows])), (rows, ra G 4 rfn), (rw, .inr (2, [.int m_, .ref lo])), (lo, la G 20 it)]) rfl rfl ?_
  refine j_ifB_eq (pc := 16) (tgt := 22) hX dX8_lay_16 (by decide) (fun c16 => by have := of_decide_eq_false c16; omega) (fun c16 => ?_)
  refine j_bipush (pc := 19) (v := (-11)) hX dX8_lay_19 (by decide) ?_
  exact j_iret (pc := 21) hX hR dX8_lay_21 ⟨rfl, rfl⟩
set_option maxHeartbeats 4000000 in
set_option maxRecDepth 100000 in
theorem c_X8_lay_neg (G : GT) (x : Nat) (nw : Nat) (tk : Nat) (itk : Bool) (ch : Nat) (ah : Nat) (th : Nat) (tp : Nat) (wt : Nat) (rows : Nat) (rfn : Nat → Option Nat) (rw : Nat) (mm : Nat) (lo : Nat) (it : Nat → Int64) (li : Nat) (i : Int32) (hl : li < 4) (hr : rfn li = some rw) (hmm : mm ≤ 20) (hi : i.toInt < 0) (l : Launch) : CT l G yX8_lay cX8_lay 5 (some .int) { frames := 2, cells := 0, slots := 0, locals := 44 } [.ref x, .int (nI li), .int i] [(x, .inr (8, [.ref nw, .ref tk, .int (bI itk), .ref ch, .ref ah, .ref th, .ref tp, .ref wt, .ref rows])), (rows, ra G 4 rfn), (rw, .inr (2, [.int (nI mm), .ref lo])), (lo, la G 20 it)] (fun vv ww => vv = some (.int (-13)) ∧ ww = [(x, .inr (8, [.ref nw, .ref tk, .int (bI itk), .ref ch, .ref ah, .ref th, .ref tp, .ref wt, .ref rows])), (rows, ra G 4 rfn), (rw, .inr (2, [.int (nI mm), .ref lo])), (lo, la G 20 it)]) := by
  refine CT.of (lv := [(0, .ref x), (1, .int (nI li)), (2, .int i)]) RX8 "lay" rfl rfl (by decide +kernel) (Nat.le_of_ble_eq_true rfl) rfl (fun X hX hR => ?_)
  refine j_aload_n (pc := 0) hX dX8_lay_0 0 rfl ?_
  refine j_iload_n (pc := 1) hX dX8_lay_1 1 rfl ?_
  refine j_callV (pc := 2) hX kX8_rowOf kVX8_rowOf l_RX8_242 (fun l => c_X8_rowOf_ok G x nw tk itk ch ah th tp wt rows rfn li rw (by omega) (by assumption) l) [0, 1] [2, 3] [] rfl 0 8 rfl rfl rfl rfl rfl rfl ⟨rfl, rfl, by decide⟩ rfl rfl (Nat.le_of_ble_eq_true rfl) dX8_lay_2 (fun v w hq => ?_)
  obtain ⟨rfl, rfl⟩ := hq
  refine j_ws [2, 3, 0, 1] (ws' := [(x, .inr (8, [.ref nw, .ref tk, .int (bI itk), .ref ch, .ref ah, .ref th, .ref tp, .ref wt, .ref rows])), (rows, ra G 4 rfn), (rw, .inr (2, [.int (nI mm), .ref lo])), (lo, la G 20 it)]) rfl rfl ?_
  refine j_astore_n (pc := 5) (lv' := [(3, .ref rw), (0, .ref x), (1, .int (nI li)), (2, .int i)]) hX dX8_lay_5 (by decide) rfl ?_
  refine j_aload_n (pc := 6) hX dX8_lay_6 0 rfl ?_
  refine j_ifnonnullR (pc := 7) (tgt := 12) hX dX8_lay_7 (by decide) ?_
  refine j_aload_n (pc := 12) hX dX8_lay_12 0 rfl ?_
  refine j_callV (pc := 13) hX kX2_isNothing kVX2_isNothing l_RX8_249 (fun l => c_X2_isNothing G rw lo (nI mm) it  l) [2, 3] [0, 1] [] rfl 0 2 rfl rfl rfl rfl rfl rfl ⟨rfl, rfl, by decide⟩ rfl rfl (Nat.le_of_ble_eq_true rfl) dX8_lay_13 (fun v w hq => ?_)
  obtain ⟨rfl, rfl⟩ := hq
  refine j_ws [0, 1, 2, 3] (ws' := [(x, .inr (8, [.ref nw, .ref tk, .int (bI itk), .ref ch, .ref ah, .ref th, .ref tp, .ref wt, .ref rows])), (rows, ra G 4 rfn), (rw, .inr (2, [.int (nI mm), .ref lo])), (lo, la G 20 it)]) rfl rfl ?_
  refine j_ifB_eq (pc := 16) (tgt := 22) hX dX8_lay_16 (by decide) (fun c16 => ?_) (fun c16 => by have := of_decide_eq_true c16; (try rw [nI_toInt (by omega)] at this); omega)
  refine j_iload_n (pc := 22) hX dX8_lay_22 3 rfl ?_
  refine j_if_ge (pc := 23) (tgt := 29) hX dX8_lay_23 (by decide) rfl (fun c23 => by exfalso; omega) (fun c23 => ?_)
  refine j_bipush (pc := 26) (v := (-13)) hX dX8_lay_26 (by decide) ?_
  exact j_iret (pc := 28) hX hR dX8_lay_28 ⟨rfl, rfl⟩
set_option maxHeartbeats 4000000 in
set_option maxRecDepth 100000 in
theorem c_X8_lay_far (G : GT) (x : Nat) (nw : Nat) (tk : Nat) (itk : Bool) (ch : Nat) (ah : Nat) (th : Nat) (tp : Nat) (wt : Nat) (rows : Nat) (g : Nat) (ru : Nat) (se : Nat) (ev : Nat) (W : Nat) (H : Nat) (t : Int32) (b : Nat) (f : Nat → Int32) (rfn : Nat → Option Nat) (rw : Nat) (mm : Nat) (lo : Nat) (it : Nat → Int64) (li : Nat) (i : Int32) (hl : li < 4) (hr : rfn li = some rw) (hW1 : 2 ≤ W) (hW2 : W ≤ 16) (hH1 : 2 ≤ H) (hH2 : H ≤ 16) (hmm : mm ≤ 20) (hi : 20 ≤ i.toInt) (l : Launch) : CT l G yX8_lay cX8_lay 5 (some .int) { frames := 2, cells := 0, slots := 0, locals := 44 } [.ref x, .int (nI li), .int i] [(x, .inr (8, [.ref nw, .ref tk, .int (bI itk), .ref ch, .ref ah, .ref th, .ref tp, .ref wt, .ref rows])), (nw, .inr (7, [.ref g, .ref ru, .ref se, .ref ev])), (g, .inr (1, [.int (nI W), .int (nI H), .int t, .ref b])), (b, ia G 16 f), (rows, ra G 4 rfn), (rw, .inr (2, [.int (nI mm), .ref lo])), (lo, la G 20 it)] (fun vv ww => vv = some (.int (-13)) ∧ ww = [(x, .inr (8, [.ref nw, .ref tk, .int (bI itk), .ref ch, .ref ah, .ref th, .ref tp, .ref wt, .ref rows])), (nw, .inr (7, [.ref g, .ref ru, .ref se, .ref ev])), (g, .inr (1, [.int (nI W), .int (nI H), .int t, .ref b])), (b, ia G 16 f), (rows, ra G 4 rfn), (rw, .inr (2, [.int (nI mm), .ref lo])), (lo, la G 20 it)]) := by
  refine CT.of (lv := [(0, .ref x), (1, .int (nI li)), (2, .int i)]) RX8 "lay" rfl rfl (by decide +kernel) (Nat.le_of_ble_eq_true rfl) rfl (fun X hX hR => ?_)
  refine j_aload_n (pc := 0) hX dX8_lay_0 0 rfl ?_
  refine j_iload_n (pc := 1) hX dX8_lay_1 1 rfl ?_
  refine j_callV (pc := 2) hX kX8_rowOf kVX8_rowOf l_RX8_242 (fun l => c_X8_rowOf_ok G x nw tk itk ch ah th tp wt rows rfn li rw (by omega) (by assumption) l) [0, 4] [1, 2, 3, 5, 6] [] rfl 0 8 rfl rfl rfl rfl rfl rfl ⟨rfl, rfl, by decide⟩ rfl rfl (Nat.le_of_ble_eq_true rfl) dX8_lay_2 (fun v w hq => ?_)
  obtain ⟨rfl, rfl⟩ := hq
  refine j_ws [5, 0, 1, 2, 6, 3, 4] (ws' := [(x, .inr (8, [.ref nw, .ref tk, .int (bI itk), .ref ch, .ref ah, .ref th, .ref tp, .ref wt, .ref rows])), (nw, .inr (7, [.ref g, .ref ru, .ref se, .ref ev])), (g, .inr (1, [.int (nI W), .int (nI H), .int t, .ref b])), (b, ia G 16 f), (rows, ra G 4 rfn), (rw, .inr (2, [.int (nI mm), .ref lo])), (lo, la G 20 it)]) rfl rfl ?_
  refine j_astore_n (pc := 5) (lv' := [(3, .ref rw), (0, .ref x), (1, .int (nI li)), (2, .int i)]) hX dX8_lay_5 (by decide) rfl ?_
  refine j_aload_n (pc := 6) hX dX8_lay_6 0 rfl ?_
  refine j_ifnonnullR (pc := 7) (tgt := 12) hX dX8_lay_7 (by decide) ?_
  refine j_aload_n (pc := 12) hX dX8_lay_12 0 rfl ?_
  refine j_callV (pc := 13) hX kX2_isNothing kVX2_isNothing l_RX8_249 (fun l => c_X2_isNothing G rw lo (nI mm) it  l) [5, 6] [0, 1, 2, 3, 4] [] rfl 0 2 rfl rfl rfl rfl rfl rfl ⟨rfl, rfl, by decide⟩ rfl rfl (Nat.le_of_ble_eq_true rfl) dX8_lay_13 (fun v w hq => ?_)
  obtain ⟨rfl, rfl⟩ := hq
  refine j_ws [0, 1, 2, 3, 4, 5, 6] (ws' := [(x, .inr (8, [.ref nw, .ref tk, .int (bI itk), .ref ch, .ref ah, .ref th, .ref tp, .ref wt, .ref rows])), (nw, .inr (7, [.ref g, .ref ru, .ref se, .ref ev])), (g, .inr (1, [.int (nI W), .int (nI H), .int t, .ref b])), (b, ia G 16 f), (rows, ra G 4 rfn), (rw, .inr (2, [.int (nI mm), .ref lo])), (lo, la G 20 it)]) rfl rfl ?_
  refine j_ifB_eq (pc := 16) (tgt := 22) hX dX8_lay_16 (by decide) (fun c16 => ?_) (fun c16 => by have := of_decide_eq_true c16; (try rw [nI_toInt (by omega)] at this); omega)
  refine j_iload_n (pc := 22) hX dX8_lay_22 3 rfl ?_
  refine j_if_ge (pc := 23) (tgt := 29) hX dX8_lay_23 (by decide) rfl (fun c23 => ?_) (fun c23 => by exfalso; omega)
  refine j_iconstN (pc := 29) (j := 0) hX dX8_lay_29 rfl ?_
  refine j_istore (pc := 30) (lv' := [(4, .int (nI 0)), (3, .ref rw), (0, .ref x), (1, .int (nI li)), (2, .int i)]) hX dX8_lay_30 (by decide) rfl ?_
  have L32 : ∀ (m32 : Nat) (y : Nat) (hy : y = 0), 0 < m32 → J X G 5 0 0 [(x, .inr (8, [.ref nw, .ref tk, .int (bI itk), .ref ch, .ref ah, .ref th, .ref tp, .ref wt, .ref rows])), (nw, .inr (7, [.ref g, .ref ru, .ref se, .ref ev])), (g, .inr (1, [.int (nI W), .int (nI H), .int t, .ref b])), (b, ia G 16 f), (rows, ra G 4 rfn), (rw, .inr (2, [.int (nI mm), .ref lo])), (lo, la G 20 it)] [(0, .ref x), (1, .int (nI li)), (2, .int i), (3, .ref rw), (4, .int (nI y))] 32 [] := by
    intro m32
    induction m32 with
    | zero => intro y hy hm32; exact absurd hm32 (Nat.not_lt_zero _)
    | succ m32 ih32 =>
      intro y hy hm32
      refine j_iload (pc := 32) hX dX8_lay_32 4 rfl ?_
      refine j_aload_n (pc := 34) hX dX8_lay_34 0 rfl ?_
      refine j_get (pc := 35) hX f_RX8_12 0 rfl rfl dX8_lay_35 ?_
      refine j_getR (pc := 38) hX f_RX8_69 1 rfl rfl dX8_lay_38 ?_
      refine j_get (pc := 41) hX f_RX8_79 2 rfl rfl dX8_lay_41 ?_
      refine j_icmp_ge (pc := 44) (tgt := 88) hX dX8_lay_44 (by decide) (nI_toInt (n := y) (by omega)) (nI_toInt (n := H) (by omega)) (fun c44 => by exfalso; omega) (fun c44 => ?_)
      refine j_aload_n (pc := 47) hX dX8_lay_47 3 rfl ?_
      refine j_iload_n (pc := 48) hX dX8_lay_48 2 rfl ?_
      refine j_iload (pc := 49) hX dX8_lay_49 4 rfl ?_
      refine j_iadd (pc := 51) hX dX8_lay_51 ?_
      refine j_callV (pc := 52) hX kX2_has kVX2_has l_RX8_252 (fun l => c_X2_has G rw lo (nI mm) it (i + (nI y)) (by first | omega | (rw [nI_toInt (by omega)]; omega)) l) [5, 6] [0, 1, 2, 3, 4] [] rfl 0 2 rfl rfl rfl rfl rfl rfl ⟨rfl, rfl, by decide⟩ rfl rfl (Nat.le_of_ble_eq_true rfl) dX8_lay_52 (fun v w hq => ?_)
      obtain ⟨rfl, rfl⟩ := hq
      refine j_ws [0, 1, 2, 3, 4, 5, 6] (ws' := [(x, .inr (8, [.ref nw, .ref tk, .int (bI itk), .ref ch, .ref ah, .ref th, .ref tp, .ref wt, .ref rows])), (nw, .inr (7, [.ref g, .ref ru, .ref se, .ref ev])), (g, .inr (1, [.int (nI W), .int (nI H), .int t, .ref b])), (b, ia G 16 f), (rows, ra G 4 rfn), (rw, .inr (2, [.int (nI mm), .ref lo])), (lo, la G 20 it)]) rfl rfl ?_
      refine j_ifB_ne (pc := 55) (tgt := 61) hX dX8_lay_55 (by decide) (fun c55 => by exfalso; have := of_decide_eq_true c55; rw [hy, show i + nI 0 = i from Int32.add_zero i, nI_toInt (by omega)] at this; omega) (fun c55 => ?_)
      refine j_bipush (pc := 58) (v := (-13)) hX dX8_lay_58 (by decide) ?_
      exact j_iret (pc := 60) hX hR dX8_lay_60 ⟨rfl, rfl⟩
  refine j_lv [2, 3, 4, 1, 0] (lv' := [(0, .ref x), (1, .int (nI li)), (2, .int i), (3, .ref rw), (4, .int (nI 0))]) rfl ?_
  exact L32 (0 + 1) 0 (rfl) (Nat.lt_succ_self _)
set_option maxHeartbeats 4000000 in
set_option maxRecDepth 100000 in
theorem c_X8_lay_fit (G : GT) (x : Nat) (nw : Nat) (tk : Nat) (itk : Bool) (ch : Nat) (ah : Nat) (th : Nat) (tp : Nat) (wt : Nat) (rows : Nat) (g : Nat) (ru : Nat) (se : Nat) (ev : Nat) (W : Nat) (H : Nat) (t : Int32) (b : Nat) (f : Nat → Int32) (rfn : Nat → Option Nat) (rw : Nat) (mm : Nat) (lo : Nat) (it : Nat → Int64) (li : Nat) (i : Nat) (hl : li < 4) (hr : rfn li = some rw) (hW1 : 2 ≤ W) (hW2 : W ≤ 16) (hH1 : 2 ≤ H) (hH2 : H ≤ 16) (hmm : mm ≤ 20) (hi : i + H ≤ mm) (l : Launch) : CT l G yX8_lay cX8_lay 5 (some .int) { frames := 2, cells := 0, slots := 0, locals := 44 } [.ref x, .int (nI li), .int (nI i)] [(x, .inr (8, [.ref nw, .ref tk, .int (bI itk), .ref ch, .ref ah, .ref th, .ref tp, .ref wt, .ref rows])), (nw, .inr (7, [.ref g, .ref ru, .ref se, .ref ev])), (g, .inr (1, [.int (nI W), .int (nI H), .int t, .ref b])), (b, ia G 16 f), (rows, ra G 4 rfn), (rw, .inr (2, [.int (nI mm), .ref lo])), (lo, la G 20 it)] (fun vv ww => vv = some (.int (nI H)) ∧ ww = [(x, .inr (8, [.ref nw, .ref tk, .int (bI itk), .ref ch, .ref ah, .ref th, .ref tp, .ref wt, .ref rows])), (nw, .inr (7, [.ref g, .ref ru, .ref se, .ref ev])), (g, .inr (1, [.int (nI W), .int (nI H), .int t, .ref b])), (b, ia G 16 f), (rows, ra G 4 rfn), (rw, .inr (2, [.int (nI mm), .ref lo])), (lo, la G 20 (layF f i it H))]) := by
  refine CT.of (lv := [(0, .ref x), (1, .int (nI li)), (2, .int (nI i))]) RX8 "lay" rfl rfl (by decide +kernel) (Nat.le_of_ble_eq_true rfl) rfl (fun X hX hR => ?_)
  refine j_aload_n (pc := 0) hX dX8_lay_0 0 rfl ?_
  refine j_iload_n (pc := 1) hX dX8_lay_1 1 rfl ?_
  refine j_callV (pc := 2) hX kX8_rowOf kVX8_rowOf l_RX8_242 (fun l => c_X8_rowOf_ok G x nw tk itk ch ah th tp wt rows rfn li rw (by omega) (by assumption) l) [0, 4] [1, 2, 3, 5, 6] [] rfl 0 8 rfl rfl rfl rfl rfl rfl ⟨rfl, rfl, by decide⟩ rfl rfl (Nat.le_of_ble_eq_true rfl) dX8_lay_2 (fun v w hq => ?_)
  obtain ⟨rfl, rfl⟩ := hq
  refine j_ws [5, 0, 1, 2, 6, 3, 4] (ws' := [(x, .inr (8, [.ref nw, .ref tk, .int (bI itk), .ref ch, .ref ah, .ref th, .ref tp, .ref wt, .ref rows])), (nw, .inr (7, [.ref g, .ref ru, .ref se, .ref ev])), (g, .inr (1, [.int (nI W), .int (nI H), .int t, .ref b])), (b, ia G 16 f), (rows, ra G 4 rfn), (rw, .inr (2, [.int (nI mm), .ref lo])), (lo, la G 20 it)]) rfl rfl ?_
  refine j_astore_n (pc := 5) (lv' := [(3, .ref rw), (0, .ref x), (1, .int (nI li)), (2, .int (nI i))]) hX dX8_lay_5 (by decide) rfl ?_
  refine j_aload_n (pc := 6) hX dX8_lay_6 0 rfl ?_
  refine j_ifnonnullR (pc := 7) (tgt := 12) hX dX8_lay_7 (by decide) ?_
  refine j_aload_n (pc := 12) hX dX8_lay_12 0 rfl ?_
  refine j_callV (pc := 13) hX kX2_isNothing kVX2_isNothing l_RX8_249 (fun l => c_X2_isNothing G rw lo (nI mm) it  l) [5, 6] [0, 1, 2, 3, 4] [] rfl 0 2 rfl rfl rfl rfl rfl rfl ⟨rfl, rfl, by decide⟩ rfl rfl (Nat.le_of_ble_eq_true rfl) dX8_lay_13 (fun v w hq => ?_)
  obtain ⟨rfl, rfl⟩ := hq
  refine j_ws [0, 1, 2, 3, 4, 5, 6] (ws' := [(x, .inr (8, [.ref nw, .ref tk, .int (bI itk), .ref ch, .ref ah, .ref th, .ref tp, .ref wt, .ref rows])), (nw, .inr (7, [.ref g, .ref ru, .ref se, .ref ev])), (g, .inr (1, [.int (nI W), .int (nI H), .int t, .ref b])), (b, ia G 16 f), (rows, ra G 4 rfn), (rw, .inr (2, [.int (nI mm), .ref lo])), (lo, la G 20 it)]) rfl rfl ?_
  refine j_ifB_eq (pc := 16) (tgt := 22) hX dX8_lay_16 (by decide) (fun c16 => ?_) (fun c16 => by have := of_decide_eq_true c16; (try rw [nI_toInt (by omega)] at this); omega)
  refine j_iload_n (pc := 22) hX dX8_lay_22 3 rfl ?_
  refine j_if_ge (pc := 23) (tgt := 29) hX dX8_lay_23 (by decide) (nI_toInt (n := i) (by omega)) (fun c23 => ?_) (fun c23 => by exfalso; omega)
  refine j_iconstN (pc := 29) (j := 0) hX dX8_lay_29 rfl ?_
  refine j_istore (pc := 30) (lv' := [(4, .int (nI 0)), (3, .ref rw), (0, .ref x), (1, .int (nI li)), (2, .int (nI i))]) hX dX8_lay_30 (by decide) rfl ?_
  have L32 : ∀ (m32 : Nat) (y : Nat) (it3 : Nat → Int64) (hy : y ≤ H) (hym : i + y ≤ mm ∨ y = 0) (h3 : it3 = layF f i it y), H - y < m32 → J X G 5 0 0 [(x, .inr (8, [.ref nw, .ref tk, .int (bI itk), .ref ch, .ref ah, .ref th, .ref tp, .ref wt, .ref rows])), (nw, .inr (7, [.ref g, .ref ru, .ref se, .ref ev])), (g, .inr (1, [.int (nI W), .int (nI H), .int t, .ref b])), (b, ia G 16 f), (rows, ra G 4 rfn), (rw, .inr (2, [.int (nI mm), .ref lo])), (lo, la G 20 it3)] [(0, .ref x), (1, .int (nI li)), (2, .int (nI i)), (3, .ref rw), (4, .int (nI y))] 32 [] := by
    intro m32
    induction m32 with
    | zero => intro y it3 hy hym h3 hm32; exact absurd hm32 (Nat.not_lt_zero _)
    | succ m32 ih32 =>
      intro y it3 hy hym h3 hm32
      refine j_iload (pc := 32) hX dX8_lay_32 4 rfl ?_
      refine j_aload_n (pc := 34) hX dX8_lay_34 0 rfl ?_
      refine j_get (pc := 35) hX f_RX8_12 0 rfl rfl dX8_lay_35 ?_
      refine j_getR (pc := 38) hX f_RX8_69 1 rfl rfl dX8_lay_38 ?_
      refine j_get (pc := 41) hX f_RX8_79 2 rfl rfl dX8_lay_41 ?_
      refine j_icmp_ge (pc := 44) (tgt := 88) hX dX8_lay_44 (by decide) (nI_toInt (n := y) (by omega)) (nI_toInt (n := H) (by omega)) (fun c44 => ?_) (fun c44 => ?_)
      · skip
        refine j_aload_n (pc := 88) hX dX8_lay_88 0 rfl ?_
        refine j_get (pc := 89) hX f_RX8_12 0 rfl rfl dX8_lay_89 ?_
        refine j_getR (pc := 92) hX f_RX8_69 1 rfl rfl dX8_lay_92 ?_
        refine j_get (pc := 95) hX f_RX8_79 2 rfl rfl dX8_lay_95 ?_
        refine j_la (q0 := 6) (f := it3) (g := layF f i it H) rfl (fun z hz => by rw [h3, show y = H from by omega]) (ws' := [(x, .inr (8, [.ref nw, .ref tk, .int (bI itk), .ref ch, .ref ah, .ref th, .ref tp, .ref wt, .ref rows])), (nw, .inr (7, [.ref g, .ref ru, .ref se, .ref ev])), (g, .inr (1, [.int (nI W), .int (nI H), .int t, .ref b])), (b, ia G 16 f), (rows, ra G 4 rfn), (rw, .inr (2, [.int (nI mm), .ref lo])), (lo, la G 20 (layF f i it H))]) rfl ?_
        exact j_iret (pc := 98) hX hR dX8_lay_98 ⟨rfl, rfl⟩
      · skip
        refine j_aload_n (pc := 47) hX dX8_lay_47 3 rfl ?_
        refine j_iload_n (pc := 48) hX dX8_lay_48 2 rfl ?_
        refine j_iload (pc := 49) hX dX8_lay_49 4 rfl ?_
        refine j_iadd (pc := 51) hX dX8_lay_51 ?_
        refine j_topi (y := nI (i + y)) (nI_add _ _) ?_
        refine j_callV (pc := 52) hX kX2_has kVX2_has l_RX8_252 (fun l => c_X2_has G rw lo (nI mm) it3 (nI (i + y)) (by first | omega | (rw [nI_toInt (by omega)]; omega)) l) [5, 6] [0, 1, 2, 3, 4] [] rfl 0 2 rfl rfl rfl rfl rfl rfl ⟨rfl, rfl, by decide⟩ rfl rfl (Nat.le_of_ble_eq_true rfl) dX8_lay_52 (fun v w hq => ?_)
        obtain ⟨rfl, rfl⟩ := hq
        refine j_ws [0, 1, 2, 3, 4, 5, 6] (ws' := [(x, .inr (8, [.ref nw, .ref tk, .int (bI itk), .ref ch, .ref ah, .ref th, .ref tp, .ref wt, .ref rows])), (nw, .inr (7, [.ref g, .ref ru, .ref se, .ref ev])), (g, .inr (1, [.int (nI W), .int (nI H), .int t, .ref b])), (b, ia G 16 f), (rows, ra G 4 rfn), (rw, .inr (2, [.int (nI mm), .ref lo])), (lo, la G 20 it3)]) rfl rfl ?_
        refine j_ifB_ne (pc := 55) (tgt := 61) hX dX8_lay_55 (by decide) (fun c55 => ?_) (fun c55 => by have := of_decide_eq_false c55; (try rw [nI_toInt (by omega)] at this); (try rw [nI_toInt (by omega)] at this); omega)
        refine j_aload_n (pc := 61) hX dX8_lay_61 3 rfl ?_
        refine j_iload_n (pc := 62) hX dX8_lay_62 2 rfl ?_
        refine j_iload (pc := 63) hX dX8_lay_63 4 rfl ?_
        refine j_iadd (pc := 65) hX dX8_lay_65 ?_
        refine j_topi (y := nI (i + y)) (nI_add _ _) ?_
        refine j_aload_n (pc := 66) hX dX8_lay_66 0 rfl ?_
        refine j_get (pc := 67) hX f_RX8_12 0 rfl rfl dX8_lay_67 ?_
        refine j_getR (pc := 70) hX f_RX8_69 1 rfl rfl dX8_lay_70 ?_
        refine j_iload (pc := 73) hX dX8_lay_73 4 rfl ?_
        refine j_callV (pc := 75) hX kX1_rowAt kVX1_rowAt l_RX8_264 (fun l => c_X1_rowAt_any G g W H t b f y (by omega) l) [2, 3] [0, 1, 4, 5, 6] [.int (nI (i + y)), .ref rw] rfl 0 1 rfl rfl rfl rfl rfl rfl ⟨rfl, rfl, by decide⟩ rfl rfl (Nat.le_of_ble_eq_true rfl) dX8_lay_75 (fun v w hq => ?_)
        obtain ⟨rfl, rfl⟩ := hq
        refine j_ws [0, 1, 5, 6, 2, 3, 4] (ws' := [(x, .inr (8, [.ref nw, .ref tk, .int (bI itk), .ref ch, .ref ah, .ref th, .ref tp, .ref wt, .ref rows])), (nw, .inr (7, [.ref g, .ref ru, .ref se, .ref ev])), (g, .inr (1, [.int (nI W), .int (nI H), .int t, .ref b])), (b, ia G 16 f), (rows, ra G 4 rfn), (rw, .inr (2, [.int (nI mm), .ref lo])), (lo, la G 20 it3)]) rfl rfl ?_
        refine j_i2l (pc := 78) hX dX8_lay_78 ?_
        refine j_callV (pc := 79) hX kX2_write kVX2_write l_RX8_254 (fun l => c_X2_write G rw lo (nI mm) it3 (i + y) ((f y).toInt64) (by first | omega | (rw [nI_toInt (by omega)]; omega)) (by first | omega | (rw [nI_toInt (by omega)]; omega)) l) [5, 6] [0, 1, 2, 3, 4] [] rfl 0 2 rfl rfl rfl rfl rfl rfl ⟨rfl, rfl, by decide⟩ rfl rfl (Nat.le_of_ble_eq_true rfl) dX8_lay_79 (fun v w hq => ?_)
        obtain ⟨rfl, rfl⟩ := hq
        refine j_ws [0, 1, 2, 3, 4, 5, 6] (ws' := [(x, .inr (8, [.ref nw, .ref tk, .int (bI itk), .ref ch, .ref ah, .ref th, .ref tp, .ref wt, .ref rows])), (nw, .inr (7, [.ref g, .ref ru, .ref se, .ref ev])), (g, .inr (1, [.int (nI W), .int (nI H), .int t, .ref b])), (b, ia G 16 f), (rows, ra G 4 rfn), (rw, .inr (2, [.int (nI mm), .ref lo])), (lo, la G 20 (vp_updL it3 (i + y) ((f y).toInt64)))]) rfl rfl ?_
        refine j_iinc (pc := 82) (q := 4) (v := nI (y + 1)) (lv' := [(4, .int (nI (y + 1))), (0, .ref x), (1, .int (nI li)), (2, .int (nI i)), (3, .ref rw)]) hX dX8_lay_82 rfl (nI_inc _ 1) (by decide) rfl ?_
        refine j_goto (pc := 85) (tgt := 32) hX dX8_lay_85 (by decide) ?_
        refine j_lv [1, 2, 3, 4, 0] (lv' := [(0, .ref x), (1, .int (nI li)), (2, .int (nI i)), (3, .ref rw), (4, .int (nI (y + 1)))]) rfl ?_
        exact ih32 (y + 1) (vp_updL it3 (i + y) ((f y).toInt64)) (by omega) (by omega) (by rw [h3]; rfl) (by omega)
  refine j_lv [2, 3, 4, 1, 0] (lv' := [(0, .ref x), (1, .int (nI li)), (2, .int (nI i)), (3, .ref rw), (4, .int (nI 0))]) rfl ?_
  exact L32 ((H - 0) + 1) 0 it (by omega) (by omega) (rfl) (Nat.lt_succ_self _)
set_option maxHeartbeats 4000000 in
set_option maxRecDepth 100000 in
theorem c_X8_lay_cut (G : GT) (x : Nat) (nw : Nat) (tk : Nat) (itk : Bool) (ch : Nat) (ah : Nat) (th : Nat) (tp : Nat) (wt : Nat) (rows : Nat) (g : Nat) (ru : Nat) (se : Nat) (ev : Nat) (W : Nat) (H : Nat) (t : Int32) (b : Nat) (f : Nat → Int32) (rfn : Nat → Option Nat) (rw : Nat) (mm : Nat) (lo : Nat) (it : Nat → Int64) (li : Nat) (i : Nat) (hl : li < 4) (hr : rfn li = some rw) (hW1 : 2 ≤ W) (hW2 : W ≤ 16) (hH1 : 2 ≤ H) (hH2 : H ≤ 16) (hmm : mm ≤ 20) (hi : mm < i + H) (hi2 : i < 20) (l : Launch) : CT l G yX8_lay cX8_lay 5 (some .int) { frames := 2, cells := 0, slots := 0, locals := 44 } [.ref x, .int (nI li), .int (nI i)] [(x, .inr (8, [.ref nw, .ref tk, .int (bI itk), .ref ch, .ref ah, .ref th, .ref tp, .ref wt, .ref rows])), (nw, .inr (7, [.ref g, .ref ru, .ref se, .ref ev])), (g, .inr (1, [.int (nI W), .int (nI H), .int t, .ref b])), (b, ia G 16 f), (rows, ra G 4 rfn), (rw, .inr (2, [.int (nI mm), .ref lo])), (lo, la G 20 it)] (fun vv ww => vv = some (.int (-13)) ∧ ww = [(x, .inr (8, [.ref nw, .ref tk, .int (bI itk), .ref ch, .ref ah, .ref th, .ref tp, .ref wt, .ref rows])), (nw, .inr (7, [.ref g, .ref ru, .ref se, .ref ev])), (g, .inr (1, [.int (nI W), .int (nI H), .int t, .ref b])), (b, ia G 16 f), (rows, ra G 4 rfn), (rw, .inr (2, [.int (nI mm), .ref lo])), (lo, la G 20 (layF f i it (mm - i)))]) := by
  refine CT.of (lv := [(0, .ref x), (1, .int (nI li)), (2, .int (nI i))]) RX8 "lay" rfl rfl (by decide +kernel) (Nat.le_of_ble_eq_true rfl) rfl (fun X hX hR => ?_)
  refine j_aload_n (pc := 0) hX dX8_lay_0 0 rfl ?_
  refine j_iload_n (pc := 1) hX dX8_lay_1 1 rfl ?_
  refine j_callV (pc := 2) hX kX8_rowOf kVX8_rowOf l_RX8_242 (fun l => c_X8_rowOf_ok G x nw tk itk ch ah th tp wt rows rfn li rw (by omega) (by assumption) l) [0, 4] [1, 2, 3, 5, 6] [] rfl 0 8 rfl rfl rfl rfl rfl rfl ⟨rfl, rfl, by decide⟩ rfl rfl (Nat.le_of_ble_eq_true rfl) dX8_lay_2 (fun v w hq => ?_)
  obtain ⟨rfl, rfl⟩ := hq
  refine j_ws [5, 0, 1, 2, 6, 3, 4] (ws' := [(x, .inr (8, [.ref nw, .ref tk, .int (bI itk), .ref ch, .ref ah, .ref th, .ref tp, .ref wt, .ref rows])), (nw, .inr (7, [.ref g, .ref ru, .ref se, .ref ev])), (g, .inr (1, [.int (nI W), .int (nI H), .int t, .ref b])), (b, ia G 16 f), (rows, ra G 4 rfn), (rw, .inr (2, [.int (nI mm), .ref lo])), (lo, la G 20 it)]) rfl rfl ?_
  refine j_astore_n (pc := 5) (lv' := [(3, .ref rw), (0, .ref x), (1, .int (nI li)), (2, .int (nI i))]) hX dX8_lay_5 (by decide) rfl ?_
  refine j_aload_n (pc := 6) hX dX8_lay_6 0 rfl ?_
  refine j_ifnonnullR (pc := 7) (tgt := 12) hX dX8_lay_7 (by decide) ?_
  refine j_aload_n (pc := 12) hX dX8_lay_12 0 rfl ?_
  refine j_callV (pc := 13) hX kX2_isNothing kVX2_isNothing l_RX8_249 (fun l => c_X2_isNothing G rw lo (nI mm) it  l) [5, 6] [0, 1, 2, 3, 4] [] rfl 0 2 rfl rfl rfl rfl rfl rfl ⟨rfl, rfl, by decide⟩ rfl rfl (Nat.le_of_ble_eq_true rfl) dX8_lay_13 (fun v w hq => ?_)
  obtain ⟨rfl, rfl⟩ := hq
  refine j_ws [0, 1, 2, 3, 4, 5, 6] (ws' := [(x, .inr (8, [.ref nw, .ref tk, .int (bI itk), .ref ch, .ref ah, .ref th, .ref tp, .ref wt, .ref rows])), (nw, .inr (7, [.ref g, .ref ru, .ref se, .ref ev])), (g, .inr (1, [.int (nI W), .int (nI H), .int t, .ref b])), (b, ia G 16 f), (rows, ra G 4 rfn), (rw, .inr (2, [.int (nI mm), .ref lo])), (lo, la G 20 it)]) rfl rfl ?_
  refine j_ifB_eq (pc := 16) (tgt := 22) hX dX8_lay_16 (by decide) (fun c16 => ?_) (fun c16 => by have := of_decide_eq_true c16; (try rw [nI_toInt (by omega)] at this); omega)
  refine j_iload_n (pc := 22) hX dX8_lay_22 3 rfl ?_
  refine j_if_ge (pc := 23) (tgt := 29) hX dX8_lay_23 (by decide) (nI_toInt (n := i) (by omega)) (fun c23 => ?_) (fun c23 => by exfalso; omega)
  refine j_iconstN (pc := 29) (j := 0) hX dX8_lay_29 rfl ?_
  refine j_istore (pc := 30) (lv' := [(4, .int (nI 0)), (3, .ref rw), (0, .ref x), (1, .int (nI li)), (2, .int (nI i))]) hX dX8_lay_30 (by decide) rfl ?_
  have L32 : ∀ (m32 : Nat) (y : Nat) (it3 : Nat → Int64) (hy : y ≤ H) (hym : i + y ≤ mm ∨ y = 0) (h3 : it3 = layF f i it y), H - y < m32 → J X G 5 0 0 [(x, .inr (8, [.ref nw, .ref tk, .int (bI itk), .ref ch, .ref ah, .ref th, .ref tp, .ref wt, .ref rows])), (nw, .inr (7, [.ref g, .ref ru, .ref se, .ref ev])), (g, .inr (1, [.int (nI W), .int (nI H), .int t, .ref b])), (b, ia G 16 f), (rows, ra G 4 rfn), (rw, .inr (2, [.int (nI mm), .ref lo])), (lo, la G 20 it3)] [(0, .ref x), (1, .int (nI li)), (2, .int (nI i)), (3, .ref rw), (4, .int (nI y))] 32 [] := by
    intro m32
    induction m32 with
    | zero => intro y it3 hy hym h3 hm32; exact absurd hm32 (Nat.not_lt_zero _)
    | succ m32 ih32 =>
      intro y it3 hy hym h3 hm32
      refine j_iload (pc := 32) hX dX8_lay_32 4 rfl ?_
      refine j_aload_n (pc := 34) hX dX8_lay_34 0 rfl ?_
      refine j_get (pc := 35) hX f_RX8_12 0 rfl rfl dX8_lay_35 ?_
      refine j_getR (pc := 38) hX f_RX8_69 1 rfl rfl dX8_lay_38 ?_
      refine j_get (pc := 41) hX f_RX8_79 2 rfl rfl dX8_lay_41 ?_
      refine j_icmp_ge (pc := 44) (tgt := 88) hX dX8_lay_44 (by decide) (nI_toInt (n := y) (by omega)) (nI_toInt (n := H) (by omega)) (fun c44 => by exfalso; omega) (fun c44 => ?_)
      refine j_aload_n (pc := 47) hX dX8_lay_47 3 rfl ?_
      refine j_iload_n (pc := 48) hX dX8_lay_48 2 rfl ?_
      refine j_iload (pc := 49) hX dX8_lay_49 4 rfl ?_
      refine j_iadd (pc := 51) hX dX8_lay_51 ?_
      refine j_topi (y := nI (i + y)) (nI_add _ _) ?_
      refine j_callV (pc := 52) hX kX2_has kVX2_has l_RX8_252 (fun l => c_X2_has G rw lo (nI mm) it3 (nI (i + y)) (by first | omega | (rw [nI_toInt (by omega)]; omega)) l) [5, 6] [0, 1, 2, 3, 4] [] rfl 0 2 rfl rfl rfl rfl rfl rfl ⟨rfl, rfl, by decide⟩ rfl rfl (Nat.le_of_ble_eq_true rfl) dX8_lay_52 (fun v w hq => ?_)
      obtain ⟨rfl, rfl⟩ := hq
      refine j_ws [0, 1, 2, 3, 4, 5, 6] (ws' := [(x, .inr (8, [.ref nw, .ref tk, .int (bI itk), .ref ch, .ref ah, .ref th, .ref tp, .ref wt, .ref rows])), (nw, .inr (7, [.ref g, .ref ru, .ref se, .ref ev])), (g, .inr (1, [.int (nI W), .int (nI H), .int t, .ref b])), (b, ia G 16 f), (rows, ra G 4 rfn), (rw, .inr (2, [.int (nI mm), .ref lo])), (lo, la G 20 it3)]) rfl rfl ?_
      refine j_ifB_ne (pc := 55) (tgt := 61) hX dX8_lay_55 (by decide) (fun c55 => ?_) (fun c55 => ?_)
      · skip
        have c55 := of_decide_eq_true c55
        rw [nI_toInt (by omega), nI_toInt (by omega)] at c55
        refine j_aload_n (pc := 61) hX dX8_lay_61 3 rfl ?_
        refine j_iload_n (pc := 62) hX dX8_lay_62 2 rfl ?_
        refine j_iload (pc := 63) hX dX8_lay_63 4 rfl ?_
        refine j_iadd (pc := 65) hX dX8_lay_65 ?_
        refine j_topi (y := nI (i + y)) (nI_add _ _) ?_
        refine j_aload_n (pc := 66) hX dX8_lay_66 0 rfl ?_
        refine j_get (pc := 67) hX f_RX8_12 0 rfl rfl dX8_lay_67 ?_
        refine j_getR (pc := 70) hX f_RX8_69 1 rfl rfl dX8_lay_70 ?_
        refine j_iload (pc := 73) hX dX8_lay_73 4 rfl ?_
        refine j_callV (pc := 75) hX kX1_rowAt kVX1_rowAt l_RX8_264 (fun l => c_X1_rowAt_any G g W H t b f y (by omega) l) [2, 3] [0, 1, 4, 5, 6] [.int (nI (i + y)), .ref rw] rfl 0 1 rfl rfl rfl rfl rfl rfl ⟨rfl, rfl, by decide⟩ rfl rfl (Nat.le_of_ble_eq_true rfl) dX8_lay_75 (fun v w hq => ?_)
        obtain ⟨rfl, rfl⟩ := hq
        refine j_ws [0, 1, 5, 6, 2, 3, 4] (ws' := [(x, .inr (8, [.ref nw, .ref tk, .int (bI itk), .ref ch, .ref ah, .ref th, .ref tp, .ref wt, .ref rows])), (nw, .inr (7, [.ref g, .ref ru, .ref se, .ref ev])), (g, .inr (1, [.int (nI W), .int (nI H), .int t, .ref b])), (b, ia G 16 f), (rows, ra G 4 rfn), (rw, .inr (2, [.int (nI mm), .ref lo])), (lo, la G 20 it3)]) rfl rfl ?_
        refine j_i2l (pc := 78) hX dX8_lay_78 ?_
        refine j_callV (pc := 79) hX kX2_write kVX2_write l_RX8_254 (fun l => c_X2_write G rw lo (nI mm) it3 (i + y) ((f y).toInt64) (by first | omega | (rw [nI_toInt (by omega)]; omega)) (by first | omega | (rw [nI_toInt (by omega)]; omega)) l) [5, 6] [0, 1, 2, 3, 4] [] rfl 0 2 rfl rfl rfl rfl rfl rfl ⟨rfl, rfl, by decide⟩ rfl rfl (Nat.le_of_ble_eq_true rfl) dX8_lay_79 (fun v w hq => ?_)
        obtain ⟨rfl, rfl⟩ := hq
        refine j_ws [0, 1, 2, 3, 4, 5, 6] (ws' := [(x, .inr (8, [.ref nw, .ref tk, .int (bI itk), .ref ch, .ref ah, .ref th, .ref tp, .ref wt, .ref rows])), (nw, .inr (7, [.ref g, .ref ru, .ref se, .ref ev])), (g, .inr (1, [.int (nI W), .int (nI H), .int t, .ref b])), (b, ia G 16 f), (rows, ra G 4 rfn), (rw, .inr (2, [.int (nI mm), .ref lo])), (lo, la G 20 (vp_updL it3 (i + y) ((f y).toInt64)))]) rfl rfl ?_
        refine j_iinc (pc := 82) (q := 4) (v := nI (y + 1)) (lv' := [(4, .int (nI (y + 1))), (0, .ref x), (1, .int (nI li)), (2, .int (nI i)), (3, .ref rw)]) hX dX8_lay_82 rfl (nI_inc _ 1) (by decide) rfl ?_
        refine j_goto (pc := 85) (tgt := 32) hX dX8_lay_85 (by decide) ?_
        refine j_lv [1, 2, 3, 4, 0] (lv' := [(0, .ref x), (1, .int (nI li)), (2, .int (nI i)), (3, .ref rw), (4, .int (nI (y + 1)))]) rfl ?_
        exact ih32 (y + 1) (vp_updL it3 (i + y) ((f y).toInt64)) (by omega) (by omega) (by rw [h3]; rfl) (by omega)
      · skip
        have c55 := of_decide_eq_false c55
        rw [nI_toInt (by omega), nI_toInt (by omega)] at c55
        refine j_bipush (pc := 58) (v := (-13)) hX dX8_lay_58 (by decide) ?_
        refine j_la (q0 := 6) (f := it3) (g := layF f i it (mm - i)) rfl (fun z hz => by rw [h3, show y = mm - i from by omega]) (ws' := [(x, .inr (8, [.ref nw, .ref tk, .int (bI itk), .ref ch, .ref ah, .ref th, .ref tp, .ref wt, .ref rows])), (nw, .inr (7, [.ref g, .ref ru, .ref se, .ref ev])), (g, .inr (1, [.int (nI W), .int (nI H), .int t, .ref b])), (b, ia G 16 f), (rows, ra G 4 rfn), (rw, .inr (2, [.int (nI mm), .ref lo])), (lo, la G 20 (layF f i it (mm - i)))]) rfl ?_
        exact j_iret (pc := 60) hX hR dX8_lay_60 ⟨rfl, rfl⟩
  refine j_lv [2, 3, 4, 1, 0] (lv' := [(0, .ref x), (1, .int (nI li)), (2, .int (nI i)), (3, .ref rw), (4, .int (nI 0))]) rfl ?_
  exact L32 ((H - 0) + 1) 0 it (by omega) (by omega) (rfl) (Nat.lt_succ_self _)
set_option maxHeartbeats 4000000 in
set_option maxRecDepth 100000 in
theorem c_X8_load_none (G : GT) (x : Nat) (nw : Nat) (tk : Nat) (itk : Bool) (ch : Nat) (ah : Nat) (th : Nat) (tp : Nat) (wt : Nat) (rows : Nat) (rfn : Nat → Option Nat) (li i : Int32) (hl : li.toInt < 0 ∨ 4 ≤ li.toInt) (l : Launch) : CT l G yX8_load cX8_load 5 (some .int) { frames := 2, cells := 0, slots := 0, locals := 44 } [.ref x, .int li, .int i] [(x, .inr (8, [.ref nw, .ref tk, .int (bI itk), .ref ch, .ref ah, .ref th, .ref tp, .ref wt, .ref rows])), (rows, ra G 4 rfn)] (fun vv ww => vv = some (.int (-1)) ∧ ww = [(x, .inr (8, [.ref nw, .ref tk, .int (bI itk), .ref ch, .ref ah, .ref th, .ref tp, .ref wt, .ref rows])), (rows, ra G 4 rfn)]) := by
  refine CT.of (lv := [(0, .ref x), (1, .int li), (2, .int i)]) RX8 "load" rfl rfl (by decide +kernel) (Nat.le_of_ble_eq_true rfl) rfl (fun X hX hR => ?_)
  refine j_aload_n (pc := 0) hX dX8_load_0 0 rfl ?_
  refine j_iload_n (pc := 1) hX dX8_load_1 1 rfl ?_
  refine j_callV (pc := 2) hX kX8_rowOf kVX8_rowOf l_RX8_242 (fun l => c_X8_rowOf_no G x nw tk itk ch ah th tp wt rows rfn li (by omega) l) [0, 1] [] [] rfl 0 8 rfl rfl rfl rfl rfl rfl ⟨rfl, rfl, by decide⟩ rfl rfl (Nat.le_of_ble_eq_true rfl) dX8_load_2 (fun v w hq => ?_)
  obtain ⟨rfl, rfl⟩ := hq
  refine j_ws [0, 1] (ws' := [(x, .inr (8, [.ref nw, .ref tk, .int (bI itk), .ref ch, .ref ah, .ref th, .ref tp, .ref wt, .ref rows])), (rows, ra G 4 rfn)]) rfl rfl ?_
  refine j_astore_nN (pc := 5) (lv' := [(3, .null), (0, .ref x), (1, .int li), (2, .int i)]) hX dX8_load_5 (by decide) rfl ?_
  refine j_aload_nN (pc := 6) hX dX8_load_6 0 rfl ?_
  refine j_ifnonnullN (pc := 7) hX dX8_load_7 ?_
  refine j_iconst (pc := 10) (v := (-1)) hX dX8_load_10 (by decide) ?_
  exact j_iret (pc := 11) hX hR dX8_load_11 ⟨rfl, rfl⟩
set_option maxHeartbeats 4000000 in
set_option maxRecDepth 100000 in
theorem c_X8_load_nothing (G : GT) (x : Nat) (nw : Nat) (tk : Nat) (itk : Bool) (ch : Nat) (ah : Nat) (th : Nat) (tp : Nat) (wt : Nat) (rows : Nat) (rfn : Nat → Option Nat) (rw : Nat) (m_ : Int32) (lo : Nat) (it : Nat → Int64) (li : Nat) (i : Int32) (hl : li < 4) (hr : rfn li = some rw) (hm : m_.toInt < 0) (l : Launch) : CT l G yX8_load cX8_load 5 (some .int) { frames := 2, cells := 0, slots := 0, locals := 44 } [.ref x, .int (nI li), .int i] [(x, .inr (8, [.ref nw, .ref tk, .int (bI itk), .ref ch, .ref ah, .ref th, .ref tp, .ref wt, .ref rows])), (rows, ra G 4 rfn), (rw, .inr (2, [.int m_, .ref lo])), (lo, la G 20 it)] (fun vv ww => vv = some (.int (-11)) ∧ ww = [(x, .inr (8, [.ref nw, .ref tk, .int (bI itk), .ref ch, .ref ah, .ref th, .ref tp, .ref wt, .ref rows])), (rows, ra G 4 rfn), (rw, .inr (2, [.int m_, .ref lo])), (lo, la G 20 it)]) := by
  refine CT.of (lv := [(0, .ref x), (1, .int (nI li)), (2, .int i)]) RX8 "load" rfl rfl (by decide +kernel) (Nat.le_of_ble_eq_true rfl) rfl (fun X hX hR => ?_)
  refine j_aload_n (pc := 0) hX dX8_load_0 0 rfl ?_
  refine j_iload_n (pc := 1) hX dX8_load_1 1 rfl ?_
  refine j_callV (pc := 2) hX kX8_rowOf kVX8_rowOf l_RX8_242 (fun l => c_X8_rowOf_ok G x nw tk itk ch ah th tp wt rows rfn li rw (by omega) (by assumption) l) [0, 1] [2, 3] [] rfl 0 8 rfl rfl rfl rfl rfl rfl ⟨rfl, rfl, by decide⟩ rfl rfl (Nat.le_of_ble_eq_true rfl) dX8_load_2 (fun v w hq => ?_)
  obtain ⟨rfl, rfl⟩ := hq
  refine j_ws [2, 3, 0, 1] (ws' := [(x, .inr (8, [.ref nw, .ref tk, .int (bI itk), .ref ch, .ref ah, .ref th, .ref tp, .ref wt, .ref rows])), (rows, ra G 4 rfn), (rw, .inr (2, [.int m_, .ref lo])), (lo, la G 20 it)]) rfl rfl ?_
  refine j_astore_n (pc := 5) (lv' := [(3, .ref rw), (0, .ref x), (1, .int (nI li)), (2, .int i)]) hX dX8_load_5 (by decide) rfl ?_
  refine j_aload_n (pc := 6) hX dX8_load_6 0 rfl ?_
  refine j_ifnonnullR (pc := 7) (tgt := 12) hX dX8_load_7 (by decide) ?_
  refine j_aload_n (pc := 12) hX dX8_load_12 0 rfl ?_
  refine j_callV (pc := 13) hX kX2_isNothing kVX2_isNothing l_RX8_249 (fun l => c_X2_isNothing G rw lo m_ it  l) [2, 3] [0, 1] [] rfl 0 2 rfl rfl rfl rfl rfl rfl ⟨rfl, rfl, by decide⟩ rfl rfl (Nat.le_of_ble_eq_true rfl) dX8_load_13 (fun v w hq => ?_)
  obtain ⟨rfl, rfl⟩ := hq
  refine j_ws [0, 1, 2, 3] (ws' := [(x, .inr (8, [.ref nw, .ref tk, .int (bI itk), .ref ch, .ref ah, .ref th, .ref tp, .ref wt, .ref rows])), (rows, ra G 4 rfn), (rw, .inr (2, [.int m_, .ref lo])), (lo, la G 20 it)]) rfl rfl ?_
  refine j_ifB_eq (pc := 16) (tgt := 22) hX dX8_load_16 (by decide) (fun c16 => by have := of_decide_eq_false c16; omega) (fun c16 => ?_)
  refine j_bipush (pc := 19) (v := (-11)) hX dX8_load_19 (by decide) ?_
  exact j_iret (pc := 21) hX hR dX8_load_21 ⟨rfl, rfl⟩
set_option maxHeartbeats 4000000 in
set_option maxRecDepth 100000 in
theorem c_X8_load_place (G : GT) (x : Nat) (nw : Nat) (tk : Nat) (itk : Bool) (ch : Nat) (ah : Nat) (th : Nat) (tp : Nat) (wt : Nat) (rows : Nat) (g : Nat) (ru : Nat) (se : Nat) (ev : Nat) (W : Nat) (H : Nat) (t : Int32) (b : Nat) (f : Nat → Int32) (rfn : Nat → Option Nat) (rw : Nat) (mm : Nat) (lo : Nat) (it : Nat → Int64) (li : Nat) (i : Int32) (hl : li < 4) (hr : rfn li = some rw) (hW1 : 2 ≤ W) (hW2 : W ≤ 16) (hH1 : 2 ≤ H) (hH2 : H ≤ 16) (hmm : mm ≤ 20) (hi : i.toInt < 0 ∨ (mm : Int) < i.toInt + H) (l : Launch) : CT l G yX8_load cX8_load 5 (some .int) { frames := 2, cells := 0, slots := 0, locals := 44 } [.ref x, .int (nI li), .int i] [(x, .inr (8, [.ref nw, .ref tk, .int (bI itk), .ref ch, .ref ah, .ref th, .ref tp, .ref wt, .ref rows])), (nw, .inr (7, [.ref g, .ref ru, .ref se, .ref ev])), (g, .inr (1, [.int (nI W), .int (nI H), .int t, .ref b])), (b, ia G 16 f), (rows, ra G 4 rfn), (rw, .inr (2, [.int (nI mm), .ref lo])), (lo, la G 20 it)] (fun vv ww => vv = some (.int (-13)) ∧ ww = [(x, .inr (8, [.ref nw, .ref tk, .int (bI itk), .ref ch, .ref ah, .ref th, .ref tp, .ref wt, .ref rows])), (nw, .inr (7, [.ref g, .ref ru, .ref se, .ref ev])), (g, .inr (1, [.int (nI W), .int (nI H), .int t, .ref b])), (b, ia G 16 f), (rows, ra G 4 rfn), (rw, .inr (2, [.int (nI mm), .ref lo])), (lo, la G 20 it)]) := by
  refine CT.of (lv := [(0, .ref x), (1, .int (nI li)), (2, .int i)]) RX8 "load" rfl rfl (by decide +kernel) (Nat.le_of_ble_eq_true rfl) rfl (fun X hX hR => ?_)
  refine j_aload_n (pc := 0) hX dX8_load_0 0 rfl ?_
  refine j_iload_n (pc := 1) hX dX8_load_1 1 rfl ?_
  refine j_callV (pc := 2) hX kX8_rowOf kVX8_rowOf l_RX8_242 (fun l => c_X8_rowOf_ok G x nw tk itk ch ah th tp wt rows rfn li rw (by omega) (by assumption) l) [0, 4] [1, 2, 3, 5, 6] [] rfl 0 8 rfl rfl rfl rfl rfl rfl ⟨rfl, rfl, by decide⟩ rfl rfl (Nat.le_of_ble_eq_true rfl) dX8_load_2 (fun v w hq => ?_)
  obtain ⟨rfl, rfl⟩ := hq
  refine j_ws [5, 0, 1, 2, 6, 3, 4] (ws' := [(x, .inr (8, [.ref nw, .ref tk, .int (bI itk), .ref ch, .ref ah, .ref th, .ref tp, .ref wt, .ref rows])), (nw, .inr (7, [.ref g, .ref ru, .ref se, .ref ev])), (g, .inr (1, [.int (nI W), .int (nI H), .int t, .ref b])), (b, ia G 16 f), (rows, ra G 4 rfn), (rw, .inr (2, [.int (nI mm), .ref lo])), (lo, la G 20 it)]) rfl rfl ?_
  refine j_astore_n (pc := 5) (lv' := [(3, .ref rw), (0, .ref x), (1, .int (nI li)), (2, .int i)]) hX dX8_load_5 (by decide) rfl ?_
  refine j_aload_n (pc := 6) hX dX8_load_6 0 rfl ?_
  refine j_ifnonnullR (pc := 7) (tgt := 12) hX dX8_load_7 (by decide) ?_
  refine j_aload_n (pc := 12) hX dX8_load_12 0 rfl ?_
  refine j_callV (pc := 13) hX kX2_isNothing kVX2_isNothing l_RX8_249 (fun l => c_X2_isNothing G rw lo (nI mm) it  l) [5, 6] [0, 1, 2, 3, 4] [] rfl 0 2 rfl rfl rfl rfl rfl rfl ⟨rfl, rfl, by decide⟩ rfl rfl (Nat.le_of_ble_eq_true rfl) dX8_load_13 (fun v w hq => ?_)
  obtain ⟨rfl, rfl⟩ := hq
  refine j_ws [0, 1, 2, 3, 4, 5, 6] (ws' := [(x, .inr (8, [.ref nw, .ref tk, .int (bI itk), .ref ch, .ref ah, .ref th, .ref tp, .ref wt, .ref rows])), (nw, .inr (7, [.ref g, .ref ru, .ref se, .ref ev])), (g, .inr (1, [.int (nI W), .int (nI H), .int t, .ref b])), (b, ia G 16 f), (rows, ra G 4 rfn), (rw, .inr (2, [.int (nI mm), .ref lo])), (lo, la G 20 it)]) rfl rfl ?_
  refine j_ifB_eq (pc := 16) (tgt := 22) hX dX8_load_16 (by decide) (fun c16 => ?_) (fun c16 => by have := of_decide_eq_true c16; (try rw [nI_toInt (by omega)] at this); omega)
  refine j_iload_n (pc := 22) hX dX8_load_22 3 rfl ?_
  refine j_if_lt (pc := 23) (tgt := 45) hX dX8_load_23 (by decide) rfl (fun c23 => ?_) (fun c23 => ?_)
  · skip
    refine j_bipush (pc := 45) (v := (-13)) hX dX8_load_45 (by decide) ?_
    exact j_iret (pc := 47) hX hR dX8_load_47 ⟨rfl, rfl⟩
  · skip
    refine j_iload_n (pc := 26) hX dX8_load_26 3 rfl ?_
    refine j_aload_n (pc := 27) hX dX8_load_27 0 rfl ?_
    refine j_get (pc := 28) hX f_RX8_267 5 rfl rfl dX8_load_28 ?_
    refine j_aload_n (pc := 31) hX dX8_load_31 1 rfl ?_
    refine j_get (pc := 32) hX f_RX8_12 0 rfl rfl dX8_load_32 ?_
    refine j_getR (pc := 35) hX f_RX8_69 1 rfl rfl dX8_load_35 ?_
    refine j_get (pc := 38) hX f_RX8_79 2 rfl rfl dX8_load_38 ?_
    refine j_isub (pc := 41) hX dX8_load_41 ?_
    refine j_icmp_le (pc := 42) (tgt := 48) hX dX8_load_42 (by decide) rfl rfl (fun c42 => by exfalso; rw [pk_sub_toInt (by omega) (by omega)] at c42; omega) (fun c42 => ?_)
    refine j_bipush (pc := 45) (v := (-13)) hX dX8_load_45 (by decide) ?_
    exact j_iret (pc := 47) hX hR dX8_load_47 ⟨rfl, rfl⟩
set_option maxHeartbeats 4000000 in
set_option maxRecDepth 100000 in
theorem c_X8_load_ok (G : GT) (x : Nat) (nw : Nat) (tk : Nat) (itk : Bool) (ch : Nat) (ah : Nat) (th : Nat) (tp : Nat) (wt : Nat) (rows : Nat) (g : Nat) (ru : Nat) (se : Nat) (ev : Nat) (W : Nat) (H : Nat) (t : Int32) (b : Nat) (f : Nat → Int32) (rfn : Nat → Option Nat) (rw : Nat) (mm : Nat) (lo : Nat) (it : Nat → Int64) (c : Nat) (cn : Nat) (c0 : Nat → Nat) (c1 : Nat → Nat) (c2 : Nat → Int32) (li : Nat) (i : Nat) (hl : li < 4) (hr : rfn li = some rw) (hW1 : 2 ≤ W) (hW2 : W ≤ 16) (hH1 : 2 ≤ H) (hH2 : H ≤ 16) (hmm : mm ≤ 20) (hi : i + H ≤ mm) (hf : ∀ y, rN (f y) < 2 ^ W) (l : Launch) : CT l G yX8_load cX8_load 5 (some .int) { frames := 2, cells := 0, slots := 0, locals := 44 } [.ref x, .int (nI li), .int (nI i)] [(x, .inr (8, [.ref nw, .ref tk, .int (bI itk), .ref ch, .ref ah, .ref th, .ref tp, .ref wt, .ref rows])), (nw, .inr (7, [.ref g, .ref ru, .ref se, .ref ev])), (g, .inr (1, [.int (nI W), .int (nI H), .int t, .ref b])), (b, ia G 16 f), (rows, ra G 4 rfn), (rw, .inr (2, [.int (nI mm), .ref lo])), (lo, la G 20 it), (ch, .inr (4, [.int (nI c), .ref cn])), (cn, ia G (3 * 12) (tab (fun ι => nI (c0 ι)) (fun ι => nI (c1 ι)) c2))] (fun vv ww => vv = some (.int (nI (cnt (ldF W it i f H) H))) ∧ ww = [(x, .inr (8, [.ref nw, .ref tk, .int (bI itk), .ref ch, .ref ah, .ref th, .ref tp, .ref wt, .ref rows])), (nw, .inr (7, [.ref g, .ref ru, .ref se, .ref ev])), (g, .inr (1, [.int (nI W), .int (nI H), .int t, .ref b])), (b, ia G 16 (ldF W it i f H)), (rows, ra G 4 rfn), (rw, .inr (2, [.int (nI mm), .ref lo])), (lo, la G 20 it), (ch, .inr (4, [.int (nI 0), .ref cn])), (cn, ia G (3 * 12) (tab (fun ι => nI (c0 ι)) (fun ι => nI (c1 ι)) c2))]) := by
  refine CT.of (lv := [(0, .ref x), (1, .int (nI li)), (2, .int (nI i))]) RX8 "load" rfl rfl (by decide +kernel) (Nat.le_of_ble_eq_true rfl) rfl (fun X hX hR => ?_)
  refine j_aload_n (pc := 0) hX dX8_load_0 0 rfl ?_
  refine j_iload_n (pc := 1) hX dX8_load_1 1 rfl ?_
  refine j_callV (pc := 2) hX kX8_rowOf kVX8_rowOf l_RX8_242 (fun l => c_X8_rowOf_ok G x nw tk itk ch ah th tp wt rows rfn li rw (by omega) (by assumption) l) [0, 4] [1, 2, 3, 5, 6, 7, 8] [] rfl 0 8 rfl rfl rfl rfl rfl rfl ⟨rfl, rfl, by decide⟩ rfl rfl (Nat.le_of_ble_eq_true rfl) dX8_load_2 (fun v w hq => ?_)
  obtain ⟨rfl, rfl⟩ := hq
  refine j_ws [7, 0, 1, 2, 8, 3, 4, 5, 6] (ws' := [(x, .inr (8, [.ref nw, .ref tk, .int (bI itk), .ref ch, .ref ah, .ref th, .ref tp, .ref wt, .ref rows])), (nw, .inr (7, [.ref g, .ref ru, .ref se, .ref ev])), (g, .inr (1, [.int (nI W), .int (nI H), .int t, .ref b])), (b, ia G 16 f), (rows, ra G 4 rfn), (rw, .inr (2, [.int (nI mm), .ref lo])), (lo, la G 20 it), (ch, .inr (4, [.int (nI c), .ref cn])), (cn, ia G (3 * 12) (tab (fun ι => nI (c0 ι)) (fun ι => nI (c1 ι)) c2))]) rfl rfl ?_
  refine j_astore_n (pc := 5) (lv' := [(3, .ref rw), (0, .ref x), (1, .int (nI li)), (2, .int (nI i))]) hX dX8_load_5 (by decide) rfl ?_
  refine j_aload_n (pc := 6) hX dX8_load_6 0 rfl ?_
  refine j_ifnonnullR (pc := 7) (tgt := 12) hX dX8_load_7 (by decide) ?_
  refine j_aload_n (pc := 12) hX dX8_load_12 0 rfl ?_
  refine j_callV (pc := 13) hX kX2_isNothing kVX2_isNothing l_RX8_249 (fun l => c_X2_isNothing G rw lo (nI mm) it  l) [5, 6] [0, 1, 2, 3, 4, 7, 8] [] rfl 0 2 rfl rfl rfl rfl rfl rfl ⟨rfl, rfl, by decide⟩ rfl rfl (Nat.le_of_ble_eq_true rfl) dX8_load_13 (fun v w hq => ?_)
  obtain ⟨rfl, rfl⟩ := hq
  refine j_ws [0, 1, 2, 3, 4, 7, 8, 5, 6] (ws' := [(x, .inr (8, [.ref nw, .ref tk, .int (bI itk), .ref ch, .ref ah, .ref th, .ref tp, .ref wt, .ref rows])), (nw, .inr (7, [.ref g, .ref ru, .ref se, .ref ev])), (g, .inr (1, [.int (nI W), .int (nI H), .int t, .ref b])), (b, ia G 16 f), (rows, ra G 4 rfn), (rw, .inr (2, [.int (nI mm), .ref lo])), (lo, la G 20 it), (ch, .inr (4, [.int (nI c), .ref cn])), (cn, ia G (3 * 12) (tab (fun ι => nI (c0 ι)) (fun ι => nI (c1 ι)) c2))]) rfl rfl ?_
  refine j_ifB_eq (pc := 16) (tgt := 22) hX dX8_load_16 (by decide) (fun c16 => ?_) (fun c16 => by have := of_decide_eq_true c16; (try rw [nI_toInt (by omega)] at this); omega)
  refine j_iload_n (pc := 22) hX dX8_load_22 3 rfl ?_
  refine j_if_lt (pc := 23) (tgt := 45) hX dX8_load_23 (by decide) (nI_toInt (n := i) (by omega)) (fun c23 => by exfalso; omega) (fun c23 => ?_)
  refine j_iload_n (pc := 26) hX dX8_load_26 3 rfl ?_
  refine j_aload_n (pc := 27) hX dX8_load_27 0 rfl ?_
  refine j_get (pc := 28) hX f_RX8_267 5 rfl rfl dX8_load_28 ?_
  refine j_aload_n (pc := 31) hX dX8_load_31 1 rfl ?_
  refine j_get (pc := 32) hX f_RX8_12 0 rfl rfl dX8_load_32 ?_
  refine j_getR (pc := 35) hX f_RX8_69 1 rfl rfl dX8_load_35 ?_
  refine j_get (pc := 38) hX f_RX8_79 2 rfl rfl dX8_load_38 ?_
  refine j_isub (pc := 41) hX dX8_load_41 ?_
  refine j_topi (y := nI (mm - H)) (pk_sub (by omega)) ?_
  refine j_icmp_le (pc := 42) (tgt := 48) hX dX8_load_42 (by decide) (nI_toInt (n := i) (by omega)) (nI_toInt (n := mm - H) (by omega)) (fun c42 => ?_) (fun c42 => by exfalso; omega)
  refine j_iconstN (pc := 48) (j := 0) hX dX8_load_48 rfl ?_
  refine j_istore (pc := 49) (lv' := [(4, .int (nI 0)), (3, .ref rw), (0, .ref x), (1, .int (nI li)), (2, .int (nI i))]) hX dX8_load_49 (by decide) rfl ?_
  have L51 : ∀ (m51 : Nat) (y : Nat) (f3 : Nat → Int32) (hy : y ≤ H) (h3 : f3 = ldF W it i f y), H - y < m51 → J X G 5 0 0 [(x, .inr (8, [.ref nw, .ref tk, .int (bI itk), .ref ch, .ref ah, .ref th, .ref tp, .ref wt, .ref rows])), (nw, .inr (7, [.ref g, .ref ru, .ref se, .ref ev])), (g, .inr (1, [.int (nI W), .int (nI H), .int t, .ref b])), (b, ia G 16 f3), (rows, ra G 4 rfn), (rw, .inr (2, [.int (nI mm), .ref lo])), (lo, la G 20 it), (ch, .inr (4, [.int (nI c), .ref cn])), (cn, ia G (3 * 12) (tab (fun ι => nI (c0 ι)) (fun ι => nI (c1 ι)) c2))] [(0, .ref x), (1, .int (nI li)), (2, .int (nI i)), (3, .ref rw), (4, .int (nI y))] 51 [] := by
    intro m51
    induction m51 with
    | zero => intro y f3 hy h3 hm51; exact absurd hm51 (Nat.not_lt_zero _)
    | succ m51 ih51 =>
      intro y f3 hy h3 hm51
      refine j_iload (pc := 51) hX dX8_load_51 4 rfl ?_
      refine j_aload_n (pc := 53) hX dX8_load_53 0 rfl ?_
      refine j_get (pc := 54) hX f_RX8_12 0 rfl rfl dX8_load_54 ?_
      refine j_getR (pc := 57) hX f_RX8_69 1 rfl rfl dX8_load_57 ?_
      refine j_get (pc := 60) hX f_RX8_79 2 rfl rfl dX8_load_60 ?_
      refine j_icmp_ge (pc := 63) (tgt := 93) hX dX8_load_63 (by decide) (nI_toInt (n := y) (by omega)) (nI_toInt (n := H) (by omega)) (fun c63 => ?_) (fun c63 => ?_)
      · skip
        have hyH : y = H := by omega
        refine j_ia (q0 := 3) (f := f3) (g := ldF W it i f H) rfl (fun z hz => by rw [h3, hyH]) (ws' := [(x, .inr (8, [.ref nw, .ref tk, .int (bI itk), .ref ch, .ref ah, .ref th, .ref tp, .ref wt, .ref rows])), (nw, .inr (7, [.ref g, .ref ru, .ref se, .ref ev])), (g, .inr (1, [.int (nI W), .int (nI H), .int t, .ref b])), (b, ia G 16 (ldF W it i f H)), (rows, ra G 4 rfn), (rw, .inr (2, [.int (nI mm), .ref lo])), (lo, la G 20 it), (ch, .inr (4, [.int (nI c), .ref cn])), (cn, ia G (3 * 12) (tab (fun ι => nI (c0 ι)) (fun ι => nI (c1 ι)) c2))]) rfl ?_
        refine j_aload_n (pc := 93) hX dX8_load_93 0 rfl ?_
        refine j_get (pc := 94) hX f_RX8_30 0 rfl rfl dX8_load_94 ?_
        refine j_callV (pc := 97) hX kX4_empty kVX4_empty l_RX8_89 (fun l => c_X4_empty G ch cn 12 c (fun ι => nI (c0 ι)) (fun ι => nI (c1 ι)) c2  l) [7, 8] [0, 1, 2, 3, 4, 5, 6] [] rfl 0 4 rfl rfl rfl rfl rfl rfl ⟨rfl, rfl, by decide⟩ rfl rfl (Nat.le_of_ble_eq_true rfl) dX8_load_97 (fun v w hq => ?_)
        obtain ⟨rfl, rfl⟩ := hq
        refine j_ws [0, 1, 2, 3, 4, 5, 6, 7, 8] (ws' := [(x, .inr (8, [.ref nw, .ref tk, .int (bI itk), .ref ch, .ref ah, .ref th, .ref tp, .ref wt, .ref rows])), (nw, .inr (7, [.ref g, .ref ru, .ref se, .ref ev])), (g, .inr (1, [.int (nI W), .int (nI H), .int t, .ref b])), (b, ia G 16 (ldF W it i f H)), (rows, ra G 4 rfn), (rw, .inr (2, [.int (nI mm), .ref lo])), (lo, la G 20 it), (ch, .inr (4, [.int (nI 0), .ref cn])), (cn, ia G (3 * 12) (tab (fun ι => nI (c0 ι)) (fun ι => nI (c1 ι)) c2))]) rfl rfl ?_
        refine j_aload_n (pc := 100) hX dX8_load_100 0 rfl ?_
        refine j_get (pc := 101) hX f_RX8_12 0 rfl rfl dX8_load_101 ?_
        refine j_getR (pc := 104) hX f_RX8_69 1 rfl rfl dX8_load_104 ?_
        refine j_callV (pc := 107) hX kX1_ones kVX1_ones l_RX8_134 (fun l => c_X1_ones G g W H t b (ldF W it i f H) (by omega) (by omega) (by omega) (by omega) (fun z => lt16 hW2 (ldF_lt hW2 hf H z)) l) [2, 3] [0, 1, 4, 5, 6, 7, 8] [] rfl 0 1 rfl rfl rfl rfl rfl rfl ⟨rfl, rfl, by decide⟩ rfl rfl (Nat.le_of_ble_eq_true rfl) dX8_load_107 (fun v w hq => ?_)
        obtain ⟨rfl, rfl⟩ := hq
        refine j_ws [0, 1, 7, 8, 2, 3, 4, 5, 6] (ws' := [(x, .inr (8, [.ref nw, .ref tk, .int (bI itk), .ref ch, .ref ah, .ref th, .ref tp, .ref wt, .ref rows])), (nw, .inr (7, [.ref g, .ref ru, .ref se, .ref ev])), (g, .inr (1, [.int (nI W), .int (nI H), .int t, .ref b])), (b, ia G 16 (ldF W it i f H)), (rows, ra G 4 rfn), (rw, .inr (2, [.int (nI mm), .ref lo])), (lo, la G 20 it), (ch, .inr (4, [.int (nI 0), .ref cn])), (cn, ia G (3 * 12) (tab (fun ι => nI (c0 ι)) (fun ι => nI (c1 ι)) c2))]) rfl rfl ?_
        exact j_iret (pc := 110) hX hR dX8_load_110 ⟨rfl, rfl⟩
      · skip
        refine j_aload_n (pc := 66) hX dX8_load_66 0 rfl ?_
        refine j_get (pc := 67) hX f_RX8_12 0 rfl rfl dX8_load_67 ?_
        refine j_getR (pc := 70) hX f_RX8_69 1 rfl rfl dX8_load_70 ?_
        refine j_iload (pc := 73) hX dX8_load_73 4 rfl ?_
        refine j_aload_n (pc := 75) hX dX8_load_75 3 rfl ?_
        refine j_iload_n (pc := 76) hX dX8_load_76 2 rfl ?_
        refine j_iload (pc := 77) hX dX8_load_77 4 rfl ?_
        refine j_iadd (pc := 79) hX dX8_load_79 ?_
        refine j_topi (y := nI (i + y)) (nI_add _ _) ?_
        refine j_callV (pc := 80) hX kX2_longAt kVX2_longAt l_RX8_258 (fun l => c_X2_longAt G rw lo (nI mm) it (i + y) (by first | omega | (rw [nI_toInt (by omega)]; omega)) (by first | omega | (rw [nI_toInt (by omega)]; omega)) l) [5, 6] [0, 1, 2, 3, 4, 7, 8] [.int (nI y), .ref g] rfl 0 2 rfl rfl rfl rfl rfl rfl ⟨rfl, rfl, by decide⟩ rfl rfl (Nat.le_of_ble_eq_true rfl) dX8_load_80 (fun v w hq => ?_)
        obtain ⟨rfl, rfl⟩ := hq
        refine j_ws [0, 1, 2, 3, 4, 7, 8, 5, 6] (ws' := [(x, .inr (8, [.ref nw, .ref tk, .int (bI itk), .ref ch, .ref ah, .ref th, .ref tp, .ref wt, .ref rows])), (nw, .inr (7, [.ref g, .ref ru, .ref se, .ref ev])), (g, .inr (1, [.int (nI W), .int (nI H), .int t, .ref b])), (b, ia G 16 f3), (rows, ra G 4 rfn), (rw, .inr (2, [.int (nI mm), .ref lo])), (lo, la G 20 it), (ch, .inr (4, [.int (nI c), .ref cn])), (cn, ia G (3 * 12) (tab (fun ι => nI (c0 ι)) (fun ι => nI (c1 ι)) c2))]) rfl rfl ?_
        refine j_l2i (pc := 83) hX dX8_load_83 ?_
        refine j_callV (pc := 84) hX kX1_putRow kVX1_putRow l_RX8_268 (fun l => c_X1_putRow G g W H t b f3 y ((it (i + y)).toInt32) (by omega) (by omega) (by omega) (by omega) (by omega) l) [2, 3] [0, 1, 4, 5, 6, 7, 8] [] rfl 0 1 rfl rfl rfl rfl rfl rfl ⟨rfl, rfl, by decide⟩ rfl rfl (Nat.le_of_ble_eq_true rfl) dX8_load_84 (fun v w hq => ?_)
        obtain ⟨rfl, rfl⟩ := hq
        refine j_ws [0, 1, 7, 8, 2, 3, 4, 5, 6] (ws' := [(x, .inr (8, [.ref nw, .ref tk, .int (bI itk), .ref ch, .ref ah, .ref th, .ref tp, .ref wt, .ref rows])), (nw, .inr (7, [.ref g, .ref ru, .ref se, .ref ev])), (g, .inr (1, [.int (nI W), .int (nI H), .int t, .ref b])), (b, ia G 16 (upd f3 y (((it (i + y)).toInt32) &&& msk W))), (rows, ra G 4 rfn), (rw, .inr (2, [.int (nI mm), .ref lo])), (lo, la G 20 it), (ch, .inr (4, [.int (nI c), .ref cn])), (cn, ia G (3 * 12) (tab (fun ι => nI (c0 ι)) (fun ι => nI (c1 ι)) c2))]) rfl rfl ?_
        refine j_iinc (pc := 87) (q := 4) (v := nI (y + 1)) (lv' := [(4, .int (nI (y + 1))), (0, .ref x), (1, .int (nI li)), (2, .int (nI i)), (3, .ref rw)]) hX dX8_load_87 rfl (nI_inc _ 1) (by decide) rfl ?_
        refine j_goto (pc := 90) (tgt := 51) hX dX8_load_90 (by decide) ?_
        refine j_lv [1, 2, 3, 4, 0] (lv' := [(0, .ref x), (1, .int (nI li)), (2, .int (nI i)), (3, .ref rw), (4, .int (nI (y + 1)))]) rfl ?_
        exact ih51 (y + 1) (upd f3 y (((it (i + y)).toInt32) &&& msk W)) (by omega) (by rw [h3]; rfl) (by omega)
  refine j_lv [2, 3, 4, 1, 0] (lv' := [(0, .ref x), (1, .int (nI li)), (2, .int (nI i)), (3, .ref rw), (4, .int (nI 0))]) rfl ?_
  exact L51 ((H - 0) + 1) 0 f (by omega) (rfl) (Nat.lt_succ_self _)
set_option maxHeartbeats 4000000 in
set_option maxRecDepth 100000 in
theorem c_X8_judge_none (G : GT) (x : Nat) (nw : Nat) (tk : Nat) (itk : Bool) (ch : Nat) (ah : Nat) (th : Nat) (tp : Nat) (wt : Nat) (rows : Nat) (rfn : Nat → Option Nat) (li i : Int32) (hl : li.toInt < 0 ∨ 4 ≤ li.toInt) (l : Launch) : CT l G yX8_judge cX8_judge 5 (some .int) { frames := 2, cells := 0, slots := 0, locals := 42 } [.ref x, .int li, .int i] [(x, .inr (8, [.ref nw, .ref tk, .int (bI itk), .ref ch, .ref ah, .ref th, .ref tp, .ref wt, .ref rows])), (rows, ra G 4 rfn)] (fun vv ww => vv = some (.int (-1)) ∧ ww = [(x, .inr (8, [.ref nw, .ref tk, .int (bI itk), .ref ch, .ref ah, .ref th, .ref tp, .ref wt, .ref rows])), (rows, ra G 4 rfn)]) := by
  refine CT.of (lv := [(0, .ref x), (1, .int li), (2, .int i)]) RX8 "judge" rfl rfl (by decide +kernel) (Nat.le_of_ble_eq_true rfl) rfl (fun X hX hR => ?_)
  refine j_aload_n (pc := 0) hX dX8_judge_0 0 rfl ?_
  refine j_iload_n (pc := 1) hX dX8_judge_1 1 rfl ?_
  refine j_callV (pc := 2) hX kX8_rowOf kVX8_rowOf l_RX8_242 (fun l => c_X8_rowOf_no G x nw tk itk ch ah th tp wt rows rfn li (by omega) l) [0, 1] [] [] rfl 0 8 rfl rfl rfl rfl rfl rfl ⟨rfl, rfl, by decide⟩ rfl rfl (Nat.le_of_ble_eq_true rfl) dX8_judge_2 (fun v w hq => ?_)
  obtain ⟨rfl, rfl⟩ := hq
  refine j_ws [0, 1] (ws' := [(x, .inr (8, [.ref nw, .ref tk, .int (bI itk), .ref ch, .ref ah, .ref th, .ref tp, .ref wt, .ref rows])), (rows, ra G 4 rfn)]) rfl rfl ?_
  refine j_astore_nN (pc := 5) (lv' := [(3, .null), (0, .ref x), (1, .int li), (2, .int i)]) hX dX8_judge_5 (by decide) rfl ?_
  refine j_aload_nN (pc := 6) hX dX8_judge_6 0 rfl ?_
  refine j_ifnonnullN (pc := 7) hX dX8_judge_7 ?_
  refine j_iconst (pc := 10) (v := (-1)) hX dX8_judge_10 (by decide) ?_
  exact j_iret (pc := 11) hX hR dX8_judge_11 ⟨rfl, rfl⟩
set_option maxHeartbeats 4000000 in
set_option maxRecDepth 100000 in
theorem c_X8_judge_far (G : GT) (x : Nat) (nw : Nat) (tk : Nat) (itk : Bool) (ch : Nat) (ah : Nat) (th : Nat) (tp : Nat) (wt : Nat) (rows : Nat) (g : Nat) (ru : Nat) (se : Nat) (ev : Nat) (W : Nat) (H : Nat) (t : Int32) (b : Nat) (f : Nat → Int32) (rfn : Nat → Option Nat) (rw : Nat) (m_ : Int32) (lo : Nat) (it : Nat → Int64) (li : Nat) (i : Int32) (hl : li < 4) (hr : rfn li = some rw) (hW1 : 2 ≤ W) (hW2 : W ≤ 16) (hH1 : 2 ≤ H) (hH2 : H ≤ 16) (hm : -1 ≤ m_.toInt ∧ m_.toInt ≤ 20) (hi : i.toInt < 0 ∨ 20 ≤ i.toInt) (l : Launch) : CT l G yX8_judge cX8_judge 5 (some .int) { frames := 2, cells := 0, slots := 0, locals := 42 } [.ref x, .int (nI li), .int i] [(x, .inr (8, [.ref nw, .ref tk, .int (bI itk), .ref ch, .ref ah, .ref th, .ref tp, .ref wt, .ref rows])), (nw, .inr (7, [.ref g, .ref ru, .ref se, .ref ev])), (g, .inr (1, [.int (nI W), .int (nI H), .int t, .ref b])), (b, ia G 16 f), (rows, ra G 4 rfn), (rw, .inr (2, [.int m_, .ref lo])), (lo, la G 20 it)] (fun vv ww => vv = some (.int (nI 100)) ∧ ww = [(x, .inr (8, [.ref nw, .ref tk, .int (bI itk), .ref ch, .ref ah, .ref th, .ref tp, .ref wt, .ref rows])), (nw, .inr (7, [.ref g, .ref ru, .ref se, .ref ev])), (g, .inr (1, [.int (nI W), .int (nI H), .int t, .ref b])), (b, ia G 16 f), (rows, ra G 4 rfn), (rw, .inr (2, [.int m_, .ref lo])), (lo, la G 20 it)]) := by
  refine CT.of (lv := [(0, .ref x), (1, .int (nI li)), (2, .int i)]) RX8 "judge" rfl rfl (by decide +kernel) (Nat.le_of_ble_eq_true rfl) rfl (fun X hX hR => ?_)
  refine j_aload_n (pc := 0) hX dX8_judge_0 0 rfl ?_
  refine j_iload_n (pc := 1) hX dX8_judge_1 1 rfl ?_
  refine j_callV (pc := 2) hX kX8_rowOf kVX8_rowOf l_RX8_242 (fun l => c_X8_rowOf_ok G x nw tk itk ch ah th tp wt rows rfn li rw (by omega) (by assumption) l) [0, 4] [1, 2, 3, 5, 6] [] rfl 0 8 rfl rfl rfl rfl rfl rfl ⟨rfl, rfl, by decide⟩ rfl rfl (Nat.le_of_ble_eq_true rfl) dX8_judge_2 (fun v w hq => ?_)
  obtain ⟨rfl, rfl⟩ := hq
  refine j_ws [5, 0, 1, 2, 6, 3, 4] (ws' := [(x, .inr (8, [.ref nw, .ref tk, .int (bI itk), .ref ch, .ref ah, .ref th, .ref tp, .ref wt, .ref rows])), (nw, .inr (7, [.ref g, .ref ru, .ref se, .ref ev])), (g, .inr (1, [.int (nI W), .int (nI H), .int t, .ref b])), (b, ia G 16 f), (rows, ra G 4 rfn), (rw, .inr (2, [.int m_, .ref lo])), (lo, la G 20 it)]) rfl rfl ?_
  refine j_astore_n (pc := 5) (lv' := [(3, .ref rw), (0, .ref x), (1, .int (nI li)), (2, .int i)]) hX dX8_judge_5 (by decide) rfl ?_
  refine j_aload_n (pc := 6) hX dX8_judge_6 0 rfl ?_
  refine j_ifnonnullR (pc := 7) (tgt := 12) hX dX8_judge_7 (by decide) ?_
  refine j_iconstN (pc := 12) (j := 0) hX dX8_judge_12 rfl ?_
  refine j_istore (pc := 13) (lv' := [(4, .int (nI 0)), (3, .ref rw), (0, .ref x), (1, .int (nI li)), (2, .int i)]) hX dX8_judge_13 (by decide) rfl ?_
  have L15 : ∀ (m15 : Nat) (y : Nat) (hy : y = 0), 0 < m15 → J X G 5 0 0 [(x, .inr (8, [.ref nw, .ref tk, .int (bI itk), .ref ch, .ref ah, .ref th, .ref tp, .ref wt, .ref rows])), (nw, .inr (7, [.ref g, .ref ru, .ref se, .ref ev])), (g, .inr (1, [.int (nI W), .int (nI H), .int t, .ref b])), (b, ia G 16 f), (rows, ra G 4 rfn), (rw, .inr (2, [.int m_, .ref lo])), (lo, la G 20 it)] [(0, .ref x), (1, .int (nI li)), (2, .int i), (3, .ref rw), (4, .int (nI y))] 15 [] := by
    intro m15
    induction m15 with
    | zero => intro y hy hm15; exact absurd hm15 (Nat.not_lt_zero _)
    | succ m15 ih15 =>
      intro y hy hm15
      refine j_iload (pc := 15) hX dX8_judge_15 4 rfl ?_
      refine j_aload_n (pc := 17) hX dX8_judge_17 0 rfl ?_
      refine j_get (pc := 18) hX f_RX8_12 0 rfl rfl dX8_judge_18 ?_
      refine j_getR (pc := 21) hX f_RX8_69 1 rfl rfl dX8_judge_21 ?_
      refine j_get (pc := 24) hX f_RX8_79 2 rfl rfl dX8_judge_24 ?_
      refine j_icmp_ge (pc := 27) (tgt := 81) hX dX8_judge_27 (by decide) (nI_toInt (n := y) (by omega)) (nI_toInt (n := H) (by omega)) (fun c27 => by exfalso; omega) (fun c27 => ?_)
      refine j_aload_n (pc := 30) hX dX8_judge_30 3 rfl ?_
      refine j_iload_n (pc := 31) hX dX8_judge_31 2 rfl ?_
      refine j_iload (pc := 32) hX dX8_judge_32 4 rfl ?_
      refine j_iadd (pc := 34) hX dX8_judge_34 ?_
      refine j_callV (pc := 35) hX kX2_has kVX2_has l_RX8_252 (fun l => c_X2_has G rw lo m_ it (i + (nI y)) (by first | omega | (rw [nI_toInt (by omega)]; omega)) l) [5, 6] [0, 1, 2, 3, 4] [] rfl 0 2 rfl rfl rfl rfl rfl rfl ⟨rfl, rfl, by decide⟩ rfl rfl (Nat.le_of_ble_eq_true rfl) dX8_judge_35 (fun v w hq => ?_)
      obtain ⟨rfl, rfl⟩ := hq
      refine j_ws [0, 1, 2, 3, 4, 5, 6] (ws' := [(x, .inr (8, [.ref nw, .ref tk, .int (bI itk), .ref ch, .ref ah, .ref th, .ref tp, .ref wt, .ref rows])), (nw, .inr (7, [.ref g, .ref ru, .ref se, .ref ev])), (g, .inr (1, [.int (nI W), .int (nI H), .int t, .ref b])), (b, ia G 16 f), (rows, ra G 4 rfn), (rw, .inr (2, [.int m_, .ref lo])), (lo, la G 20 it)]) rfl rfl ?_
      refine j_ifB_ne (pc := 38) (tgt := 47) hX dX8_judge_38 (by decide) (fun c38 => by exfalso; have := of_decide_eq_true c38; rw [hy, show i + nI 0 = i from Int32.add_zero i] at this; omega) (fun c38 => ?_)
      refine j_bipush (pc := 41) (v := nI 100) hX dX8_judge_41 (by decide) ?_
      refine j_iload (pc := 43) hX dX8_judge_43 4 rfl ?_
      refine j_iadd (pc := 45) hX dX8_judge_45 ?_
      refine j_topi (y := nI (100 + y)) (nI_add _ _) ?_
      exact j_iret (pc := 46) hX hR dX8_judge_46 ⟨congrArg some (show Value.int (nI (100 + y)) = Value.int (nI 100) from by rw [hy]), rfl⟩
  refine j_lv [2, 3, 4, 1, 0] (lv' := [(0, .ref x), (1, .int (nI li)), (2, .int i), (3, .ref rw), (4, .int (nI 0))]) rfl ?_
  exact L15 (0 + 1) 0 (rfl) (Nat.lt_succ_self _)
set_option maxHeartbeats 4000000 in
set_option maxRecDepth 100000 in
theorem c_X8_judge_ok (G : GT) (x : Nat) (nw : Nat) (tk : Nat) (itk : Bool) (ch : Nat) (ah : Nat) (th : Nat) (tp : Nat) (wt : Nat) (rows : Nat) (g : Nat) (ru : Nat) (se : Nat) (ev : Nat) (W : Nat) (H : Nat) (t : Int32) (b : Nat) (f : Nat → Int32) (rfn : Nat → Option Nat) (rw : Nat) (m_ : Int32) (lo : Nat) (it : Nat → Int64) (li : Nat) (i : Nat) (hl : li < 4) (hr : rfn li = some rw) (hW1 : 2 ≤ W) (hW2 : W ≤ 16) (hH1 : 2 ≤ H) (hH2 : H ≤ 16) (hm : -1 ≤ m_.toInt ∧ m_.toInt ≤ 20) (hi : i < 20) (l : Launch) : CT l G yX8_judge cX8_judge 5 (some .int) { frames := 2, cells := 0, slots := 0, locals := 42 } [.ref x, .int (nI li), .int (nI i)] [(x, .inr (8, [.ref nw, .ref tk, .int (bI itk), .ref ch, .ref ah, .ref th, .ref tp, .ref wt, .ref rows])), (nw, .inr (7, [.ref g, .ref ru, .ref se, .ref ev])), (g, .inr (1, [.int (nI W), .int (nI H), .int t, .ref b])), (b, ia G 16 f), (rows, ra G 4 rfn), (rw, .inr (2, [.int m_, .ref lo])), (lo, la G 20 it)] (fun vv ww => vv = some (.int (jdR H m_ i it f)) ∧ ww = [(x, .inr (8, [.ref nw, .ref tk, .int (bI itk), .ref ch, .ref ah, .ref th, .ref tp, .ref wt, .ref rows])), (nw, .inr (7, [.ref g, .ref ru, .ref se, .ref ev])), (g, .inr (1, [.int (nI W), .int (nI H), .int t, .ref b])), (b, ia G 16 f), (rows, ra G 4 rfn), (rw, .inr (2, [.int m_, .ref lo])), (lo, la G 20 it)]) := by
  refine CT.of (lv := [(0, .ref x), (1, .int (nI li)), (2, .int (nI i))]) RX8 "judge" rfl rfl (by decide +kernel) (Nat.le_of_ble_eq_true rfl) rfl (fun X hX hR => ?_)
  refine j_aload_n (pc := 0) hX dX8_judge_0 0 rfl ?_
  refine j_iload_n (pc := 1) hX dX8_judge_1 1 rfl ?_
  refine j_callV (pc := 2) hX kX8_rowOf kVX8_rowOf l_RX8_242 (fun l => c_X8_rowOf_ok G x nw tk itk ch ah th tp wt rows rfn li rw (by omega) (by assumption) l) [0, 4] [1, 2, 3, 5, 6] [] rfl 0 8 rfl rfl rfl rfl rfl rfl ⟨rfl, rfl, by decide⟩ rfl rfl (Nat.le_of_ble_eq_true rfl) dX8_judge_2 (fun v w hq => ?_)
  obtain ⟨rfl, rfl⟩ := hq
  refine j_ws [5, 0, 1, 2, 6, 3, 4] (ws' := [(x, .inr (8, [.ref nw, .ref tk, .int (bI itk), .ref ch, .ref ah, .ref th, .ref tp, .ref wt, .ref rows])), (nw, .inr (7, [.ref g, .ref ru, .ref se, .ref ev])), (g, .inr (1, [.int (nI W), .int (nI H), .int t, .ref b])), (b, ia G 16 f), (rows, ra G 4 rfn), (rw, .inr (2, [.int m_, .ref lo])), (lo, la G 20 it)]) rfl rfl ?_
  refine j_astore_n (pc := 5) (lv' := [(3, .ref rw), (0, .ref x), (1, .int (nI li)), (2, .int (nI i))]) hX dX8_judge_5 (by decide) rfl ?_
  refine j_aload_n (pc := 6) hX dX8_judge_6 0 rfl ?_
  refine j_ifnonnullR (pc := 7) (tgt := 12) hX dX8_judge_7 (by decide) ?_
  refine j_iconstN (pc := 12) (j := 0) hX dX8_judge_12 rfl ?_
  refine j_istore (pc := 13) (lv' := [(4, .int (nI 0)), (3, .ref rw), (0, .ref x), (1, .int (nI li)), (2, .int (nI i))]) hX dX8_judge_13 (by decide) rfl ?_
  have L15 : ∀ (m15 : Nat) (y c : Nat) (hy : y + c = H) (hj : fst1 (jd1 m_ i it f) 0 H = fst1 (jd1 m_ i it f) y c), c < m15 → J X G 5 0 0 [(x, .inr (8, [.ref nw, .ref tk, .int (bI itk), .ref ch, .ref ah, .ref th, .ref tp, .ref wt, .ref rows])), (nw, .inr (7, [.ref g, .ref ru, .ref se, .ref ev])), (g, .inr (1, [.int (nI W), .int (nI H), .int t, .ref b])), (b, ia G 16 f), (rows, ra G 4 rfn), (rw, .inr (2, [.int m_, .ref lo])), (lo, la G 20 it)] [(0, .ref x), (1, .int (nI li)), (2, .int (nI i)), (3, .ref rw), (4, .int (nI y))] 15 [] := by
    intro m15
    induction m15 with
    | zero => intro y c hy hj hm15; exact absurd hm15 (Nat.not_lt_zero _)
    | succ m15 ih15 =>
      intro y c hy hj hm15
      refine j_iload (pc := 15) hX dX8_judge_15 4 rfl ?_
      refine j_aload_n (pc := 17) hX dX8_judge_17 0 rfl ?_
      refine j_get (pc := 18) hX f_RX8_12 0 rfl rfl dX8_judge_18 ?_
      refine j_getR (pc := 21) hX f_RX8_69 1 rfl rfl dX8_judge_21 ?_
      refine j_get (pc := 24) hX f_RX8_79 2 rfl rfl dX8_judge_24 ?_
      refine j_icmp_ge (pc := 27) (tgt := 81) hX dX8_judge_27 (by decide) (nI_toInt (n := y) (by omega)) (nI_toInt (n := H) (by omega)) (fun c27 => ?_) (fun c27 => ?_)
      · skip
        refine j_bipush (pc := 81) (v := (-5)) hX dX8_judge_81 (by decide) ?_
        exact j_iret (pc := 83) hX hR dX8_judge_83 ⟨congrArg some (show Value.int (-5) = Value.int (jdR H m_ i it f) from by rw [jdR, hj, show c = 0 from by omega]; rfl), rfl⟩
      · skip
        refine j_aload_n (pc := 30) hX dX8_judge_30 3 rfl ?_
        refine j_iload_n (pc := 31) hX dX8_judge_31 2 rfl ?_
        refine j_iload (pc := 32) hX dX8_judge_32 4 rfl ?_
        refine j_iadd (pc := 34) hX dX8_judge_34 ?_
        refine j_topi (y := nI (i + y)) (nI_add _ _) ?_
        refine j_callV (pc := 35) hX kX2_has kVX2_has l_RX8_252 (fun l => c_X2_has G rw lo m_ it (nI (i + y)) (by first | omega | (rw [nI_toInt (by omega)]; omega)) l) [5, 6] [0, 1, 2, 3, 4] [] rfl 0 2 rfl rfl rfl rfl rfl rfl ⟨rfl, rfl, by decide⟩ rfl rfl (Nat.le_of_ble_eq_true rfl) dX8_judge_35 (fun v w hq => ?_)
        obtain ⟨rfl, rfl⟩ := hq
        refine j_ws [0, 1, 2, 3, 4, 5, 6] (ws' := [(x, .inr (8, [.ref nw, .ref tk, .int (bI itk), .ref ch, .ref ah, .ref th, .ref tp, .ref wt, .ref rows])), (nw, .inr (7, [.ref g, .ref ru, .ref se, .ref ev])), (g, .inr (1, [.int (nI W), .int (nI H), .int t, .ref b])), (b, ia G 16 f), (rows, ra G 4 rfn), (rw, .inr (2, [.int m_, .ref lo])), (lo, la G 20 it)]) rfl rfl ?_
        refine j_ifB_ne (pc := 38) (tgt := 47) hX dX8_judge_38 (by decide) (fun c38 => ?_) (fun c38 => ?_)
        · skip
          have c38 := of_decide_eq_true c38
          rw [nI_toInt (by omega)] at c38
          refine j_aload_n (pc := 47) hX dX8_judge_47 3 rfl ?_
          refine j_iload_n (pc := 48) hX dX8_judge_48 2 rfl ?_
          refine j_iload (pc := 49) hX dX8_judge_49 4 rfl ?_
          refine j_iadd (pc := 51) hX dX8_judge_51 ?_
          refine j_topi (y := nI (i + y)) (nI_add _ _) ?_
          refine j_callV (pc := 52) hX kX2_longAt kVX2_longAt l_RX8_258 (fun l => c_X2_longAt G rw lo m_ it (i + y) (by first | omega | (rw [nI_toInt (by omega)]; omega)) (by first | omega | (rw [nI_toInt (by omega)]; omega)) l) [5, 6] [0, 1, 2, 3, 4] [] rfl 0 2 rfl rfl rfl rfl rfl rfl ⟨rfl, rfl, by decide⟩ rfl rfl (Nat.le_of_ble_eq_true rfl) dX8_judge_52 (fun v w hq => ?_)
          obtain ⟨rfl, rfl⟩ := hq
          refine j_ws [0, 1, 2, 3, 4, 5, 6] (ws' := [(x, .inr (8, [.ref nw, .ref tk, .int (bI itk), .ref ch, .ref ah, .ref th, .ref tp, .ref wt, .ref rows])), (nw, .inr (7, [.ref g, .ref ru, .ref se, .ref ev])), (g, .inr (1, [.int (nI W), .int (nI H), .int t, .ref b])), (b, ia G 16 f), (rows, ra G 4 rfn), (rw, .inr (2, [.int m_, .ref lo])), (lo, la G 20 it)]) rfl rfl ?_
          refine j_aload_n (pc := 55) hX dX8_judge_55 0 rfl ?_
          refine j_get (pc := 56) hX f_RX8_12 0 rfl rfl dX8_judge_56 ?_
          refine j_getR (pc := 59) hX f_RX8_69 1 rfl rfl dX8_judge_59 ?_
          refine j_iload (pc := 62) hX dX8_judge_62 4 rfl ?_
          refine j_callV (pc := 64) hX kX1_rowAt kVX1_rowAt l_RX8_264 (fun l => c_X1_rowAt_any G g W H t b f y (by omega) l) [2, 3] [0, 1, 4, 5, 6] [.long (it (i + y))] rfl 0 1 rfl rfl rfl rfl rfl rfl ⟨rfl, rfl, by decide⟩ rfl rfl (Nat.le_of_ble_eq_true rfl) dX8_judge_64 (fun v w hq => ?_)
          obtain ⟨rfl, rfl⟩ := hq
          refine j_ws [0, 1, 5, 6, 2, 3, 4] (ws' := [(x, .inr (8, [.ref nw, .ref tk, .int (bI itk), .ref ch, .ref ah, .ref th, .ref tp, .ref wt, .ref rows])), (nw, .inr (7, [.ref g, .ref ru, .ref se, .ref ev])), (g, .inr (1, [.int (nI W), .int (nI H), .int t, .ref b])), (b, ia G 16 f), (rows, ra G 4 rfn), (rw, .inr (2, [.int m_, .ref lo])), (lo, la G 20 it)]) rfl rfl ?_
          refine j_i2l (pc := 67) hX dX8_judge_67 ?_
          refine j_lcmp (pc := 68) hX dX8_judge_68 ?_
          refine j_if_eq (pc := 69) (tgt := 75) hX dX8_judge_69 (by decide) rfl (fun c69 => ?_) (fun c69 => ?_)
          · skip
            refine j_iinc (pc := 75) (q := 4) (v := nI (y + 1)) (lv' := [(4, .int (nI (y + 1))), (0, .ref x), (1, .int (nI li)), (2, .int (nI i)), (3, .ref rw)]) hX dX8_judge_75 rfl (nI_inc _ 1) (by decide) rfl ?_
            refine j_goto (pc := 78) (tgt := 15) hX dX8_judge_78 (by decide) ?_
            refine j_lv [1, 2, 3, 4, 0] (lv' := [(0, .ref x), (1, .int (nI li)), (2, .int (nI i)), (3, .ref rw), (4, .int (nI (y + 1)))]) rfl ?_
            exact ih15 (y + 1) (c - 1) (by omega) (by rw [hj, fst1_n (by omega) (jd1_e (by omega) (lg_cmp0 c69))]) (by omega)
          · skip
            refine j_iload (pc := 72) hX dX8_judge_72 4 rfl ?_
            exact j_iret (pc := 74) hX hR dX8_judge_74 ⟨congrArg some (show Value.int (nI y) = Value.int (jdR H m_ i it f) from by rw [jdR, hj, fst1_s (by omega) (jd1_o (by omega) (lg_cmpn c69))]; rfl), rfl⟩
        · skip
          have c38 := of_decide_eq_false c38
          rw [nI_toInt (by omega)] at c38
          refine j_bipush (pc := 41) (v := nI 100) hX dX8_judge_41 (by decide) ?_
          refine j_iload (pc := 43) hX dX8_judge_43 4 rfl ?_
          refine j_iadd (pc := 45) hX dX8_judge_45 ?_
          refine j_topi (y := nI (100 + y)) (nI_add _ _) ?_
          exact j_iret (pc := 46) hX hR dX8_judge_46 ⟨congrArg some (show Value.int (nI (100 + y)) = Value.int (jdR H m_ i it f) from by rw [jdR, hj, fst1_s (by omega) (jd1_n (by omega))]; rfl), rfl⟩
  refine j_lv [2, 3, 4, 1, 0] (lv' := [(0, .ref x), (1, .int (nI li)), (2, .int (nI i)), (3, .ref rw), (4, .int (nI 0))]) rfl ?_
  exact L15 (H + 1) 0 H (by omega) (rfl) (Nat.lt_succ_self _)
set_option maxHeartbeats 4000000 in
set_option maxRecDepth 100000 in
theorem c_X8_isAnyCell (G : GT) (cl : Int32)  (l : Launch) : CT l G yX8_isAnyCell cX8_isAnyCell 1 (some .boolean) { frames := 0, cells := 0, slots := 0, locals := 0 } [.int cl] [] (fun vv ww => vv = some (.int (bI (cellB cl))) ∧ ww = []) := by
  refine CT.of (lv := [(0, .int cl)]) RX8 "isAnyCell" rfl rfl (by decide +kernel) (Nat.le_of_ble_eq_true rfl) rfl (fun X hX hR => ?_)
  refine j_iload_n (pc := 0) hX dX8_isAnyCell_0 0 rfl ?_
  refine j_if_lt (pc := 1) (tgt := 26) hX dX8_isAnyCell_1 (by decide) rfl (fun c1 => ?_) (fun c1 => ?_)
  · skip
    refine j_iconstN (pc := 26) (j := 0) hX dX8_isAnyCell_26 rfl ?_
    exact j_zret (pc := 27) hX hR (by decide) dX8_isAnyCell_27 ⟨congrArg some (show Value.int (nI 0) = Value.int (bI (cellB cl)) from by first | exact bI_t (by omega) | exact bI_f (by omega)), rfl⟩
  · skip
    have hcb := fb_rng cl
    refine j_iload_n (pc := 4) hX dX8_isAnyCell_4 0 rfl ?_
    refine j_bipush (pc := 5) (v := nI 100) hX dX8_isAnyCell_5 (by decide) ?_
    refine j_idiv (pc := 7) hX dX8_isAnyCell_7 (by decide) ?_
    refine j_topi (y := nI ((cl.toInt / 100).toNat)) ((div_nI c1 100 (by decide) (by decide)).1) ?_
    refine j_bipush (pc := 8) (v := nI 16) hX dX8_isAnyCell_8 (by decide) ?_
    refine j_icmp_ge (pc := 10) (tgt := 26) hX dX8_isAnyCell_10 (by decide) (nI_toInt (n := (cl.toInt / 100).toNat) (by omega)) (nI_toInt (n := 16) (by decide)) (fun c10 => ?_) (fun c10 => ?_)
    · skip
      refine j_iconstN (pc := 26) (j := 0) hX dX8_isAnyCell_26 rfl ?_
      exact j_zret (pc := 27) hX hR (by decide) dX8_isAnyCell_27 ⟨congrArg some (show Value.int (nI 0) = Value.int (bI (cellB cl)) from by first | exact bI_t (by omega) | exact bI_f (by omega)), rfl⟩
    · skip
      refine j_iload_n (pc := 13) hX dX8_isAnyCell_13 0 rfl ?_
      refine j_bipush (pc := 14) (v := nI 100) hX dX8_isAnyCell_14 (by decide) ?_
      refine j_irem (pc := 16) hX dX8_isAnyCell_16 (by decide) ?_
      refine j_topi (y := nI ((cl.toInt % 100).toNat)) ((div_nI c1 100 (by decide) (by decide)).2) ?_
      refine j_bipush (pc := 17) (v := nI 16) hX dX8_isAnyCell_17 (by decide) ?_
      refine j_icmp_ge (pc := 19) (tgt := 26) hX dX8_isAnyCell_19 (by decide) (nI_toInt (n := (cl.toInt % 100).toNat) (by omega)) (nI_toInt (n := 16) (by decide)) (fun c19 => ?_) (fun c19 => ?_)
      · skip
        refine j_iconstN (pc := 26) (j := 0) hX dX8_isAnyCell_26 rfl ?_
        exact j_zret (pc := 27) hX hR (by decide) dX8_isAnyCell_27 ⟨congrArg some (show Value.int (nI 0) = Value.int (bI (cellB cl)) from by first | exact bI_t (by omega) | exact bI_f (by omega)), rfl⟩
      · skip
        refine j_iconstN (pc := 22) (j := 1) hX dX8_isAnyCell_22 rfl ?_
        refine j_goto (pc := 23) (tgt := 27) hX dX8_isAnyCell_23 (by decide) ?_
        exact j_zret (pc := 27) hX hR (by decide) dX8_isAnyCell_27 ⟨congrArg some (show Value.int (nI 1) = Value.int (bI (cellB cl)) from by first | exact bI_t (by omega) | exact bI_f (by omega)), rfl⟩
set_option maxHeartbeats 4000000 in
set_option maxRecDepth 100000 in
theorem c_X8_see_clear (G : GT) (x : Nat) (nw : Nat) (tk : Nat) (itk : Bool) (ch : Nat) (ah : Nat) (th : Nat) (tp : Nat) (wt : Nat) (rows : Nat) (g : Nat) (ru : Nat) (se : Nat) (ev : Nat) (m : Nat) (sn : Nat) (s0 : Nat → Int32) (s1 : Nat → Nat) (s2 : Nat → Int32) (n cl_ : Int32)  (l : Launch) : CT l G yX8_see cX8_see 4 (some .int) { frames := 2, cells := 0, slots := 0, locals := 45 } [.ref x, .int n, .int cl_, .int (-1)] [(x, .inr (8, [.ref nw, .ref tk, .int (bI itk), .ref ch, .ref ah, .ref th, .ref tp, .ref wt, .ref rows])), (nw, .inr (7, [.ref g, .ref ru, .ref se, .ref ev])), (se, .inr (4, [.int (nI m), .ref sn])), (sn, ia G (3 * 5) (tab s0 (fun ι => nI (s1 ι)) s2))] (fun vv ww => vv = some (.int (nI 0)) ∧ ww = [(x, .inr (8, [.ref nw, .ref tk, .int (bI itk), .ref ch, .ref ah, .ref th, .ref tp, .ref wt, .ref rows])), (nw, .inr (7, [.ref g, .ref ru, .ref se, .ref ev])), (se, .inr (4, [.int (nI 0), .ref sn])), (sn, ia G (3 * 5) (tab s0 (fun ι => nI (s1 ι)) s2))]) := by
  refine CT.of (lv := [(0, .ref x), (1, .int n), (2, .int cl_), (3, .int (-1))]) RX8 "see" rfl rfl (by decide +kernel) (Nat.le_of_ble_eq_true rfl) rfl (fun X hX hR => ?_)
  refine j_iload_n (pc := 0) hX dX8_see_0 3 rfl ?_
  refine j_iconst (pc := 1) (v := (-1)) hX dX8_see_1 (by decide) ?_
  refine j_icmp_ne (pc := 2) (tgt := 17) hX dX8_see_2 (by decide) (show ((-1) : Int32).toInt = -1 from by decide) (show ((-1) : Int32).toInt = -1 from by decide) (fun c2 => absurd c2 (by decide)) (fun c2 => ?_)
  refine j_aload_n (pc := 5) hX dX8_see_5 0 rfl ?_
  refine j_get (pc := 6) hX f_RX8_12 0 rfl rfl dX8_see_6 ?_
  refine j_getR (pc := 9) hX f_RX8_271 1 rfl rfl dX8_see_9 ?_
  refine j_callV (pc := 12) hX kX4_empty kVX4_empty l_RX8_89 (fun l => c_X4_empty G se sn 5 m s0 (fun ι => nI (s1 ι)) s2  l) [2, 3] [0, 1] [] rfl 0 4 rfl rfl rfl rfl rfl rfl ⟨rfl, rfl, by decide⟩ rfl rfl (Nat.le_of_ble_eq_true rfl) dX8_see_12 (fun v w hq => ?_)
  obtain ⟨rfl, rfl⟩ := hq
  refine j_ws [0, 1, 2, 3] (ws' := [(x, .inr (8, [.ref nw, .ref tk, .int (bI itk), .ref ch, .ref ah, .ref th, .ref tp, .ref wt, .ref rows])), (nw, .inr (7, [.ref g, .ref ru, .ref se, .ref ev])), (se, .inr (4, [.int (nI 0), .ref sn])), (sn, ia G (3 * 5) (tab s0 (fun ι => nI (s1 ι)) s2))]) rfl rfl ?_
  refine j_iconstN (pc := 15) (j := 0) hX dX8_see_15 rfl ?_
  exact j_iret (pc := 16) hX hR dX8_see_16 ⟨rfl, rfl⟩
set_option maxHeartbeats 4000000 in
set_option maxRecDepth 100000 in
theorem c_X8_see_bad (G : GT) (x : Nat) (nw : Nat) (tk : Nat) (itk : Bool) (ch : Nat) (ah : Nat) (th : Nat) (tp : Nat) (wt : Nat) (rows : Nat) (n cl_ v : Int32) (hv : v.toInt ≠ -1) (hb : seeOK n cl_ v = false) (l : Launch) : CT l G yX8_see cX8_see 4 (some .int) { frames := 2, cells := 0, slots := 0, locals := 45 } [.ref x, .int n, .int cl_, .int v] [(x, .inr (8, [.ref nw, .ref tk, .int (bI itk), .ref ch, .ref ah, .ref th, .ref tp, .ref wt, .ref rows]))] (fun vv ww => vv = some (.int (-2)) ∧ ww = [(x, .inr (8, [.ref nw, .ref tk, .int (bI itk), .ref ch, .ref ah, .ref th, .ref tp, .ref wt, .ref rows]))]) := by
  refine CT.of (lv := [(0, .ref x), (1, .int n), (2, .int cl_), (3, .int v)]) RX8 "see" rfl rfl (by decide +kernel) (Nat.le_of_ble_eq_true rfl) rfl (fun X hX hR => ?_)
  refine j_iload_n (pc := 0) hX dX8_see_0 3 rfl ?_
  refine j_iconst (pc := 1) (v := (-1)) hX dX8_see_1 (by decide) ?_
  refine j_icmp_ne (pc := 2) (tgt := 17) hX dX8_see_2 (by decide) rfl (show ((-1) : Int32).toInt = -1 from by decide) (fun c2 => ?_) (fun c2 => by exfalso; omega)
  refine j_iload_n (pc := 17) hX dX8_see_17 1 rfl ?_
  refine j_bipush (pc := 18) (v := (-12)) hX dX8_see_18 (by decide) ?_
  refine j_icmp_lt (pc := 20) (tgt := 45) hX dX8_see_20 (by decide) rfl (show ((-12) : Int32).toInt = -12 from by decide) (fun c20 => ?_) (fun c20 => ?_)
  · skip
    refine j_bipush (pc := 45) (v := (-2)) hX dX8_see_45 (by decide) ?_
    exact j_iret (pc := 47) hX hR dX8_see_47 ⟨rfl, rfl⟩
  · skip
    refine j_iload_n (pc := 23) hX dX8_see_23 1 rfl ?_
    refine j_bipush (pc := 24) (v := nI 12) hX dX8_see_24 (by decide) ?_
    refine j_icmp_gt (pc := 26) (tgt := 45) hX dX8_see_26 (by decide) rfl (nI_toInt (n := 12) (by decide)) (fun c26 => ?_) (fun c26 => ?_)
    · skip
      refine j_bipush (pc := 45) (v := (-2)) hX dX8_see_45 (by decide) ?_
      exact j_iret (pc := 47) hX hR dX8_see_47 ⟨rfl, rfl⟩
    · skip
      refine j_iload_n (pc := 29) hX dX8_see_29 2 rfl ?_
      refine j_callS (pc := 30) hX kX8_isAnyCell kSX8_isAnyCell l_RX8_274 (fun l => c_X8_isAnyCell G cl_  l) [] [0] [] rfl rfl rfl rfl ⟨rfl, rfl, by decide⟩ rfl rfl (Nat.le_of_ble_eq_true rfl) dX8_see_30 (fun v w hq => ?_)
      obtain ⟨rfl, rfl⟩ := hq
      refine j_ws [0] (ws' := [(x, .inr (8, [.ref nw, .ref tk, .int (bI itk), .ref ch, .ref ah, .ref th, .ref tp, .ref wt, .ref rows]))]) rfl rfl ?_
      refine j_ifB_eq (pc := 33) (tgt := 45) hX dX8_see_33 (by decide) (fun c33 => ?_) (fun c33 => ?_)
      · skip
        refine j_bipush (pc := 45) (v := (-2)) hX dX8_see_45 (by decide) ?_
        exact j_iret (pc := 47) hX hR dX8_see_47 ⟨rfl, rfl⟩
      · skip
        refine j_iload_n (pc := 36) hX dX8_see_36 3 rfl ?_
        refine j_if_lt (pc := 37) (tgt := 45) hX dX8_see_37 (by decide) rfl (fun c37 => ?_) (fun c37 => ?_)
        · skip
          refine j_bipush (pc := 45) (v := (-2)) hX dX8_see_45 (by decide) ?_
          exact j_iret (pc := 47) hX hR dX8_see_47 ⟨rfl, rfl⟩
        · skip
          refine j_iload_n (pc := 40) hX dX8_see_40 3 rfl ?_
          refine j_iconstN (pc := 41) (j := 1) hX dX8_see_41 rfl ?_
          refine j_icmp_le (pc := 42) (tgt := 48) hX dX8_see_42 (by decide) rfl (nI_toInt (n := 1) (by decide)) (fun c42 => by exfalso; unfold seeOK at hb; rw [c33, show rngB n (-12) 12 = true from decide_eq_true (by omega), show rngB v 0 1 = true from decide_eq_true (by omega)] at hb; cases hb) (fun c42 => ?_)
          refine j_bipush (pc := 45) (v := (-2)) hX dX8_see_45 (by decide) ?_
          exact j_iret (pc := 47) hX hR dX8_see_47 ⟨rfl, rfl⟩
set_option maxHeartbeats 4000000 in
set_option maxRecDepth 100000 in
theorem c_X8_see_full (G : GT) (x : Nat) (nw : Nat) (tk : Nat) (itk : Bool) (ch : Nat) (ah : Nat) (th : Nat) (tp : Nat) (wt : Nat) (rows : Nat) (g : Nat) (ru : Nat) (se : Nat) (ev : Nat) (sn : Nat) (s0 : Nat → Int32) (s1 : Nat → Nat) (s2 : Nat → Int32) (n : Int32) (cl : Nat) (v : Int32) (hn : -12 ≤ n.toInt ∧ n.toInt ≤ 12) (hcl : cellB (nI cl) = true) (hv : 0 ≤ v.toInt ∧ v.toInt ≤ 1) (l : Launch) : CT l G yX8_see cX8_see 4 (some .int) { frames := 2, cells := 0, slots := 0, locals := 45 } [.ref x, .int n, .int (nI cl), .int v] [(x, .inr (8, [.ref nw, .ref tk, .int (bI itk), .ref ch, .ref ah, .ref th, .ref tp, .ref wt, .ref rows])), (nw, .inr (7, [.ref g, .ref ru, .ref se, .ref ev])), (se, .inr (4, [.int (nI 5), .ref sn])), (sn, ia G (3 * 5) (tab s0 (fun ι => nI (s1 ι)) s2))] (fun vv ww => vv = some (.int (-4)) ∧ ww = [(x, .inr (8, [.ref nw, .ref tk, .int (bI itk), .ref ch, .ref ah, .ref th, .ref tp, .ref wt, .ref rows])), (nw, .inr (7, [.ref g, .ref ru, .ref se, .ref ev])), (se, .inr (4, [.int (nI 5), .ref sn])), (sn, ia G (3 * 5) (tab s0 (fun ι => nI (s1 ι)) s2))]) := by
  refine CT.of (lv := [(0, .ref x), (1, .int n), (2, .int (nI cl)), (3, .int v)]) RX8 "see" rfl rfl (by decide +kernel) (Nat.le_of_ble_eq_true rfl) rfl (fun X hX hR => ?_)
  refine j_iload_n (pc := 0) hX dX8_see_0 3 rfl ?_
  refine j_iconst (pc := 1) (v := (-1)) hX dX8_see_1 (by decide) ?_
  refine j_icmp_ne (pc := 2) (tgt := 17) hX dX8_see_2 (by decide) rfl (show ((-1) : Int32).toInt = -1 from by decide) (fun c2 => ?_) (fun c2 => by exfalso; omega)
  refine j_iload_n (pc := 17) hX dX8_see_17 1 rfl ?_
  refine j_bipush (pc := 18) (v := (-12)) hX dX8_see_18 (by decide) ?_
  refine j_icmp_lt (pc := 20) (tgt := 45) hX dX8_see_20 (by decide) rfl (show ((-12) : Int32).toInt = -12 from by decide) (fun c20 => by exfalso; omega) (fun c20 => ?_)
  refine j_iload_n (pc := 23) hX dX8_see_23 1 rfl ?_
  refine j_bipush (pc := 24) (v := nI 12) hX dX8_see_24 (by decide) ?_
  refine j_icmp_gt (pc := 26) (tgt := 45) hX dX8_see_26 (by decide) rfl (nI_toInt (n := 12) (by decide)) (fun c26 => by exfalso; omega) (fun c26 => ?_)
  refine j_iload_n (pc := 29) hX dX8_see_29 2 rfl ?_
  refine j_callS (pc := 30) hX kX8_isAnyCell kSX8_isAnyCell l_RX8_274 (fun l => c_X8_isAnyCell G (nI cl)  l) [] [0, 1, 2, 3] [] rfl rfl rfl rfl ⟨rfl, rfl, by decide⟩ rfl rfl (Nat.le_of_ble_eq_true rfl) dX8_see_30 (fun v w hq => ?_)
  obtain ⟨rfl, rfl⟩ := hq
  refine j_ws [0, 1, 2, 3] (ws' := [(x, .inr (8, [.ref nw, .ref tk, .int (bI itk), .ref ch, .ref ah, .ref th, .ref tp, .ref wt, .ref rows])), (nw, .inr (7, [.ref g, .ref ru, .ref se, .ref ev])), (se, .inr (4, [.int (nI 5), .ref sn])), (sn, ia G (3 * 5) (tab s0 (fun ι => nI (s1 ι)) s2))]) rfl rfl ?_
  refine j_ifB_eq (pc := 33) (tgt := 45) hX dX8_see_33 (by decide) (fun c33 => by rw [hcl] at c33; cases c33) (fun c33 => ?_)
  refine j_iload_n (pc := 36) hX dX8_see_36 3 rfl ?_
  refine j_if_lt (pc := 37) (tgt := 45) hX dX8_see_37 (by decide) rfl (fun c37 => by exfalso; omega) (fun c37 => ?_)
  refine j_iload_n (pc := 40) hX dX8_see_40 3 rfl ?_
  refine j_iconstN (pc := 41) (j := 1) hX dX8_see_41 rfl ?_
  refine j_icmp_le (pc := 42) (tgt := 48) hX dX8_see_42 (by decide) rfl (nI_toInt (n := 1) (by decide)) (fun c42 => ?_) (fun c42 => by exfalso; omega)
  refine j_aload_n (pc := 48) hX dX8_see_48 0 rfl ?_
  refine j_get (pc := 49) hX f_RX8_12 0 rfl rfl dX8_see_49 ?_
  refine j_getR (pc := 52) hX f_RX8_271 1 rfl rfl dX8_see_52 ?_
  refine j_callV (pc := 55) hX kX4_isFull kVX4_isFull l_RX8_99 (fun l => c_X4_isFull G se sn 5 5 s0 (fun ι => nI (s1 ι)) s2 (by omega) (by omega) l) [2, 3] [0, 1] [] rfl 0 4 rfl rfl rfl rfl rfl rfl ⟨rfl, rfl, by decide⟩ rfl rfl (Nat.le_of_ble_eq_true rfl) dX8_see_55 (fun v w hq => ?_)
  obtain ⟨rfl, rfl⟩ := hq
  refine j_ws [0, 1, 2, 3] (ws' := [(x, .inr (8, [.ref nw, .ref tk, .int (bI itk), .ref ch, .ref ah, .ref th, .ref tp, .ref wt, .ref rows])), (nw, .inr (7, [.ref g, .ref ru, .ref se, .ref ev])), (se, .inr (4, [.int (nI 5), .ref sn])), (sn, ia G (3 * 5) (tab s0 (fun ι => nI (s1 ι)) s2))]) rfl rfl ?_
  refine j_ifB_eq (pc := 58) (tgt := 64) hX dX8_see_58 (by decide) (fun c58 => by have := of_decide_eq_false c58; omega) (fun c58 => ?_)
  refine j_bipush (pc := 61) (v := (-4)) hX dX8_see_61 (by decide) ?_
  exact j_iret (pc := 63) hX hR dX8_see_63 ⟨rfl, rfl⟩
set_option maxHeartbeats 4000000 in
set_option maxRecDepth 100000 in
theorem c_X8_see_ok (G : GT) (x : Nat) (nw : Nat) (tk : Nat) (itk : Bool) (ch : Nat) (ah : Nat) (th : Nat) (tp : Nat) (wt : Nat) (rows : Nat) (g : Nat) (ru : Nat) (se : Nat) (ev : Nat) (m : Nat) (sn : Nat) (s0 : Nat → Int32) (s1 : Nat → Nat) (s2 : Nat → Int32) (n : Int32) (cl : Nat) (v : Int32) (hn : -12 ≤ n.toInt ∧ n.toInt ≤ 12) (hcl : cellB (nI cl) = true) (hv : 0 ≤ v.toInt ∧ v.toInt ≤ 1) (hm : m < 5) (l : Launch) : CT l G yX8_see cX8_see 4 (some .int) { frames := 2, cells := 0, slots := 0, locals := 45 } [.ref x, .int n, .int (nI cl), .int v] [(x, .inr (8, [.ref nw, .ref tk, .int (bI itk), .ref ch, .ref ah, .ref th, .ref tp, .ref wt, .ref rows])), (nw, .inr (7, [.ref g, .ref ru, .ref se, .ref ev])), (se, .inr (4, [.int (nI m), .ref sn])), (sn, ia G (3 * 5) (tab s0 (fun ι => nI (s1 ι)) s2))] (fun vv ww => vv = some (.int (nI (m + 1))) ∧ ww = [(x, .inr (8, [.ref nw, .ref tk, .int (bI itk), .ref ch, .ref ah, .ref th, .ref tp, .ref wt, .ref rows])), (nw, .inr (7, [.ref g, .ref ru, .ref se, .ref ev])), (se, .inr (4, [.int (nI (m + 1)), .ref sn])), (sn, ia G (3 * 5) (tab (upd s0 m n) (fun ι => nI (updN s1 m cl ι)) (upd s2 m v)))]) := by
  refine CT.of (lv := [(0, .ref x), (1, .int n), (2, .int (nI cl)), (3, .int v)]) RX8 "see" rfl rfl (by decide +kernel) (Nat.le_of_ble_eq_true rfl) rfl (fun X hX hR => ?_)
  refine j_iload_n (pc := 0) hX dX8_see_0 3 rfl ?_
  refine j_iconst (pc := 1) (v := (-1)) hX dX8_see_1 (by decide) ?_
  refine j_icmp_ne (pc := 2) (tgt := 17) hX dX8_see_2 (by decide) rfl (show ((-1) : Int32).toInt = -1 from by decide) (fun c2 => ?_) (fun c2 => by exfalso; omega)
  refine j_iload_n (pc := 17) hX dX8_see_17 1 rfl ?_
  refine j_bipush (pc := 18) (v := (-12)) hX dX8_see_18 (by decide) ?_
  refine j_icmp_lt (pc := 20) (tgt := 45) hX dX8_see_20 (by decide) rfl (show ((-12) : Int32).toInt = -12 from by decide) (fun c20 => by exfalso; omega) (fun c20 => ?_)
  refine j_iload_n (pc := 23) hX dX8_see_23 1 rfl ?_
  refine j_bipush (pc := 24) (v := nI 12) hX dX8_see_24 (by decide) ?_
  refine j_icmp_gt (pc := 26) (tgt := 45) hX dX8_see_26 (by decide) rfl (nI_toInt (n := 12) (by decide)) (fun c26 => by exfalso; omega) (fun c26 => ?_)
  refine j_iload_n (pc := 29) hX dX8_see_29 2 rfl ?_
  refine j_callS (pc := 30) hX kX8_isAnyCell kSX8_isAnyCell l_RX8_274 (fun l => c_X8_isAnyCell G (nI cl)  l) [] [0, 1, 2, 3] [] rfl rfl rfl rfl ⟨rfl, rfl, by decide⟩ rfl rfl (Nat.le_of_ble_eq_true rfl) dX8_see_30 (fun v w hq => ?_)
  obtain ⟨rfl, rfl⟩ := hq
  refine j_ws [0, 1, 2, 3] (ws' := [(x, .inr (8, [.ref nw, .ref tk, .int (bI itk), .ref ch, .ref ah, .ref th, .ref tp, .ref wt, .ref rows])), (nw, .inr (7, [.ref g, .ref ru, .ref se, .ref ev])), (se, .inr (4, [.int (nI m), .ref sn])), (sn, ia G (3 * 5) (tab s0 (fun ι => nI (s1 ι)) s2))]) rfl rfl ?_
  refine j_ifB_eq (pc := 33) (tgt := 45) hX dX8_see_33 (by decide) (fun c33 => by rw [hcl] at c33; cases c33) (fun c33 => ?_)
  refine j_iload_n (pc := 36) hX dX8_see_36 3 rfl ?_
  refine j_if_lt (pc := 37) (tgt := 45) hX dX8_see_37 (by decide) rfl (fun c37 => by exfalso; omega) (fun c37 => ?_)
  refine j_iload_n (pc := 40) hX dX8_see_40 3 rfl ?_
  refine j_iconstN (pc := 41) (j := 1) hX dX8_see_41 rfl ?_
  refine j_icmp_le (pc := 42) (tgt := 48) hX dX8_see_42 (by decide) rfl (nI_toInt (n := 1) (by decide)) (fun c42 => ?_) (fun c42 => by exfalso; omega)
  refine j_aload_n (pc := 48) hX dX8_see_48 0 rfl ?_
  refine j_get (pc := 49) hX f_RX8_12 0 rfl rfl dX8_see_49 ?_
  refine j_getR (pc := 52) hX f_RX8_271 1 rfl rfl dX8_see_52 ?_
  refine j_callV (pc := 55) hX kX4_isFull kVX4_isFull l_RX8_99 (fun l => c_X4_isFull G se sn 5 m s0 (fun ι => nI (s1 ι)) s2 (by omega) (by omega) l) [2, 3] [0, 1] [] rfl 0 4 rfl rfl rfl rfl rfl rfl ⟨rfl, rfl, by decide⟩ rfl rfl (Nat.le_of_ble_eq_true rfl) dX8_see_55 (fun v w hq => ?_)
  obtain ⟨rfl, rfl⟩ := hq
  refine j_ws [0, 1, 2, 3] (ws' := [(x, .inr (8, [.ref nw, .ref tk, .int (bI itk), .ref ch, .ref ah, .ref th, .ref tp, .ref wt, .ref rows])), (nw, .inr (7, [.ref g, .ref ru, .ref se, .ref ev])), (se, .inr (4, [.int (nI m), .ref sn])), (sn, ia G (3 * 5) (tab s0 (fun ι => nI (s1 ι)) s2))]) rfl rfl ?_
  refine j_ifB_eq (pc := 58) (tgt := 64) hX dX8_see_58 (by decide) (fun c58 => ?_) (fun c58 => by have := of_decide_eq_true c58; omega)
  refine j_aload_n (pc := 64) hX dX8_see_64 0 rfl ?_
  refine j_get (pc := 65) hX f_RX8_12 0 rfl rfl dX8_see_65 ?_
  refine j_getR (pc := 68) hX f_RX8_271 1 rfl rfl dX8_see_68 ?_
  refine j_iload_n (pc := 71) hX dX8_see_71 1 rfl ?_
  refine j_iload_n (pc := 72) hX dX8_see_72 2 rfl ?_
  refine j_iload_n (pc := 73) hX dX8_see_73 3 rfl ?_
  refine j_callV (pc := 74) hX kX4_add kVX4_add l_RX8_106 (fun l => c_X4_add G se sn 5 m s0 (fun ι => nI (s1 ι)) s2 n (nI cl) v (by omega) (by omega) l) [2, 3] [0, 1] [] rfl 0 4 rfl rfl rfl rfl rfl rfl ⟨rfl, rfl, by decide⟩ rfl rfl (Nat.le_of_ble_eq_true rfl) dX8_see_74 (fun v w hq => ?_)
  obtain ⟨rfl, rfl⟩ := hq
  refine j_ws [0, 1, 2, 3] (ws' := [(x, .inr (8, [.ref nw, .ref tk, .int (bI itk), .ref ch, .ref ah, .ref th, .ref tp, .ref wt, .ref rows])), (nw, .inr (7, [.ref g, .ref ru, .ref se, .ref ev])), (se, .inr (4, [.int (nI (m + 1)), .ref sn])), (sn, ia G (3 * 5) (tab (upd s0 m n) (upd (fun ι => nI (s1 ι)) m (nI cl)) (upd s2 m v)))]) rfl rfl ?_
  refine j_aload_n (pc := 77) hX dX8_see_77 0 rfl ?_
  refine j_get (pc := 78) hX f_RX8_12 0 rfl rfl dX8_see_78 ?_
  refine j_getR (pc := 81) hX f_RX8_271 1 rfl rfl dX8_see_81 ?_
  refine j_get (pc := 84) hX f_RX8_114 2 rfl rfl dX8_see_84 ?_
  refine j_ia (q0 := 3) (f := tab (upd s0 m n) (upd (fun ι => nI (s1 ι)) m (nI cl)) (upd s2 m v)) (g := tab (upd s0 m n) (fun ι => nI (updN s1 m cl ι)) (upd s2 m v)) rfl (fun z hz => by rw [updNf]) (ws' := [(x, .inr (8, [.ref nw, .ref tk, .int (bI itk), .ref ch, .ref ah, .ref th, .ref tp, .ref wt, .ref rows])), (nw, .inr (7, [.ref g, .ref ru, .ref se, .ref ev])), (se, .inr (4, [.int (nI (m + 1)), .ref sn])), (sn, ia G (3 * 5) (tab (upd s0 m n) (fun ι => nI (updN s1 m cl ι)) (upd s2 m v)))]) rfl ?_
  exact j_iret (pc := 87) hX hR dX8_see_87 ⟨rfl, rfl⟩
set_option maxHeartbeats 4000000 in
set_option maxRecDepth 100000 in
theorem c_X8_fits (G : GT) (x : Nat) (nw : Nat) (tk : Nat) (itk : Bool) (ch : Nat) (ah : Nat) (th : Nat) (tp : Nat) (wt : Nat) (rows : Nat) (g : Nat) (ru : Nat) (se : Nat) (ev : Nat) (W : Nat) (H : Nat) (t : Int32) (b : Nat) (f : Nat → Int32) (m : Nat) (sn : Nat) (s0 : Nat → Int32) (s1 : Nat → Nat) (s2 : Nat → Int32) (ms : Int32) (mc : Int32) (mr : Int32) (ag : Nat) (ar : Nat) (ur : Nat) (un : Int32) (aW : Nat) (aH : Nat) (at_ : Int32) (ab : Nat) (af : Nat → Int32) (arn : Nat) (arf : Nat) (ap : Nat → Nat) (aq : Nat → Nat) (hW1 : 2 ≤ W) (hW2 : W ≤ 16) (hH1 : 2 ≤ H) (hH2 : H ≤ 16) (hW3 : W % 2 = 0) (hH3 : H % 2 = 0) (hm : m ≤ 5) (hs : ∀ i, i < m → (-12 ≤ (s0 i).toInt ∧ (s0 i).toInt ≤ 12) ∧ s1 i < 1600) (hap : ∀ s, s < 16 → ap s < 16) (l : Launch) : CT l G yX8_fits cX8_fits 3 (some .int) { frames := 6, cells := 0, slots := 0, locals := 145 } [.ref x] [(x, .inr (8, [.ref nw, .ref tk, .int (bI itk), .ref ch, .ref ah, .ref th, .ref tp, .ref wt, .ref rows])), (nw, .inr (7, [.ref g, .ref ru, .ref se, .ref ev])), (g, .inr (1, [.int (nI W), .int (nI H), .int t, .ref b])), (b, ia G 16 f), (se, .inr (4, [.int (nI m), .ref sn])), (sn, ia G (3 * 5) (tab s0 (fun ι => nI (s1 ι)) s2)), (ah, .inr (0, [.int ms, .int mc, .int mr, .ref ag, .ref ar, .ref ur, .int un])), (ag, .inr (1, [.int (nI aW), .int (nI aH), .int at_, .ref ab])), (ab, ia G 16 af), (ar, .inr (3, [.ref arn, .ref arf])), (arn, ia G 16 (fun ι => nI (ap ι))), (arf, ia G 16 (fun ι => nI (aq ι)))] (fun vv ww => ∃ (aW2 aH2 : Nat) (at2 : Int32) (af2 : Nat → Int32) (ap2 aq2 : Nat → Nat), vv = some (.int (ftF (fun w => seenB W H (wrd w) (wrdI w) t f m s0 s1 s2) 5)) ∧ ww = [(x, .inr (8, [.ref nw, .ref tk, .int (bI itk), .ref ch, .ref ah, .ref th, .ref tp, .ref wt, .ref rows])), (nw, .inr (7, [.ref g, .ref ru, .ref se, .ref ev])), (g, .inr (1, [.int (nI W), .int (nI H), .int t, .ref b])), (b, ia G 16 f), (se, .inr (4, [.int (nI m), .ref sn])), (sn, ia G (3 * 5) (tab s0 (fun ι => nI (s1 ι)) s2)), (ah, .inr (0, [.int ms, .int mc, .int mr, .ref ag, .ref ar, .ref ur, .int un])), (ag, .inr (1, [.int (nI aW2), .int (nI aH2), .int at2, .ref ab])), (ab, ia G 16 af2), (ar, .inr (3, [.ref arn, .ref arf])), (arn, ia G 16 (fun ι => nI (ap2 ι))), (arf, ia G 16 (fun ι => nI (aq2 ι)))] ∧ (∀ s, s < 16 → ap2 s < 16)) := by
  refine CT.of (lv := [(0, .ref x)]) RX8 "fits" rfl rfl (by decide +kernel) (Nat.le_of_ble_eq_true rfl) rfl (fun X hX hR => ?_)
  refine j_iconstN (pc := 0) (j := 0) hX dX8_fits_0 rfl ?_
  refine j_istore_n (pc := 1) (lv' := [(1, .int (nI 0)), (0, .ref x)]) hX dX8_fits_1 (by decide) rfl ?_
  refine j_iconstN (pc := 2) (j := 0) hX dX8_fits_2 rfl ?_
  refine j_istore_n (pc := 3) (lv' := [(2, .int (nI 0)), (1, .int (nI 0)), (0, .ref x)]) hX dX8_fits_3 (by decide) rfl ?_
  have L4 : ∀ (m4 : Nat) (w : Nat) (st : Int32) (aW3 aH3 : Nat) (at3 : Int32) (af3 : Nat → Int32) (ap3 aq3 : Nat → Nat) (hw : w ≤ 5) (hst : st = ftF (fun w => seenB W H (wrd w) (wrdI w) t f m s0 s1 s2) w) (hap3 : ∀ s, s < 16 → ap3 s < 16), 5 - w < m4 → J X G 3 0 0 [(x, .inr (8, [.ref nw, .ref tk, .int (bI itk), .ref ch, .ref ah, .ref th, .ref tp, .ref wt, .ref rows])), (nw, .inr (7, [.ref g, .ref ru, .ref se, .ref ev])), (g, .inr (1, [.int (nI W), .int (nI H), .int t, .ref b])), (b, ia G 16 f), (se, .inr (4, [.int (nI m), .ref sn])), (sn, ia G (3 * 5) (tab s0 (fun ι => nI (s1 ι)) s2)), (ah, .inr (0, [.int ms, .int mc, .int mr, .ref ag, .ref ar, .ref ur, .int un])), (ag, .inr (1, [.int (nI aW3), .int (nI aH3), .int at3, .ref ab])), (ab, ia G 16 af3), (ar, .inr (3, [.ref arn, .ref arf])), (arn, ia G 16 (fun ι => nI (ap3 ι))), (arf, ia G 16 (fun ι => nI (aq3 ι)))] [(0, .ref x), (1, .int st), (2, .int (nI w))] 4 [] := by
    intro m4
    induction m4 with
    | zero => intro w st aW3 aH3 at3 af3 ap3 aq3 hw hst hap3 hm4; exact absurd hm4 (Nat.not_lt_zero _)
    | succ m4 ih4 =>
      intro w st aW3 aH3 at3 af3 ap3 aq3 hw hst hap3 hm4
      refine j_iload_n (pc := 4) hX dX8_fits_4 2 rfl ?_
      refine j_iconstN (pc := 5) (j := 5) hX dX8_fits_5 rfl ?_
      refine j_icmp_ge (pc := 6) (tgt := 36) hX dX8_fits_6 (by decide) (nI_toInt (n := w) (by omega)) (nI_toInt (n := 5) (by decide)) (fun c6 => ?_) (fun c6 => ?_)
      · skip
        refine j_iload_n (pc := 36) hX dX8_fits_36 1 rfl ?_
        exact j_iret (pc := 37) hX hR dX8_fits_37 ⟨aW3, aH3, at3, af3, ap3, aq3, congrArg some (show Value.int st = Value.int (ftF (fun w => seenB W H (wrd w) (wrdI w) t f m s0 s1 s2) 5) from by rw [hst, show w = 5 from by omega]), rfl, hap3⟩
      · skip
        refine j_aload_n (pc := 9) hX dX8_fits_9 0 rfl ?_
        refine j_get (pc := 10) hX f_RX8_37 0 rfl rfl dX8_fits_10 ?_
        refine j_iload_n (pc := 13) hX dX8_fits_13 2 rfl ?_
        refine j_aload_n (pc := 14) hX dX8_fits_14 0 rfl ?_
        refine j_get (pc := 15) hX f_RX8_12 0 rfl rfl dX8_fits_15 ?_
        refine j_callV (pc := 18) hX kX0_isSeenBy kVX0_isSeenBy l_RX8_277 (fun l => c_X0_isSeenBy G ah ms mc mr ag ar ur un aW3 aH3 at3 ab af3 arn arf ap3 aq3 nw g ru se ev W H t b f m sn s0 s1 s2 w (by omega) (by omega) (by omega) (by omega) (by omega) (by omega) (by omega) (by omega) (hs) (hap3) l) [6, 7, 8, 9, 10, 11, 1, 2, 3, 4, 5] [0] [] rfl 0 0 rfl rfl rfl rfl rfl rfl ⟨rfl, rfl, by decide⟩ rfl rfl (Nat.le_of_ble_eq_true rfl) dX8_fits_18 (fun v w hq => ?_)
        obtain ⟨aW2_18, aH2_18, at2_18, af2_18, rfl, rfl⟩ := hq
        refine j_ws [0, 7, 8, 9, 10, 11, 1, 2, 3, 4, 5, 6] (ws' := [(x, .inr (8, [.ref nw, .ref tk, .int (bI itk), .ref ch, .ref ah, .ref th, .ref tp, .ref wt, .ref rows])), (nw, .inr (7, [.ref g, .ref ru, .ref se, .ref ev])), (g, .inr (1, [.int (nI W), .int (nI H), .int t, .ref b])), (b, ia G 16 f), (se, .inr (4, [.int (nI m), .ref sn])), (sn, ia G (3 * 5) (tab s0 (fun ι => nI (s1 ι)) s2)), (ah, .inr (0, [.int ms, .int mc, .int mr, .ref ag, .ref ar, .ref ur, .int un])), (ag, .inr (1, [.int (nI aW2_18), .int (nI aH2_18), .int at2_18, .ref ab])), (ab, ia G 16 af2_18), (ar, .inr (3, [.ref arn, .ref arf])), (arn, ia G 16 (fun ι => nI (wrd w ι))), (arf, ia G 16 (fun ι => nI (wrdI w ι)))]) rfl rfl ?_
        refine j_ifB_eq (pc := 21) (tgt := 30) hX dX8_fits_21 (by decide) (fun c21 => ?_) (fun c21 => ?_)
        · skip
          refine j_iinc (pc := 30) (q := 2) (v := nI (w + 1)) (lv' := [(2, .int (nI (w + 1))), (0, .ref x), (1, .int st)]) hX dX8_fits_30 rfl (nI_inc _ 1) (by decide) rfl ?_
          refine j_goto (pc := 33) (tgt := 4) hX dX8_fits_33 (by decide) ?_
          refine j_ia (q0 := 10) (f := fun ι => nI (wrd w ι)) (g := fun ι => nI ((wrd w) ι)) rfl (fun z hz => by rfl) (ws' := [(x, .inr (8, [.ref nw, .ref tk, .int (bI itk), .ref ch, .ref ah, .ref th, .ref tp, .ref wt, .ref rows])), (nw, .inr (7, [.ref g, .ref ru, .ref se, .ref ev])), (g, .inr (1, [.int (nI W), .int (nI H), .int t, .ref b])), (b, ia G 16 f), (se, .inr (4, [.int (nI m), .ref sn])), (sn, ia G (3 * 5) (tab s0 (fun ι => nI (s1 ι)) s2)), (ah, .inr (0, [.int ms, .int mc, .int mr, .ref ag, .ref ar, .ref ur, .int un])), (ag, .inr (1, [.int (nI aW2_18), .int (nI aH2_18), .int at2_18, .ref ab])), (ab, ia G 16 af2_18), (ar, .inr (3, [.ref arn, .ref arf])), (arn, ia G 16 (fun ι => nI ((wrd w) ι))), (arf, ia G 16 (fun ι => nI (wrdI w ι)))]) rfl ?_
          refine j_ia (q0 := 11) (f := fun ι => nI (wrdI w ι)) (g := fun ι => nI ((wrdI w) ι)) rfl (fun z hz => by rfl) (ws' := [(x, .inr (8, [.ref nw, .ref tk, .int (bI itk), .ref ch, .ref ah, .ref th, .ref tp, .ref wt, .ref rows])), (nw, .inr (7, [.ref g, .ref ru, .ref se, .ref ev])), (g, .inr (1, [.int (nI W), .int (nI H), .int t, .ref b])), (b, ia G 16 f), (se, .inr (4, [.int (nI m), .ref sn])), (sn, ia G (3 * 5) (tab s0 (fun ι => nI (s1 ι)) s2)), (ah, .inr (0, [.int ms, .int mc, .int mr, .ref ag, .ref ar, .ref ur, .int un])), (ag, .inr (1, [.int (nI aW2_18), .int (nI aH2_18), .int at2_18, .ref ab])), (ab, ia G 16 af2_18), (ar, .inr (3, [.ref arn, .ref arf])), (arn, ia G 16 (fun ι => nI ((wrd w) ι))), (arf, ia G 16 (fun ι => nI ((wrdI w) ι)))]) rfl ?_
          refine j_lv [1, 2, 0] (lv' := [(0, .ref x), (1, .int st), (2, .int (nI (w + 1)))]) rfl ?_
          exact ih4 (w + 1) st aW2_18 aH2_18 at2_18 af2_18 (wrd w) (wrdI w) (by omega) (by rw [hst]; show _ = (if seenB W H (wrd w) (wrdI w) t f m s0 s1 s2 then _ else _); rw [c21]; rfl) (wrd_lt5 (by omega)) (by omega)
        · skip
          refine j_iload_n (pc := 24) hX dX8_fits_24 1 rfl ?_
          refine j_iconstN (pc := 25) (j := 1) hX dX8_fits_25 rfl ?_
          refine j_iload_n (pc := 26) hX dX8_fits_26 2 rfl ?_
          refine j_ishl (pc := 27) hX dX8_fits_27 ?_
          refine j_ior (pc := 28) hX dX8_fits_28 ?_
          refine j_istore_n (pc := 29) (lv' := [(1, .int (st ||| ((nI 1) <<< ((nI w) &&& 31)))), (0, .ref x), (2, .int (nI w))]) hX dX8_fits_29 (by decide) rfl ?_
          refine j_iinc (pc := 30) (q := 2) (v := nI (w + 1)) (lv' := [(2, .int (nI (w + 1))), (1, .int (st ||| ((nI 1) <<< ((nI w) &&& 31)))), (0, .ref x)]) hX dX8_fits_30 rfl (nI_inc _ 1) (by decide) rfl ?_
          refine j_goto (pc := 33) (tgt := 4) hX dX8_fits_33 (by decide) ?_
          refine j_ia (q0 := 10) (f := fun ι => nI (wrd w ι)) (g := fun ι => nI ((wrd w) ι)) rfl (fun z hz => by rfl) (ws' := [(x, .inr (8, [.ref nw, .ref tk, .int (bI itk), .ref ch, .ref ah, .ref th, .ref tp, .ref wt, .ref rows])), (nw, .inr (7, [.ref g, .ref ru, .ref se, .ref ev])), (g, .inr (1, [.int (nI W), .int (nI H), .int t, .ref b])), (b, ia G 16 f), (se, .inr (4, [.int (nI m), .ref sn])), (sn, ia G (3 * 5) (tab s0 (fun ι => nI (s1 ι)) s2)), (ah, .inr (0, [.int ms, .int mc, .int mr, .ref ag, .ref ar, .ref ur, .int un])), (ag, .inr (1, [.int (nI aW2_18), .int (nI aH2_18), .int at2_18, .ref ab])), (ab, ia G 16 af2_18), (ar, .inr (3, [.ref arn, .ref arf])), (arn, ia G 16 (fun ι => nI ((wrd w) ι))), (arf, ia G 16 (fun ι => nI (wrdI w ι)))]) rfl ?_
          refine j_ia (q0 := 11) (f := fun ι => nI (wrdI w ι)) (g := fun ι => nI ((wrdI w) ι)) rfl (fun z hz => by rfl) (ws' := [(x, .inr (8, [.ref nw, .ref tk, .int (bI itk), .ref ch, .ref ah, .ref th, .ref tp, .ref wt, .ref rows])), (nw, .inr (7, [.ref g, .ref ru, .ref se, .ref ev])), (g, .inr (1, [.int (nI W), .int (nI H), .int t, .ref b])), (b, ia G 16 f), (se, .inr (4, [.int (nI m), .ref sn])), (sn, ia G (3 * 5) (tab s0 (fun ι => nI (s1 ι)) s2)), (ah, .inr (0, [.int ms, .int mc, .int mr, .ref ag, .ref ar, .ref ur, .int un])), (ag, .inr (1, [.int (nI aW2_18), .int (nI aH2_18), .int at2_18, .ref ab])), (ab, ia G 16 af2_18), (ar, .inr (3, [.ref arn, .ref arf])), (arn, ia G 16 (fun ι => nI ((wrd w) ι))), (arf, ia G 16 (fun ι => nI ((wrdI w) ι)))]) rfl ?_
          refine j_lv [2, 1, 0] (lv' := [(0, .ref x), (1, .int (st ||| ((nI 1) <<< ((nI w) &&& 31)))), (2, .int (nI (w + 1)))]) rfl ?_
          exact ih4 (w + 1) (st ||| ((nI 1) <<< ((nI w) &&& 31))) aW2_18 aH2_18 at2_18 af2_18 (wrd w) (wrdI w) (by omega) (by rw [hst]; show _ = (if seenB W H (wrd w) (wrdI w) t f m s0 s1 s2 then _ else _); rw [c21]; rfl) (wrd_lt5 (by omega)) (by omega)
  refine j_lv [2, 1, 0] (lv' := [(0, .ref x), (1, .int (nI 0)), (2, .int (nI 0))]) rfl ?_
  exact L4 ((5 - 0) + 1) 0 (nI 0) aW aH at_ af ap aq (by omega) (rfl) (hap) (Nat.lt_succ_self _)
set_option maxHeartbeats 4000000 in
set_option maxRecDepth 100000 in
theorem c_X8_canHappen (G : GT) (x : Nat) (nw : Nat) (tk : Nat) (itk : Bool) (ch : Nat) (ah : Nat) (th : Nat) (tp : Nat) (wt : Nat) (rows : Nat) (g : Nat) (ru : Nat) (se : Nat) (ev : Nat) (W : Nat) (H : Nat) (t : Int32) (b : Nat) (f : Nat → Int32) (a0 : Nat) (n : Int32) (hW1 : 2 ≤ W) (hW2 : W ≤ 16) (hH1 : 2 ≤ H) (hH2 : H ≤ 16) (ha : a0 ≤ 2) (l : Launch) : CT l G yX8_canHappen cX8_canHappen 3 (some .boolean) { frames := 1, cells := 0, slots := 0, locals := 22 } [.ref x, .int (nI a0), .int n] [(x, .inr (8, [.ref nw, .ref tk, .int (bI itk), .ref ch, .ref ah, .ref th, .ref tp, .ref wt, .ref rows])), (nw, .inr (7, [.ref g, .ref ru, .ref se, .ref ev])), (g, .inr (1, [.int (nI W), .int (nI H), .int t, .ref b])), (b, ia G 16 f)] (fun vv ww => vv = some (.int (bI (canB W H a0 n))) ∧ ww = [(x, .inr (8, [.ref nw, .ref tk, .int (bI itk), .ref ch, .ref ah, .ref th, .ref tp, .ref wt, .ref rows])), (nw, .inr (7, [.ref g, .ref ru, .ref se, .ref ev])), (g, .inr (1, [.int (nI W), .int (nI H), .int t, .ref b])), (b, ia G 16 f)]) := by
  refine CT.of (lv := [(0, .ref x), (1, .int (nI a0)), (2, .int n)]) RX8 "canHappen" rfl rfl (by decide +kernel) (Nat.le_of_ble_eq_true rfl) rfl (fun X hX hR => ?_)
  refine j_iload_n (pc := 0) hX dX8_canHappen_0 1 rfl ?_
  rcases (show (nI a0).toInt = 0 ∨ (nI a0).toInt = 1 ∨ ((nI a0).toInt ≠ 0 ∧ (nI a0).toInt ≠ 1) from by omega) with s1 | s1 | s1
  · skip
    refine j_lookup (pc := 1) (off := 27) (tgt := 28) hX dX8_canHappen_1 rfl (by rw [s1]; rfl) (by decide) ?_
    have he : a0 = 0 := by rw [nI_toInt (by omega)] at s1; omega
    refine j_iload_n (pc := 28) hX dX8_canHappen_28 2 rfl ?_
    refine j_if_lt (pc := 29) (tgt := 41) hX dX8_canHappen_29 (by decide) rfl (fun c29 => ?_) (fun c29 => ?_)
    · skip
      refine j_iconstN (pc := 41) (j := 0) hX dX8_canHappen_41 rfl ?_
      exact j_zret (pc := 42) hX hR (by decide) dX8_canHappen_42 ⟨congrArg some (show Value.int (nI 0) = Value.int (bI (canB W H a0 n)) from by first | exact bI_t (by omega) | exact bI_f (by omega)), rfl⟩
    · skip
      refine j_iload_n (pc := 32) hX dX8_canHappen_32 2 rfl ?_
      refine j_iconstN (pc := 33) (j := 5) hX dX8_canHappen_33 rfl ?_
      refine j_icmp_ge (pc := 34) (tgt := 41) hX dX8_canHappen_34 (by decide) rfl (nI_toInt (n := 5) (by decide)) (fun c34 => ?_) (fun c34 => ?_)
      · skip
        refine j_iconstN (pc := 41) (j := 0) hX dX8_canHappen_41 rfl ?_
        exact j_zret (pc := 42) hX hR (by decide) dX8_canHappen_42 ⟨congrArg some (show Value.int (nI 0) = Value.int (bI (canB W H a0 n)) from by first | exact bI_t (by omega) | exact bI_f (by omega)), rfl⟩
      · skip
        refine j_iconstN (pc := 37) (j := 1) hX dX8_canHappen_37 rfl ?_
        refine j_goto (pc := 38) (tgt := 42) hX dX8_canHappen_38 (by decide) ?_
        exact j_zret (pc := 42) hX hR (by decide) dX8_canHappen_42 ⟨congrArg some (show Value.int (nI 1) = Value.int (bI (canB W H a0 n)) from by first | exact bI_t (by omega) | exact bI_f (by omega)), rfl⟩
  · skip
    refine j_lookup (pc := 1) (off := 42) (tgt := 43) hX dX8_canHappen_1 rfl (by rw [s1]; rfl) (by decide) ?_
    have he : a0 = 1 := by rw [nI_toInt (by omega)] at s1; omega
    refine j_iload_n (pc := 43) hX dX8_canHappen_43 2 rfl ?_
    refine j_if_lt (pc := 44) (tgt := 57) hX dX8_canHappen_44 (by decide) rfl (fun c44 => ?_) (fun c44 => ?_)
    · skip
      refine j_iconstN (pc := 57) (j := 0) hX dX8_canHappen_57 rfl ?_
      exact j_zret (pc := 58) hX hR (by decide) dX8_canHappen_58 ⟨congrArg some (show Value.int (nI 0) = Value.int (bI (canB W H a0 n)) from by first | exact bI_t (by omega) | exact bI_f (by omega)), rfl⟩
    · skip
      refine j_iload_n (pc := 47) hX dX8_canHappen_47 2 rfl ?_
      refine j_bipush (pc := 48) (v := nI 20) hX dX8_canHappen_48 (by decide) ?_
      refine j_icmp_gt (pc := 50) (tgt := 57) hX dX8_canHappen_50 (by decide) rfl (nI_toInt (n := 20) (by decide)) (fun c50 => ?_) (fun c50 => ?_)
      · skip
        refine j_iconstN (pc := 57) (j := 0) hX dX8_canHappen_57 rfl ?_
        exact j_zret (pc := 58) hX hR (by decide) dX8_canHappen_58 ⟨congrArg some (show Value.int (nI 0) = Value.int (bI (canB W H a0 n)) from by first | exact bI_t (by omega) | exact bI_f (by omega)), rfl⟩
      · skip
        refine j_iconstN (pc := 53) (j := 1) hX dX8_canHappen_53 rfl ?_
        refine j_goto (pc := 54) (tgt := 58) hX dX8_canHappen_54 (by decide) ?_
        exact j_zret (pc := 58) hX hR (by decide) dX8_canHappen_58 ⟨congrArg some (show Value.int (nI 1) = Value.int (bI (canB W H a0 n)) from by first | exact bI_t (by omega) | exact bI_f (by omega)), rfl⟩
  · skip
    refine j_lookup (pc := 1) (off := 58) (tgt := 59) hX dX8_canHappen_1 rfl (by simp [Op.lookupswitch.offset, Ne.symm s1.1, Ne.symm s1.2]) (by decide) ?_
    have he : a0 = 2 := by rw [nI_toInt (by omega)] at s1; omega
    refine j_aload_n (pc := 59) hX dX8_canHappen_59 0 rfl ?_
    refine j_get (pc := 60) hX f_RX8_12 0 rfl rfl dX8_canHappen_60 ?_
    refine j_getR (pc := 63) hX f_RX8_69 1 rfl rfl dX8_canHappen_63 ?_
    refine j_iload_n (pc := 66) hX dX8_canHappen_66 2 rfl ?_
    refine j_bipush (pc := 67) (v := nI 100) hX dX8_canHappen_67 (by decide) ?_
    refine j_idiv (pc := 69) hX dX8_canHappen_69 (by decide) ?_
    refine j_iload_n (pc := 70) hX dX8_canHappen_70 2 rfl ?_
    refine j_bipush (pc := 71) (v := nI 100) hX dX8_canHappen_71 (by decide) ?_
    refine j_irem (pc := 73) hX dX8_canHappen_73 (by decide) ?_
    refine j_callV (pc := 74) hX kX1_has kVX1_has l_RX8_92 (fun l => c_X1_has G g W H t b f (n / (nI 100)) (n - n / (nI 100) * (nI 100)) (by omega) (by omega) (by omega) (by omega) l) [2, 3] [0, 1] [] rfl 0 1 rfl rfl rfl rfl rfl rfl ⟨rfl, rfl, by decide⟩ rfl rfl (Nat.le_of_ble_eq_true rfl) dX8_canHappen_74 (fun v w hq => ?_)
    obtain ⟨rfl, rfl⟩ := hq
    refine j_ws [0, 1, 2, 3] (ws' := [(x, .inr (8, [.ref nw, .ref tk, .int (bI itk), .ref ch, .ref ah, .ref th, .ref tp, .ref wt, .ref rows])), (nw, .inr (7, [.ref g, .ref ru, .ref se, .ref ev])), (g, .inr (1, [.int (nI W), .int (nI H), .int t, .ref b])), (b, ia G 16 f)]) rfl rfl ?_
    exact j_zret (pc := 77) hX hR (bI_nar _) dX8_canHappen_77 ⟨congrArg some (show Value.int (bI (inG W H (n / (nI 100)) (n - n / (nI 100) * (nI 100)))) = Value.int (bI (canB W H a0 n)) from congrArg (fun z => Value.int (bI z)) (by rw [inG_raw]; exact decide_eq_decide.mpr (by omega))), rfl⟩
set_option maxHeartbeats 4000000 in
set_option maxRecDepth 100000 in
theorem c_X8_event_clear (G : GT) (x : Nat) (nw : Nat) (tk : Nat) (itk : Bool) (ch : Nat) (ah : Nat) (th : Nat) (tp : Nat) (wt : Nat) (rows : Nat) (g : Nat) (ru : Nat) (se : Nat) (ev : Nat) (k : Nat) (en : Nat) (e0 : Nat → Nat) (e1 : Nat → Nat) (n : Int32)  (l : Launch) : CT l G yX8_event cX8_event 3 (some .int) { frames := 2, cells := 0, slots := 0, locals := 45 } [.ref x, .int (-1), .int n] [(x, .inr (8, [.ref nw, .ref tk, .int (bI itk), .ref ch, .ref ah, .ref th, .ref tp, .ref wt, .ref rows])), (nw, .inr (7, [.ref g, .ref ru, .ref se, .ref ev])), (ev, .inr (4, [.int (nI k), .ref en])), (en, ia G (3 * 8) (tab (fun ι => nI (e0 ι)) (fun ι => nI (e1 ι)) (fun _ => 0)))] (fun vv ww => vv = some (.int (nI 0)) ∧ ww = [(x, .inr (8, [.ref nw, .ref tk, .int (bI itk), .ref ch, .ref ah, .ref th, .ref tp, .ref wt, .ref rows])), (nw, .inr (7, [.ref g, .ref ru, .ref se, .ref ev])), (ev, .inr (4, [.int (nI 0), .ref en])), (en, ia G (3 * 8) (tab (fun ι => nI (e0 ι)) (fun ι => nI (e1 ι)) (fun _ => 0)))]) := by
  refine CT.of (lv := [(0, .ref x), (1, .int (-1)), (2, .int n)]) RX8 "event" rfl rfl (by decide +kernel) (Nat.le_of_ble_eq_true rfl) rfl (fun X hX hR => ?_)
  refine j_iload_n (pc := 0) hX dX8_event_0 1 rfl ?_
  refine j_iconst (pc := 1) (v := (-1)) hX dX8_event_1 (by decide) ?_
  refine j_icmp_ne (pc := 2) (tgt := 17) hX dX8_event_2 (by decide) (show ((-1) : Int32).toInt = -1 from by decide) (show ((-1) : Int32).toInt = -1 from by decide) (fun c2 => absurd c2 (by decide)) (fun c2 => ?_)
  refine j_aload_n (pc := 5) hX dX8_event_5 0 rfl ?_
  refine j_get (pc := 6) hX f_RX8_12 0 rfl rfl dX8_event_6 ?_
  refine j_getR (pc := 9) hX f_RX8_281 1 rfl rfl dX8_event_9 ?_
  refine j_callV (pc := 12) hX kX4_empty kVX4_empty l_RX8_89 (fun l => c_X4_empty G ev en 8 k (fun ι => nI (e0 ι)) (fun ι => nI (e1 ι)) (fun _ => 0)  l) [2, 3] [0, 1] [] rfl 0 4 rfl rfl rfl rfl rfl rfl ⟨rfl, rfl, by decide⟩ rfl rfl (Nat.le_of_ble_eq_true rfl) dX8_event_12 (fun v w hq => ?_)
  obtain ⟨rfl, rfl⟩ := hq
  refine j_ws [0, 1, 2, 3] (ws' := [(x, .inr (8, [.ref nw, .ref tk, .int (bI itk), .ref ch, .ref ah, .ref th, .ref tp, .ref wt, .ref rows])), (nw, .inr (7, [.ref g, .ref ru, .ref se, .ref ev])), (ev, .inr (4, [.int (nI 0), .ref en])), (en, ia G (3 * 8) (tab (fun ι => nI (e0 ι)) (fun ι => nI (e1 ι)) (fun _ => 0)))]) rfl rfl ?_
  refine j_iconstN (pc := 15) (j := 0) hX dX8_event_15 rfl ?_
  exact j_iret (pc := 16) hX hR dX8_event_16 ⟨rfl, rfl⟩
set_option maxHeartbeats 4000000 in
set_option maxRecDepth 100000 in
theorem c_X8_event_none (G : GT) (x : Nat) (nw : Nat) (tk : Nat) (itk : Bool) (ch : Nat) (ah : Nat) (th : Nat) (tp : Nat) (wt : Nat) (rows : Nat) (w n : Int32) (hb : w.toInt ≠ -1 ∧ (w.toInt < 0 ∨ 2 < w.toInt)) (l : Launch) : CT l G yX8_event cX8_event 3 (some .int) { frames := 2, cells := 0, slots := 0, locals := 45 } [.ref x, .int w, .int n] [(x, .inr (8, [.ref nw, .ref tk, .int (bI itk), .ref ch, .ref ah, .ref th, .ref tp, .ref wt, .ref rows]))] (fun vv ww => vv = some (.int (-1)) ∧ ww = [(x, .inr (8, [.ref nw, .ref tk, .int (bI itk), .ref ch, .ref ah, .ref th, .ref tp, .ref wt, .ref rows]))]) := by
  refine CT.of (lv := [(0, .ref x), (1, .int w), (2, .int n)]) RX8 "event" rfl rfl (by decide +kernel) (Nat.le_of_ble_eq_true rfl) rfl (fun X hX hR => ?_)
  refine j_iload_n (pc := 0) hX dX8_event_0 1 rfl ?_
  refine j_iconst (pc := 1) (v := (-1)) hX dX8_event_1 (by decide) ?_
  refine j_icmp_ne (pc := 2) (tgt := 17) hX dX8_event_2 (by decide) rfl (show ((-1) : Int32).toInt = -1 from by decide) (fun c2 => ?_) (fun c2 => by exfalso; omega)
  refine j_iload_n (pc := 17) hX dX8_event_17 1 rfl ?_
  refine j_if_lt (pc := 18) (tgt := 26) hX dX8_event_18 (by decide) rfl (fun c18 => ?_) (fun c18 => ?_)
  · skip
    refine j_iconst (pc := 26) (v := (-1)) hX dX8_event_26 (by decide) ?_
    exact j_iret (pc := 27) hX hR dX8_event_27 ⟨rfl, rfl⟩
  · skip
    refine j_iload_n (pc := 21) hX dX8_event_21 1 rfl ?_
    refine j_iconstN (pc := 22) (j := 2) hX dX8_event_22 rfl ?_
    refine j_icmp_le (pc := 23) (tgt := 28) hX dX8_event_23 (by decide) rfl (nI_toInt (n := 2) (by decide)) (fun c23 => by exfalso; omega) (fun c23 => ?_)
    refine j_iconst (pc := 26) (v := (-1)) hX dX8_event_26 (by decide) ?_
    exact j_iret (pc := 27) hX hR dX8_event_27 ⟨rfl, rfl⟩
set_option maxHeartbeats 4000000 in
set_option maxRecDepth 100000 in
theorem c_X8_event_bad (G : GT) (x : Nat) (nw : Nat) (tk : Nat) (itk : Bool) (ch : Nat) (ah : Nat) (th : Nat) (tp : Nat) (wt : Nat) (rows : Nat) (g : Nat) (ru : Nat) (se : Nat) (ev : Nat) (W : Nat) (H : Nat) (t : Int32) (b : Nat) (f : Nat → Int32) (a0 : Nat) (n : Int32) (hW1 : 2 ≤ W) (hW2 : W ≤ 16) (hH1 : 2 ≤ H) (hH2 : H ≤ 16) (ha : a0 ≤ 2) (hb : canB W H a0 n = false) (l : Launch) : CT l G yX8_event cX8_event 3 (some .int) { frames := 2, cells := 0, slots := 0, locals := 45 } [.ref x, .int (nI a0), .int n] [(x, .inr (8, [.ref nw, .ref tk, .int (bI itk), .ref ch, .ref ah, .ref th, .ref tp, .ref wt, .ref rows])), (nw, .inr (7, [.ref g, .ref ru, .ref se, .ref ev])), (g, .inr (1, [.int (nI W), .int (nI H), .int t, .ref b])), (b, ia G 16 f)] (fun vv ww => vv = some (.int (-2)) ∧ ww = [(x, .inr (8, [.ref nw, .ref tk, .int (bI itk), .ref ch, .ref ah, .ref th, .ref tp, .ref wt, .ref rows])), (nw, .inr (7, [.ref g, .ref ru, .ref se, .ref ev])), (g, .inr (1, [.int (nI W), .int (nI H), .int t, .ref b])), (b, ia G 16 f)]) := by
  refine CT.of (lv := [(0, .ref x), (1, .int (nI a0)), (2, .int n)]) RX8 "event" rfl rfl (by decide +kernel) (Nat.le_of_ble_eq_true rfl) rfl (fun X hX hR => ?_)
  refine j_iload_n (pc := 0) hX dX8_event_0 1 rfl ?_
  refine j_iconst (pc := 1) (v := (-1)) hX dX8_event_1 (by decide) ?_
  refine j_icmp_ne (pc := 2) (tgt := 17) hX dX8_event_2 (by decide) (nI_toInt (n := a0) (by omega)) (show ((-1) : Int32).toInt = -1 from by decide) (fun c2 => ?_) (fun c2 => by exfalso; omega)
  refine j_iload_n (pc := 17) hX dX8_event_17 1 rfl ?_
  refine j_if_lt (pc := 18) (tgt := 26) hX dX8_event_18 (by decide) (nI_toInt (n := a0) (by omega)) (fun c18 => by exfalso; omega) (fun c18 => ?_)
  refine j_iload_n (pc := 21) hX dX8_event_21 1 rfl ?_
  refine j_iconstN (pc := 22) (j := 2) hX dX8_event_22 rfl ?_
  refine j_icmp_le (pc := 23) (tgt := 28) hX dX8_event_23 (by decide) (nI_toInt (n := a0) (by omega)) (nI_toInt (n := 2) (by decide)) (fun c23 => ?_) (fun c23 => by exfalso; omega)
  refine j_aload_n (pc := 28) hX dX8_event_28 0 rfl ?_
  refine j_iload_n (pc := 29) hX dX8_event_29 1 rfl ?_
  refine j_iload_n (pc := 30) hX dX8_event_30 2 rfl ?_
  refine j_callV (pc := 31) hX kX8_canHappen kVX8_canHappen l_RX8_284 (fun l => c_X8_canHappen G x nw tk itk ch ah th tp wt rows g ru se ev W H t b f a0 n (by omega) (by omega) (by omega) (by omega) (by omega) l) [0, 1, 2, 3] [] [] rfl 0 8 rfl rfl rfl rfl rfl rfl ⟨rfl, rfl, by decide⟩ rfl rfl (Nat.le_of_ble_eq_true rfl) dX8_event_31 (fun v w hq => ?_)
  obtain ⟨rfl, rfl⟩ := hq
  refine j_ws [0, 1, 2, 3] (ws' := [(x, .inr (8, [.ref nw, .ref tk, .int (bI itk), .ref ch, .ref ah, .ref th, .ref tp, .ref wt, .ref rows])), (nw, .inr (7, [.ref g, .ref ru, .ref se, .ref ev])), (g, .inr (1, [.int (nI W), .int (nI H), .int t, .ref b])), (b, ia G 16 f)]) rfl rfl ?_
  refine j_ifB_ne (pc := 34) (tgt := 40) hX dX8_event_34 (by decide) (fun c34 => by rw [hb] at c34; cases c34) (fun c34 => ?_)
  refine j_bipush (pc := 37) (v := (-2)) hX dX8_event_37 (by decide) ?_
  exact j_iret (pc := 39) hX hR dX8_event_39 ⟨rfl, rfl⟩
set_option maxHeartbeats 4000000 in
set_option maxRecDepth 100000 in
theorem c_X8_event_full (G : GT) (x : Nat) (nw : Nat) (tk : Nat) (itk : Bool) (ch : Nat) (ah : Nat) (th : Nat) (tp : Nat) (wt : Nat) (rows : Nat) (g : Nat) (ru : Nat) (se : Nat) (ev : Nat) (W : Nat) (H : Nat) (t : Int32) (b : Nat) (f : Nat → Int32) (en : Nat) (e0 : Nat → Nat) (e1 : Nat → Nat) (a0 n : Nat) (hW1 : 2 ≤ W) (hW2 : W ≤ 16) (hH1 : 2 ≤ H) (hH2 : H ≤ 16) (ha : a0 ≤ 2) (hb : canB W H a0 (nI n) = true) (l : Launch) : CT l G yX8_event cX8_event 3 (some .int) { frames := 2, cells := 0, slots := 0, locals := 45 } [.ref x, .int (nI a0), .int (nI n)] [(x, .inr (8, [.ref nw, .ref tk, .int (bI itk), .ref ch, .ref ah, .ref th, .ref tp, .ref wt, .ref rows])), (nw, .inr (7, [.ref g, .ref ru, .ref se, .ref ev])), (g, .inr (1, [.int (nI W), .int (nI H), .int t, .ref b])), (b, ia G 16 f), (ev, .inr (4, [.int (nI 8), .ref en])), (en, ia G (3 * 8) (tab (fun ι => nI (e0 ι)) (fun ι => nI (e1 ι)) (fun _ => 0)))] (fun vv ww => vv = some (.int (-4)) ∧ ww = [(x, .inr (8, [.ref nw, .ref tk, .int (bI itk), .ref ch, .ref ah, .ref th, .ref tp, .ref wt, .ref rows])), (nw, .inr (7, [.ref g, .ref ru, .ref se, .ref ev])), (g, .inr (1, [.int (nI W), .int (nI H), .int t, .ref b])), (b, ia G 16 f), (ev, .inr (4, [.int (nI 8), .ref en])), (en, ia G (3 * 8) (tab (fun ι => nI (e0 ι)) (fun ι => nI (e1 ι)) (fun _ => 0)))]) := by
  refine CT.of (lv := [(0, .ref x), (1, .int (nI a0)), (2, .int (nI n))]) RX8 "event" rfl rfl (by decide +kernel) (Nat.le_of_ble_eq_true rfl) rfl (fun X hX hR => ?_)
  refine j_iload_n (pc := 0) hX dX8_event_0 1 rfl ?_
  refine j_iconst (pc := 1) (v := (-1)) hX dX8_event_1 (by decide) ?_
  refine j_icmp_ne (pc := 2) (tgt := 17) hX dX8_event_2 (by decide) (nI_toInt (n := a0) (by omega)) (show ((-1) : Int32).toInt = -1 from by decide) (fun c2 => ?_) (fun c2 => by exfalso; omega)
  refine j_iload_n (pc := 17) hX dX8_event_17 1 rfl ?_
  refine j_if_lt (pc := 18) (tgt := 26) hX dX8_event_18 (by decide) (nI_toInt (n := a0) (by omega)) (fun c18 => by exfalso; omega) (fun c18 => ?_)
  refine j_iload_n (pc := 21) hX dX8_event_21 1 rfl ?_
  refine j_iconstN (pc := 22) (j := 2) hX dX8_event_22 rfl ?_
  refine j_icmp_le (pc := 23) (tgt := 28) hX dX8_event_23 (by decide) (nI_toInt (n := a0) (by omega)) (nI_toInt (n := 2) (by decide)) (fun c23 => ?_) (fun c23 => by exfalso; omega)
  refine j_aload_n (pc := 28) hX dX8_event_28 0 rfl ?_
  refine j_iload_n (pc := 29) hX dX8_event_29 1 rfl ?_
  refine j_iload_n (pc := 30) hX dX8_event_30 2 rfl ?_
  refine j_callV (pc := 31) hX kX8_canHappen kVX8_canHappen l_RX8_284 (fun l => c_X8_canHappen G x nw tk itk ch ah th tp wt rows g ru se ev W H t b f a0 (nI n) (by omega) (by omega) (by omega) (by omega) (by omega) l) [0, 1, 2, 3] [4, 5] [] rfl 0 8 rfl rfl rfl rfl rfl rfl ⟨rfl, rfl, by decide⟩ rfl rfl (Nat.le_of_ble_eq_true rfl) dX8_event_31 (fun v w hq => ?_)
  obtain ⟨rfl, rfl⟩ := hq
  refine j_ws [2, 3, 4, 5, 0, 1] (ws' := [(x, .inr (8, [.ref nw, .ref tk, .int (bI itk), .ref ch, .ref ah, .ref th, .ref tp, .ref wt, .ref rows])), (nw, .inr (7, [.ref g, .ref ru, .ref se, .ref ev])), (g, .inr (1, [.int (nI W), .int (nI H), .int t, .ref b])), (b, ia G 16 f), (ev, .inr (4, [.int (nI 8), .ref en])), (en, ia G (3 * 8) (tab (fun ι => nI (e0 ι)) (fun ι => nI (e1 ι)) (fun _ => 0)))]) rfl rfl ?_
  refine j_ifB_ne (pc := 34) (tgt := 40) hX dX8_event_34 (by decide) (fun c34 => ?_) (fun c34 => by rw [hb] at c34; cases c34)
  refine j_aload_n (pc := 40) hX dX8_event_40 0 rfl ?_
  refine j_get (pc := 41) hX f_RX8_12 0 rfl rfl dX8_event_41 ?_
  refine j_getR (pc := 44) hX f_RX8_281 1 rfl rfl dX8_event_44 ?_
  refine j_callV (pc := 47) hX kX4_isFull kVX4_isFull l_RX8_99 (fun l => c_X4_isFull G ev en 8 8 (fun ι => nI (e0 ι)) (fun ι => nI (e1 ι)) (fun _ => 0) (by omega) (by omega) l) [4, 5] [0, 1, 2, 3] [] rfl 0 4 rfl rfl rfl rfl rfl rfl ⟨rfl, rfl, by decide⟩ rfl rfl (Nat.le_of_ble_eq_true rfl) dX8_event_47 (fun v w hq => ?_)
  obtain ⟨rfl, rfl⟩ := hq
  refine j_ws [0, 1, 2, 3, 4, 5] (ws' := [(x, .inr (8, [.ref nw, .ref tk, .int (bI itk), .ref ch, .ref ah, .ref th, .ref tp, .ref wt, .ref rows])), (nw, .inr (7, [.ref g, .ref ru, .ref se, .ref ev])), (g, .inr (1, [.int (nI W), .int (nI H), .int t, .ref b])), (b, ia G 16 f), (ev, .inr (4, [.int (nI 8), .ref en])), (en, ia G (3 * 8) (tab (fun ι => nI (e0 ι)) (fun ι => nI (e1 ι)) (fun _ => 0)))]) rfl rfl ?_
  refine j_ifB_eq (pc := 50) (tgt := 56) hX dX8_event_50 (by decide) (fun c50 => by have := of_decide_eq_false c50; omega) (fun c50 => ?_)
  refine j_bipush (pc := 53) (v := (-4)) hX dX8_event_53 (by decide) ?_
  exact j_iret (pc := 55) hX hR dX8_event_55 ⟨rfl, rfl⟩
set_option maxHeartbeats 4000000 in
set_option maxRecDepth 100000 in
theorem c_X8_event_ok (G : GT) (x : Nat) (nw : Nat) (tk : Nat) (itk : Bool) (ch : Nat) (ah : Nat) (th : Nat) (tp : Nat) (wt : Nat) (rows : Nat) (g : Nat) (ru : Nat) (se : Nat) (ev : Nat) (W : Nat) (H : Nat) (t : Int32) (b : Nat) (f : Nat → Int32) (k : Nat) (en : Nat) (e0 : Nat → Nat) (e1 : Nat → Nat) (a0 n : Nat) (hW1 : 2 ≤ W) (hW2 : W ≤ 16) (hH1 : 2 ≤ H) (hH2 : H ≤ 16) (ha : a0 ≤ 2) (hb : canB W H a0 (nI n) = true) (hk : k < 8) (l : Launch) : CT l G yX8_event cX8_event 3 (some .int) { frames := 2, cells := 0, slots := 0, locals := 45 } [.ref x, .int (nI a0), .int (nI n)] [(x, .inr (8, [.ref nw, .ref tk, .int (bI itk), .ref ch, .ref ah, .ref th, .ref tp, .ref wt, .ref rows])), (nw, .inr (7, [.ref g, .ref ru, .ref se, .ref ev])), (g, .inr (1, [.int (nI W), .int (nI H), .int t, .ref b])), (b, ia G 16 f), (ev, .inr (4, [.int (nI k), .ref en])), (en, ia G (3 * 8) (tab (fun ι => nI (e0 ι)) (fun ι => nI (e1 ι)) (fun _ => 0)))] (fun vv ww => vv = some (.int (nI (k + 1))) ∧ ww = [(x, .inr (8, [.ref nw, .ref tk, .int (bI itk), .ref ch, .ref ah, .ref th, .ref tp, .ref wt, .ref rows])), (nw, .inr (7, [.ref g, .ref ru, .ref se, .ref ev])), (g, .inr (1, [.int (nI W), .int (nI H), .int t, .ref b])), (b, ia G 16 f), (ev, .inr (4, [.int (nI (k + 1)), .ref en])), (en, ia G (3 * 8) (tab (fun ι => nI (updN e0 k a0 ι)) (fun ι => nI (updN e1 k n ι)) (fun _ => 0)))]) := by
  refine CT.of (lv := [(0, .ref x), (1, .int (nI a0)), (2, .int (nI n))]) RX8 "event" rfl rfl (by decide +kernel) (Nat.le_of_ble_eq_true rfl) rfl (fun X hX hR => ?_)
  refine j_iload_n (pc := 0) hX dX8_event_0 1 rfl ?_
  refine j_iconst (pc := 1) (v := (-1)) hX dX8_event_1 (by decide) ?_
  refine j_icmp_ne (pc := 2) (tgt := 17) hX dX8_event_2 (by decide) (nI_toInt (n := a0) (by omega)) (show ((-1) : Int32).toInt = -1 from by decide) (fun c2 => ?_) (fun c2 => by exfalso; omega)
  refine j_iload_n (pc := 17) hX dX8_event_17 1 rfl ?_
  refine j_if_lt (pc := 18) (tgt := 26) hX dX8_event_18 (by decide) (nI_toInt (n := a0) (by omega)) (fun c18 => by exfalso; omega) (fun c18 => ?_)
  refine j_iload_n (pc := 21) hX dX8_event_21 1 rfl ?_
  refine j_iconstN (pc := 22) (j := 2) hX dX8_event_22 rfl ?_
  refine j_icmp_le (pc := 23) (tgt := 28) hX dX8_event_23 (by decide) (nI_toInt (n := a0) (by omega)) (nI_toInt (n := 2) (by decide)) (fun c23 => ?_) (fun c23 => by exfalso; omega)
  refine j_aload_n (pc := 28) hX dX8_event_28 0 rfl ?_
  refine j_iload_n (pc := 29) hX dX8_event_29 1 rfl ?_
  refine j_iload_n (pc := 30) hX dX8_event_30 2 rfl ?_
  refine j_callV (pc := 31) hX kX8_canHappen kVX8_canHappen l_RX8_284 (fun l => c_X8_canHappen G x nw tk itk ch ah th tp wt rows g ru se ev W H t b f a0 (nI n) (by omega) (by omega) (by omega) (by omega) (by omega) l) [0, 1, 2, 3] [4, 5] [] rfl 0 8 rfl rfl rfl rfl rfl rfl ⟨rfl, rfl, by decide⟩ rfl rfl (Nat.le_of_ble_eq_true rfl) dX8_event_31 (fun v w hq => ?_)
  obtain ⟨rfl, rfl⟩ := hq
  refine j_ws [2, 3, 4, 5, 0, 1] (ws' := [(x, .inr (8, [.ref nw, .ref tk, .int (bI itk), .ref ch, .ref ah, .ref th, .ref tp, .ref wt, .ref rows])), (nw, .inr (7, [.ref g, .ref ru, .ref se, .ref ev])), (g, .inr (1, [.int (nI W), .int (nI H), .int t, .ref b])), (b, ia G 16 f), (ev, .inr (4, [.int (nI k), .ref en])), (en, ia G (3 * 8) (tab (fun ι => nI (e0 ι)) (fun ι => nI (e1 ι)) (fun _ => 0)))]) rfl rfl ?_
  refine j_ifB_ne (pc := 34) (tgt := 40) hX dX8_event_34 (by decide) (fun c34 => ?_) (fun c34 => by rw [hb] at c34; cases c34)
  refine j_aload_n (pc := 40) hX dX8_event_40 0 rfl ?_
  refine j_get (pc := 41) hX f_RX8_12 0 rfl rfl dX8_event_41 ?_
  refine j_getR (pc := 44) hX f_RX8_281 1 rfl rfl dX8_event_44 ?_
  refine j_callV (pc := 47) hX kX4_isFull kVX4_isFull l_RX8_99 (fun l => c_X4_isFull G ev en 8 k (fun ι => nI (e0 ι)) (fun ι => nI (e1 ι)) (fun _ => 0) (by omega) (by omega) l) [4, 5] [0, 1, 2, 3] [] rfl 0 4 rfl rfl rfl rfl rfl rfl ⟨rfl, rfl, by decide⟩ rfl rfl (Nat.le_of_ble_eq_true rfl) dX8_event_47 (fun v w hq => ?_)
  obtain ⟨rfl, rfl⟩ := hq
  refine j_ws [0, 1, 2, 3, 4, 5] (ws' := [(x, .inr (8, [.ref nw, .ref tk, .int (bI itk), .ref ch, .ref ah, .ref th, .ref tp, .ref wt, .ref rows])), (nw, .inr (7, [.ref g, .ref ru, .ref se, .ref ev])), (g, .inr (1, [.int (nI W), .int (nI H), .int t, .ref b])), (b, ia G 16 f), (ev, .inr (4, [.int (nI k), .ref en])), (en, ia G (3 * 8) (tab (fun ι => nI (e0 ι)) (fun ι => nI (e1 ι)) (fun _ => 0)))]) rfl rfl ?_
  refine j_ifB_eq (pc := 50) (tgt := 56) hX dX8_event_50 (by decide) (fun c50 => ?_) (fun c50 => by have := of_decide_eq_true c50; omega)
  refine j_aload_n (pc := 56) hX dX8_event_56 0 rfl ?_
  refine j_get (pc := 57) hX f_RX8_12 0 rfl rfl dX8_event_57 ?_
  refine j_getR (pc := 60) hX f_RX8_281 1 rfl rfl dX8_event_60 ?_
  refine j_iload_n (pc := 63) hX dX8_event_63 1 rfl ?_
  refine j_iload_n (pc := 64) hX dX8_event_64 2 rfl ?_
  refine j_iconstN (pc := 65) (j := 0) hX dX8_event_65 rfl ?_
  refine j_callV (pc := 66) hX kX4_add kVX4_add l_RX8_106 (fun l => c_X4_add G ev en 8 k (fun ι => nI (e0 ι)) (fun ι => nI (e1 ι)) (fun _ => 0) (nI a0) (nI n) (nI 0) (by omega) (by omega) l) [4, 5] [0, 1, 2, 3] [] rfl 0 4 rfl rfl rfl rfl rfl rfl ⟨rfl, rfl, by decide⟩ rfl rfl (Nat.le_of_ble_eq_true rfl) dX8_event_66 (fun v w hq => ?_)
  obtain ⟨rfl, rfl⟩ := hq
  refine j_ws [0, 1, 2, 3, 4, 5] (ws' := [(x, .inr (8, [.ref nw, .ref tk, .int (bI itk), .ref ch, .ref ah, .ref th, .ref tp, .ref wt, .ref rows])), (nw, .inr (7, [.ref g, .ref ru, .ref se, .ref ev])), (g, .inr (1, [.int (nI W), .int (nI H), .int t, .ref b])), (b, ia G 16 f), (ev, .inr (4, [.int (nI (k + 1)), .ref en])), (en, ia G (3 * 8) (tab (upd (fun ι => nI (e0 ι)) k (nI a0)) (upd (fun ι => nI (e1 ι)) k (nI n)) (upd (fun _ => 0) k (nI 0))))]) rfl rfl ?_
  refine j_aload_n (pc := 69) hX dX8_event_69 0 rfl ?_
  refine j_get (pc := 70) hX f_RX8_12 0 rfl rfl dX8_event_70 ?_
  refine j_getR (pc := 73) hX f_RX8_281 1 rfl rfl dX8_event_73 ?_
  refine j_get (pc := 76) hX f_RX8_114 4 rfl rfl dX8_event_76 ?_
  refine j_ia (q0 := 5) (f := tab (upd (fun ι => nI (e0 ι)) k (nI a0)) (upd (fun ι => nI (e1 ι)) k (nI n)) (upd (fun _ => 0) k (nI 0))) (g := tab (fun ι => nI (updN e0 k a0 ι)) (fun ι => nI (updN e1 k n ι)) (fun _ => 0)) rfl (fun z hz => by rw [updNf, updNf, upd0]) (ws' := [(x, .inr (8, [.ref nw, .ref tk, .int (bI itk), .ref ch, .ref ah, .ref th, .ref tp, .ref wt, .ref rows])), (nw, .inr (7, [.ref g, .ref ru, .ref se, .ref ev])), (g, .inr (1, [.int (nI W), .int (nI H), .int t, .ref b])), (b, ia G 16 f), (ev, .inr (4, [.int (nI (k + 1)), .ref en])), (en, ia G (3 * 8) (tab (fun ι => nI (updN e0 k a0 ι)) (fun ι => nI (updN e1 k n ι)) (fun _ => 0)))]) rfl ?_
  exact j_iret (pc := 79) hX hR dX8_event_79 ⟨rfl, rfl⟩
set_option maxHeartbeats 8000000 in
set_option maxRecDepth 100000 in
theorem c_X8_image (G : GT) (x : Nat) (nw : Nat) (nwT : Nat) (itk : Bool) (ch : Nat) (ah : Nat) (th : Nat) (tp : Nat) (wt : Nat) (rows : Nat) (g : Nat) (ru : Nat) (se : Nat) (ev : Nat) (W : Nat) (H : Nat) (t : Int32) (b : Nat) (f : Nat → Int32) (rn : Nat) (rf : Nat) (p : Nat → Nat) (q : Nat → Nat) (m : Nat) (sn : Nat) (s0 : Nat → Int32) (s1 : Nat → Nat) (s2 : Nat → Int32) (k : Nat) (en : Nat) (e0 : Nat → Nat) (e1 : Nat → Nat) (gT : Nat) (ruT : Nat) (seT : Nat) (evT : Nat) (WT : Nat) (HT : Nat) (tT : Int32) (bT : Nat) (fT : Nat → Int32) (rnT : Nat) (rfT : Nat) (pT : Nat → Nat) (qT : Nat → Nat) (mT : Nat) (snT : Nat) (s0T : Nat → Int32) (s1T : Nat → Nat) (s2T : Nat → Int32) (kT : Nat) (enT : Nat) (e0T : Nat → Nat) (e1T : Nat → Nat) (hW1 : 2 ≤ W) (hW2 : W ≤ 16) (hH1 : 2 ≤ H) (hH2 : H ≤ 16) (hf : ∀ y, rN (f y) < 65536) (l : Launch) : CT l G yX8_image cX8_image 1 (some .int) { frames := 3, cells := 0, slots := 0, locals := 64 } [.ref x] [(x, .inr (8, [.ref nw, .ref nwT, .int (bI itk), .ref ch, .ref ah, .ref th, .ref tp, .ref wt, .ref rows])), (nw, .inr (7, [.ref g, .ref ru, .ref se, .ref ev])), (g, .inr (1, [.int (nI W), .int (nI H), .int t, .ref b])), (b, ia G 16 f), (ru, .inr (3, [.ref rn, .ref rf])), (rn, ia G 16 (fun ι => nI (p ι))), (rf, ia G 16 (fun ι => nI (q ι))), (se, .inr (4, [.int (nI m), .ref sn])), (sn, ia G (3 * 5) (tab s0 (fun ι => nI (s1 ι)) s2)), (ev, .inr (4, [.int (nI k), .ref en])), (en, ia G (3 * 8) (tab (fun ι => nI (e0 ι)) (fun ι => nI (e1 ι)) (fun _ => 0))), (nwT, .inr (7, [.ref gT, .ref ruT, .ref seT, .ref evT])), (gT, .inr (1, [.int (nI WT), .int (nI HT), .int tT, .ref bT])), (bT, ia G 16 fT), (ruT, .inr (3, [.ref rnT, .ref rfT])), (rnT, ia G 16 (fun ι => nI (pT ι))), (rfT, ia G 16 (fun ι => nI (qT ι))), (seT, .inr (4, [.int (nI mT), .ref snT])), (snT, ia G (3 * 5) (tab s0T (fun ι => nI (s1T ι)) s2T)), (evT, .inr (4, [.int (nI kT), .ref enT])), (enT, ia G (3 * 8) (tab (fun ι => nI (e0T ι)) (fun ι => nI (e1T ι)) (fun _ => 0)))] (fun vv ww => vv = some (.int (nI (cnt f H))) ∧ ww = [(x, .inr (8, [.ref nw, .ref nwT, .int (nI 1), .ref ch, .ref ah, .ref th, .ref tp, .ref wt, .ref rows])), (nw, .inr (7, [.ref g, .ref ru, .ref se, .ref ev])), (g, .inr (1, [.int (nI W), .int (nI H), .int t, .ref b])), (b, ia G 16 f), (ru, .inr (3, [.ref rn, .ref rf])), (rn, ia G 16 (fun ι => nI (p ι))), (rf, ia G 16 (fun ι => nI (q ι))), (se, .inr (4, [.int (nI m), .ref sn])), (sn, ia G (3 * 5) (tab s0 (fun ι => nI (s1 ι)) s2)), (ev, .inr (4, [.int (nI k), .ref en])), (en, ia G (3 * 8) (tab (fun ι => nI (e0 ι)) (fun ι => nI (e1 ι)) (fun _ => 0))), (nwT, .inr (7, [.ref gT, .ref ruT, .ref seT, .ref evT])), (gT, .inr (1, [.int (nI W), .int (nI H), .int t, .ref bT])), (bT, ia G 16 f), (ruT, .inr (3, [.ref rnT, .ref rfT])), (rnT, ia G 16 (fun ι => nI (p ι))), (rfT, ia G 16 (fun ι => nI (q ι))), (seT, .inr (4, [.int (nI m), .ref snT])), (snT, ia G (3 * 5) (tab s0 (fun ι => nI (s1 ι)) s2)), (evT, .inr (4, [.int (nI k), .ref enT])), (enT, ia G (3 * 8) (tab (fun ι => nI (e0 ι)) (fun ι => nI (e1 ι)) (fun _ => 0)))]) := by
  refine CT.of (lv := [(0, .ref x)]) RX8 "image" rfl rfl (by decide +kernel) (Nat.le_of_ble_eq_true rfl) rfl (fun X hX hR => ?_)
  refine j_aload_n (pc := 0) hX dX8_image_0 0 rfl ?_
  refine j_get (pc := 1) hX f_RX8_18 0 rfl rfl dX8_image_1 ?_
  refine j_aload_n (pc := 4) hX dX8_image_4 0 rfl ?_
  refine j_get (pc := 5) hX f_RX8_12 0 rfl rfl dX8_image_5 ?_
  refine j_callV (pc := 8) hX kX7_copyOf kVX7_copyOf l_RX8_295 (fun l => c_X7_copyOf G nwT gT ruT seT evT WT HT tT bT fT rnT rfT pT qT mT snT s0T s1T s2T kT enT e0T e1T nw g ru se ev W H t b f rn rf p q m sn s0 s1 s2 k en e0 e1  l) [11, 12, 13, 14, 15, 16, 17, 18, 19, 20, 1, 2, 3, 4, 5, 6, 7, 8, 9, 10] [0] [] rfl 0 7 rfl rfl rfl rfl rfl rfl ⟨rfl, rfl, by decide⟩ rfl rfl (Nat.le_of_ble_eq_true rfl) dX8_image_8 (fun v w hq => ?_)
  obtain ⟨rfl, rfl⟩ := hq
  refine j_ws [0, 11, 12, 13, 14, 15, 16, 17, 18, 19, 20, 1, 2, 3, 4, 5, 6, 7, 8, 9, 10] (ws' := [(x, .inr (8, [.ref nw, .ref nwT, .int (bI itk), .ref ch, .ref ah, .ref th, .ref tp, .ref wt, .ref rows])), (nw, .inr (7, [.ref g, .ref ru, .ref se, .ref ev])), (g, .inr (1, [.int (nI W), .int (nI H), .int t, .ref b])), (b, ia G 16 f), (ru, .inr (3, [.ref rn, .ref rf])), (rn, ia G 16 (fun ι => nI (p ι))), (rf, ia G 16 (fun ι => nI (q ι))), (se, .inr (4, [.int (nI m), .ref sn])), (sn, ia G (3 * 5) (tab s0 (fun ι => nI (s1 ι)) s2)), (ev, .inr (4, [.int (nI k), .ref en])), (en, ia G (3 * 8) (tab (fun ι => nI (e0 ι)) (fun ι => nI (e1 ι)) (fun _ => 0))), (nwT, .inr (7, [.ref gT, .ref ruT, .ref seT, .ref evT])), (gT, .inr (1, [.int (nI W), .int (nI H), .int t, .ref bT])), (bT, ia G 16 f), (ruT, .inr (3, [.ref rnT, .ref rfT])), (rnT, ia G 16 (fun ι => nI (p ι))), (rfT, ia G 16 (fun ι => nI (q ι))), (seT, .inr (4, [.int (nI m), .ref snT])), (snT, ia G (3 * 5) (tab s0 (fun ι => nI (s1 ι)) s2)), (evT, .inr (4, [.int (nI k), .ref enT])), (enT, ia G (3 * 8) (tab (fun ι => nI (e0 ι)) (fun ι => nI (e1 ι)) (fun _ => 0)))]) rfl rfl ?_
  refine j_aload_n (pc := 11) hX dX8_image_11 0 rfl ?_
  refine j_iconstN (pc := 12) (j := 1) hX dX8_image_12 rfl ?_
  refine j_put (pc := 13) (ws' := [(x, .inr (8, [.ref nw, .ref nwT, .int (nI 1), .ref ch, .ref ah, .ref th, .ref tp, .ref wt, .ref rows])), (nw, .inr (7, [.ref g, .ref ru, .ref se, .ref ev])), (g, .inr (1, [.int (nI W), .int (nI H), .int t, .ref b])), (b, ia G 16 f), (ru, .inr (3, [.ref rn, .ref rf])), (rn, ia G 16 (fun ι => nI (p ι))), (rf, ia G 16 (fun ι => nI (q ι))), (se, .inr (4, [.int (nI m), .ref sn])), (sn, ia G (3 * 5) (tab s0 (fun ι => nI (s1 ι)) s2)), (ev, .inr (4, [.int (nI k), .ref en])), (en, ia G (3 * 8) (tab (fun ι => nI (e0 ι)) (fun ι => nI (e1 ι)) (fun _ => 0))), (nwT, .inr (7, [.ref gT, .ref ruT, .ref seT, .ref evT])), (gT, .inr (1, [.int (nI W), .int (nI H), .int t, .ref bT])), (bT, ia G 16 f), (ruT, .inr (3, [.ref rnT, .ref rfT])), (rnT, ia G 16 (fun ι => nI (p ι))), (rfT, ia G 16 (fun ι => nI (q ι))), (seT, .inr (4, [.int (nI m), .ref snT])), (snT, ia G (3 * 5) (tab s0 (fun ι => nI (s1 ι)) s2)), (evT, .inr (4, [.int (nI k), .ref enT])), (enT, ia G (3 * 8) (tab (fun ι => nI (e0 ι)) (fun ι => nI (e1 ι)) (fun _ => 0)))]) hX f_RX8_21 0 rfl (by decide) rfl (Nat.le_of_ble_eq_true rfl) rfl dX8_image_13 ?_
  refine j_aload_n (pc := 16) hX dX8_image_16 0 rfl ?_
  refine j_get (pc := 17) hX f_RX8_12 0 rfl rfl dX8_image_17 ?_
  refine j_getR (pc := 20) hX f_RX8_69 1 rfl rfl dX8_image_20 ?_
  refine j_callV (pc := 23) hX kX1_ones kVX1_ones l_RX8_134 (fun l => c_X1_ones G g W H t b f (by omega) (by omega) (by omega) (by omega) (by assumption) l) [2, 3] [0, 1, 4, 5, 6, 7, 8, 9, 10, 11, 12, 13, 14, 15, 16, 17, 18, 19, 20] [] rfl 0 1 rfl rfl rfl rfl rfl rfl ⟨rfl, rfl, by decide⟩ rfl rfl (Nat.le_of_ble_eq_true rfl) dX8_image_23 (fun v w hq => ?_)
  obtain ⟨rfl, rfl⟩ := hq
  refine j_ws [0, 1, 19, 20, 2, 3, 4, 5, 6, 7, 8, 9, 10, 11, 12, 13, 14, 15, 16, 17, 18] (ws' := [(x, .inr (8, [.ref nw, .ref nwT, .int (nI 1), .ref ch, .ref ah, .ref th, .ref tp, .ref wt, .ref rows])), (nw, .inr (7, [.ref g, .ref ru, .ref se, .ref ev])), (g, .inr (1, [.int (nI W), .int (nI H), .int t, .ref b])), (b, ia G 16 f), (ru, .inr (3, [.ref rn, .ref rf])), (rn, ia G 16 (fun ι => nI (p ι))), (rf, ia G 16 (fun ι => nI (q ι))), (se, .inr (4, [.int (nI m), .ref sn])), (sn, ia G (3 * 5) (tab s0 (fun ι => nI (s1 ι)) s2)), (ev, .inr (4, [.int (nI k), .ref en])), (en, ia G (3 * 8) (tab (fun ι => nI (e0 ι)) (fun ι => nI (e1 ι)) (fun _ => 0))), (nwT, .inr (7, [.ref gT, .ref ruT, .ref seT, .ref evT])), (gT, .inr (1, [.int (nI W), .int (nI H), .int t, .ref bT])), (bT, ia G 16 f), (ruT, .inr (3, [.ref rnT, .ref rfT])), (rnT, ia G 16 (fun ι => nI (p ι))), (rfT, ia G 16 (fun ι => nI (q ι))), (seT, .inr (4, [.int (nI m), .ref snT])), (snT, ia G (3 * 5) (tab s0 (fun ι => nI (s1 ι)) s2)), (evT, .inr (4, [.int (nI k), .ref enT])), (enT, ia G (3 * 8) (tab (fun ι => nI (e0 ι)) (fun ι => nI (e1 ι)) (fun _ => 0)))]) rfl rfl ?_
  exact j_iret (pc := 26) hX hR dX8_image_26 ⟨rfl, rfl⟩
set_option maxHeartbeats 4000000 in
set_option maxRecDepth 100000 in
theorem c_X8_back_no (G : GT) (x : Nat) (nw : Nat) (nwT : Nat) (ch : Nat) (ah : Nat) (th : Nat) (tp : Nat) (wt : Nat) (rows : Nat)  (l : Launch) : CT l G yX8_back cX8_back 1 (some .int) { frames := 3, cells := 0, slots := 0, locals := 64 } [.ref x] [(x, .inr (8, [.ref nw, .ref nwT, .int (nI 0), .ref ch, .ref ah, .ref th, .ref tp, .ref wt, .ref rows]))] (fun vv ww => vv = some (.int (-3)) ∧ ww = [(x, .inr (8, [.ref nw, .ref nwT, .int (nI 0), .ref ch, .ref ah, .ref th, .ref tp, .ref wt, .ref rows]))]) := by
  refine CT.of (lv := [(0, .ref x)]) RX8 "back" rfl rfl (by decide +kernel) (Nat.le_of_ble_eq_true rfl) rfl (fun X hX hR => ?_)
  refine j_aload_n (pc := 0) hX dX8_back_0 0 rfl ?_
  refine j_get (pc := 1) hX f_RX8_21 0 rfl rfl dX8_back_1 ?_
  refine j_if_ne (pc := 4) (tgt := 10) hX dX8_back_4 (by decide) (nI_toInt (n := 0) (by decide)) (fun c4 => absurd c4 (by decide)) (fun c4 => ?_)
  refine j_bipush (pc := 7) (v := (-3)) hX dX8_back_7 (by decide) ?_
  exact j_iret (pc := 9) hX hR dX8_back_9 ⟨rfl, rfl⟩
set_option maxHeartbeats 8000000 in
set_option maxRecDepth 100000 in
theorem c_X8_back_ok (G : GT) (x : Nat) (nw : Nat) (nwT : Nat) (ch : Nat) (ah : Nat) (th : Nat) (tp : Nat) (wt : Nat) (rows : Nat) (g : Nat) (ru : Nat) (se : Nat) (ev : Nat) (W : Nat) (H : Nat) (t : Int32) (b : Nat) (f : Nat → Int32) (rn : Nat) (rf : Nat) (p : Nat → Nat) (q : Nat → Nat) (m : Nat) (sn : Nat) (s0 : Nat → Int32) (s1 : Nat → Nat) (s2 : Nat → Int32) (k : Nat) (en : Nat) (e0 : Nat → Nat) (e1 : Nat → Nat) (gT : Nat) (ruT : Nat) (seT : Nat) (evT : Nat) (WT : Nat) (HT : Nat) (tT : Int32) (bT : Nat) (fT : Nat → Int32) (rnT : Nat) (rfT : Nat) (pT : Nat → Nat) (qT : Nat → Nat) (mT : Nat) (snT : Nat) (s0T : Nat → Int32) (s1T : Nat → Nat) (s2T : Nat → Int32) (kT : Nat) (enT : Nat) (e0T : Nat → Nat) (e1T : Nat → Nat) (c : Nat) (cn : Nat) (c0 : Nat → Nat) (c1 : Nat → Nat) (c2 : Nat → Int32) (hW1 : 2 ≤ WT) (hW2 : WT ≤ 16) (hH1 : 2 ≤ HT) (hH2 : HT ≤ 16) (hf : ∀ y, rN (fT y) < 65536) (l : Launch) : CT l G yX8_back cX8_back 1 (some .int) { frames := 3, cells := 0, slots := 0, locals := 64 } [.ref x] [(x, .inr (8, [.ref nw, .ref nwT, .int (nI 1), .ref ch, .ref ah, .ref th, .ref tp, .ref wt, .ref rows])), (nw, .inr (7, [.ref g, .ref ru, .ref se, .ref ev])), (g, .inr (1, [.int (nI W), .int (nI H), .int t, .ref b])), (b, ia G 16 f), (ru, .inr (3, [.ref rn, .ref rf])), (rn, ia G 16 (fun ι => nI (p ι))), (rf, ia G 16 (fun ι => nI (q ι))), (se, .inr (4, [.int (nI m), .ref sn])), (sn, ia G (3 * 5) (tab s0 (fun ι => nI (s1 ι)) s2)), (ev, .inr (4, [.int (nI k), .ref en])), (en, ia G (3 * 8) (tab (fun ι => nI (e0 ι)) (fun ι => nI (e1 ι)) (fun _ => 0))), (nwT, .inr (7, [.ref gT, .ref ruT, .ref seT, .ref evT])), (gT, .inr (1, [.int (nI WT), .int (nI HT), .int tT, .ref bT])), (bT, ia G 16 fT), (ruT, .inr (3, [.ref rnT, .ref rfT])), (rnT, ia G 16 (fun ι => nI (pT ι))), (rfT, ia G 16 (fun ι => nI (qT ι))), (seT, .inr (4, [.int (nI mT), .ref snT])), (snT, ia G (3 * 5) (tab s0T (fun ι => nI (s1T ι)) s2T)), (evT, .inr (4, [.int (nI kT), .ref enT])), (enT, ia G (3 * 8) (tab (fun ι => nI (e0T ι)) (fun ι => nI (e1T ι)) (fun _ => 0))), (ch, .inr (4, [.int (nI c), .ref cn])), (cn, ia G (3 * 12) (tab (fun ι => nI (c0 ι)) (fun ι => nI (c1 ι)) c2))] (fun vv ww => vv = some (.int (nI (cnt fT HT))) ∧ ww = [(x, .inr (8, [.ref nw, .ref nwT, .int (nI 1), .ref ch, .ref ah, .ref th, .ref tp, .ref wt, .ref rows])), (nw, .inr (7, [.ref g, .ref ru, .ref se, .ref ev])), (g, .inr (1, [.int (nI WT), .int (nI HT), .int tT, .ref b])), (b, ia G 16 fT), (ru, .inr (3, [.ref rn, .ref rf])), (rn, ia G 16 (fun ι => nI (pT ι))), (rf, ia G 16 (fun ι => nI (qT ι))), (se, .inr (4, [.int (nI mT), .ref sn])), (sn, ia G (3 * 5) (tab s0T (fun ι => nI (s1T ι)) s2T)), (ev, .inr (4, [.int (nI kT), .ref en])), (en, ia G (3 * 8) (tab (fun ι => nI (e0T ι)) (fun ι => nI (e1T ι)) (fun _ => 0))), (nwT, .inr (7, [.ref gT, .ref ruT, .ref seT, .ref evT])), (gT, .inr (1, [.int (nI WT), .int (nI HT), .int tT, .ref bT])), (bT, ia G 16 fT), (ruT, .inr (3, [.ref rnT, .ref rfT])), (rnT, ia G 16 (fun ι => nI (pT ι))), (rfT, ia G 16 (fun ι => nI (qT ι))), (seT, .inr (4, [.int (nI mT), .ref snT])), (snT, ia G (3 * 5) (tab s0T (fun ι => nI (s1T ι)) s2T)), (evT, .inr (4, [.int (nI kT), .ref enT])), (enT, ia G (3 * 8) (tab (fun ι => nI (e0T ι)) (fun ι => nI (e1T ι)) (fun _ => 0))), (ch, .inr (4, [.int (nI 0), .ref cn])), (cn, ia G (3 * 12) (tab (fun ι => nI (c0 ι)) (fun ι => nI (c1 ι)) c2))]) := by
  refine CT.of (lv := [(0, .ref x)]) RX8 "back" rfl rfl (by decide +kernel) (Nat.le_of_ble_eq_true rfl) rfl (fun X hX hR => ?_)
  refine j_aload_n (pc := 0) hX dX8_back_0 0 rfl ?_
  refine j_get (pc := 1) hX f_RX8_21 0 rfl rfl dX8_back_1 ?_
  refine j_if_ne (pc := 4) (tgt := 10) hX dX8_back_4 (by decide) (nI_toInt (n := 1) (by decide)) (fun c4 => ?_) (fun c4 => absurd c4 (by decide))
  refine j_aload_n (pc := 10) hX dX8_back_10 0 rfl ?_
  refine j_get (pc := 11) hX f_RX8_12 0 rfl rfl dX8_back_11 ?_
  refine j_aload_n (pc := 14) hX dX8_back_14 0 rfl ?_
  refine j_get (pc := 15) hX f_RX8_18 0 rfl rfl dX8_back_15 ?_
  refine j_callV (pc := 18) hX kX7_copyOf kVX7_copyOf l_RX8_295 (fun l => c_X7_copyOf G nw g ru se ev W H t b f rn rf p q m sn s0 s1 s2 k en e0 e1 nwT gT ruT seT evT WT HT tT bT fT rnT rfT pT qT mT snT s0T s1T s2T kT enT e0T e1T  l) [1, 2, 3, 4, 5, 6, 7, 8, 9, 10, 11, 12, 13, 14, 15, 16, 17, 18, 19, 20] [0, 21, 22] [] rfl 0 7 rfl rfl rfl rfl rfl rfl ⟨rfl, rfl, by decide⟩ rfl rfl (Nat.le_of_ble_eq_true rfl) dX8_back_18 (fun v w hq => ?_)
  obtain ⟨rfl, rfl⟩ := hq
  refine j_ws [0, 3, 4, 5, 6, 7, 8, 9, 10, 11, 12, 13, 14, 15, 16, 17, 18, 19, 20, 21, 22, 1, 2] (ws' := [(x, .inr (8, [.ref nw, .ref nwT, .int (nI 1), .ref ch, .ref ah, .ref th, .ref tp, .ref wt, .ref rows])), (nw, .inr (7, [.ref g, .ref ru, .ref se, .ref ev])), (g, .inr (1, [.int (nI WT), .int (nI HT), .int tT, .ref b])), (b, ia G 16 fT), (ru, .inr (3, [.ref rn, .ref rf])), (rn, ia G 16 (fun ι => nI (pT ι))), (rf, ia G 16 (fun ι => nI (qT ι))), (se, .inr (4, [.int (nI mT), .ref sn])), (sn, ia G (3 * 5) (tab s0T (fun ι => nI (s1T ι)) s2T)), (ev, .inr (4, [.int (nI kT), .ref en])), (en, ia G (3 * 8) (tab (fun ι => nI (e0T ι)) (fun ι => nI (e1T ι)) (fun _ => 0))), (nwT, .inr (7, [.ref gT, .ref ruT, .ref seT, .ref evT])), (gT, .inr (1, [.int (nI WT), .int (nI HT), .int tT, .ref bT])), (bT, ia G 16 fT), (ruT, .inr (3, [.ref rnT, .ref rfT])), (rnT, ia G 16 (fun ι => nI (pT ι))), (rfT, ia G 16 (fun ι => nI (qT ι))), (seT, .inr (4, [.int (nI mT), .ref snT])), (snT, ia G (3 * 5) (tab s0T (fun ι => nI (s1T ι)) s2T)), (evT, .inr (4, [.int (nI kT), .ref enT])), (enT, ia G (3 * 8) (tab (fun ι => nI (e0T ι)) (fun ι => nI (e1T ι)) (fun _ => 0))), (ch, .inr (4, [.int (nI c), .ref cn])), (cn, ia G (3 * 12) (tab (fun ι => nI (c0 ι)) (fun ι => nI (c1 ι)) c2))]) rfl rfl ?_
  refine j_aload_n (pc := 21) hX dX8_back_21 0 rfl ?_
  refine j_get (pc := 22) hX f_RX8_30 0 rfl rfl dX8_back_22 ?_
  refine j_callV (pc := 25) hX kX4_empty kVX4_empty l_RX8_89 (fun l => c_X4_empty G ch cn 12 c (fun ι => nI (c0 ι)) (fun ι => nI (c1 ι)) c2  l) [21, 22] [0, 1, 2, 3, 4, 5, 6, 7, 8, 9, 10, 11, 12, 13, 14, 15, 16, 17, 18, 19, 20] [] rfl 0 4 rfl rfl rfl rfl rfl rfl ⟨rfl, rfl, by decide⟩ rfl rfl (Nat.le_of_ble_eq_true rfl) dX8_back_25 (fun v w hq => ?_)
  obtain ⟨rfl, rfl⟩ := hq
  refine j_ws [0, 1, 2, 3, 4, 5, 6, 7, 8, 9, 10, 11, 12, 13, 14, 15, 16, 17, 18, 19, 20, 21, 22] (ws' := [(x, .inr (8, [.ref nw, .ref nwT, .int (nI 1), .ref ch, .ref ah, .ref th, .ref tp, .ref wt, .ref rows])), (nw, .inr (7, [.ref g, .ref ru, .ref se, .ref ev])), (g, .inr (1, [.int (nI WT), .int (nI HT), .int tT, .ref b])), (b, ia G 16 fT), (ru, .inr (3, [.ref rn, .ref rf])), (rn, ia G 16 (fun ι => nI (pT ι))), (rf, ia G 16 (fun ι => nI (qT ι))), (se, .inr (4, [.int (nI mT), .ref sn])), (sn, ia G (3 * 5) (tab s0T (fun ι => nI (s1T ι)) s2T)), (ev, .inr (4, [.int (nI kT), .ref en])), (en, ia G (3 * 8) (tab (fun ι => nI (e0T ι)) (fun ι => nI (e1T ι)) (fun _ => 0))), (nwT, .inr (7, [.ref gT, .ref ruT, .ref seT, .ref evT])), (gT, .inr (1, [.int (nI WT), .int (nI HT), .int tT, .ref bT])), (bT, ia G 16 fT), (ruT, .inr (3, [.ref rnT, .ref rfT])), (rnT, ia G 16 (fun ι => nI (pT ι))), (rfT, ia G 16 (fun ι => nI (qT ι))), (seT, .inr (4, [.int (nI mT), .ref snT])), (snT, ia G (3 * 5) (tab s0T (fun ι => nI (s1T ι)) s2T)), (evT, .inr (4, [.int (nI kT), .ref enT])), (enT, ia G (3 * 8) (tab (fun ι => nI (e0T ι)) (fun ι => nI (e1T ι)) (fun _ => 0))), (ch, .inr (4, [.int (nI 0), .ref cn])), (cn, ia G (3 * 12) (tab (fun ι => nI (c0 ι)) (fun ι => nI (c1 ι)) c2))]) rfl rfl ?_
  refine j_aload_n (pc := 28) hX dX8_back_28 0 rfl ?_
  refine j_get (pc := 29) hX f_RX8_12 0 rfl rfl dX8_back_29 ?_
  refine j_getR (pc := 32) hX f_RX8_69 1 rfl rfl dX8_back_32 ?_
  refine j_callV (pc := 35) hX kX1_ones kVX1_ones l_RX8_134 (fun l => c_X1_ones G g WT HT tT b fT (by omega) (by omega) (by omega) (by omega) (by assumption) l) [2, 3] [0, 1, 4, 5, 6, 7, 8, 9, 10, 11, 12, 13, 14, 15, 16, 17, 18, 19, 20, 21, 22] [] rfl 0 1 rfl rfl rfl rfl rfl rfl ⟨rfl, rfl, by decide⟩ rfl rfl (Nat.le_of_ble_eq_true rfl) dX8_back_35 (fun v w hq => ?_)
  obtain ⟨rfl, rfl⟩ := hq
  refine j_ws [0, 1, 21, 22, 2, 3, 4, 5, 6, 7, 8, 9, 10, 11, 12, 13, 14, 15, 16, 17, 18, 19, 20] (ws' := [(x, .inr (8, [.ref nw, .ref nwT, .int (nI 1), .ref ch, .ref ah, .ref th, .ref tp, .ref wt, .ref rows])), (nw, .inr (7, [.ref g, .ref ru, .ref se, .ref ev])), (g, .inr (1, [.int (nI WT), .int (nI HT), .int tT, .ref b])), (b, ia G 16 fT), (ru, .inr (3, [.ref rn, .ref rf])), (rn, ia G 16 (fun ι => nI (pT ι))), (rf, ia G 16 (fun ι => nI (qT ι))), (se, .inr (4, [.int (nI mT), .ref sn])), (sn, ia G (3 * 5) (tab s0T (fun ι => nI (s1T ι)) s2T)), (ev, .inr (4, [.int (nI kT), .ref en])), (en, ia G (3 * 8) (tab (fun ι => nI (e0T ι)) (fun ι => nI (e1T ι)) (fun _ => 0))), (nwT, .inr (7, [.ref gT, .ref ruT, .ref seT, .ref evT])), (gT, .inr (1, [.int (nI WT), .int (nI HT), .int tT, .ref bT])), (bT, ia G 16 fT), (ruT, .inr (3, [.ref rnT, .ref rfT])), (rnT, ia G 16 (fun ι => nI (pT ι))), (rfT, ia G 16 (fun ι => nI (qT ι))), (seT, .inr (4, [.int (nI mT), .ref snT])), (snT, ia G (3 * 5) (tab s0T (fun ι => nI (s1T ι)) s2T)), (evT, .inr (4, [.int (nI kT), .ref enT])), (enT, ia G (3 * 8) (tab (fun ι => nI (e0T ι)) (fun ι => nI (e1T ι)) (fun _ => 0))), (ch, .inr (4, [.int (nI 0), .ref cn])), (cn, ia G (3 * 12) (tab (fun ι => nI (c0 ι)) (fun ι => nI (c1 ι)) c2))]) rfl rfl ?_
  exact j_iret (pc := 38) hX hR dX8_back_38 ⟨rfl, rfl⟩
set_option maxHeartbeats 4000000 in
set_option maxRecDepth 100000 in
theorem c_X8_count_0 (G : GT) (x : Nat) (nw : Nat) (tk : Nat) (itk : Bool) (ch : Nat) (ah : Nat) (th : Nat) (tp : Nat) (wt : Nat) (rows : Nat) (g : Nat) (ru : Nat) (se : Nat) (ev : Nat) (m : Nat) (sn : Nat) (s0 : Nat → Int32) (s1 : Nat → Nat) (s2 : Nat → Int32)  (l : Launch) : CT l G yX8_count cX8_count 2 (some .int) { frames := 0, cells := 0, slots := 0, locals := 0 } [.ref x, .int (nI 0)] [(x, .inr (8, [.ref nw, .ref tk, .int (bI itk), .ref ch, .ref ah, .ref th, .ref tp, .ref wt, .ref rows])), (nw, .inr (7, [.ref g, .ref ru, .ref se, .ref ev])), (se, .inr (4, [.int (nI m), .ref sn])), (sn, ia G (3 * 5) (tab s0 (fun ι => nI (s1 ι)) s2))] (fun vv ww => vv = some (.int (nI m)) ∧ ww = [(x, .inr (8, [.ref nw, .ref tk, .int (bI itk), .ref ch, .ref ah, .ref th, .ref tp, .ref wt, .ref rows])), (nw, .inr (7, [.ref g, .ref ru, .ref se, .ref ev])), (se, .inr (4, [.int (nI m), .ref sn])), (sn, ia G (3 * 5) (tab s0 (fun ι => nI (s1 ι)) s2))]) := by
  refine CT.of (lv := [(0, .ref x), (1, .int (nI 0))]) RX8 "count" rfl rfl (by decide +kernel) (Nat.le_of_ble_eq_true rfl) rfl (fun X hX hR => ?_)
  refine j_iload_n (pc := 0) hX dX8_count_0 1 rfl ?_
  refine j_tsIn (pc := 1) (off := 31) (tgt := 32) hX dX8_count_1 (0) (nI_toInt (by decide)) (by decide) (by decide) rfl (by decide) ?_
  refine j_aload_n (pc := 32) hX dX8_count_32 0 rfl ?_
  refine j_get (pc := 33) hX f_RX8_12 0 rfl rfl dX8_count_33 ?_
  refine j_getR (pc := 36) hX f_RX8_271 1 rfl rfl dX8_count_36 ?_
  refine j_get (pc := 39) hX f_RX8_114 2 rfl rfl dX8_count_39 ?_
  exact j_iret (pc := 42) hX hR dX8_count_42 ⟨rfl, rfl⟩
set_option maxHeartbeats 4000000 in
set_option maxRecDepth 100000 in
theorem c_X8_count_1 (G : GT) (x : Nat) (nw : Nat) (tk : Nat) (itk : Bool) (ch : Nat) (ah : Nat) (th : Nat) (tp : Nat) (wt : Nat) (rows : Nat) (g : Nat) (ru : Nat) (se : Nat) (ev : Nat) (k : Nat) (en : Nat) (e0 : Nat → Nat) (e1 : Nat → Nat)  (l : Launch) : CT l G yX8_count cX8_count 2 (some .int) { frames := 0, cells := 0, slots := 0, locals := 0 } [.ref x, .int (nI 1)] [(x, .inr (8, [.ref nw, .ref tk, .int (bI itk), .ref ch, .ref ah, .ref th, .ref tp, .ref wt, .ref rows])), (nw, .inr (7, [.ref g, .ref ru, .ref se, .ref ev])), (ev, .inr (4, [.int (nI k), .ref en])), (en, ia G (3 * 8) (tab (fun ι => nI (e0 ι)) (fun ι => nI (e1 ι)) (fun _ => 0)))] (fun vv ww => vv = some (.int (nI k)) ∧ ww = [(x, .inr (8, [.ref nw, .ref tk, .int (bI itk), .ref ch, .ref ah, .ref th, .ref tp, .ref wt, .ref rows])), (nw, .inr (7, [.ref g, .ref ru, .ref se, .ref ev])), (ev, .inr (4, [.int (nI k), .ref en])), (en, ia G (3 * 8) (tab (fun ι => nI (e0 ι)) (fun ι => nI (e1 ι)) (fun _ => 0)))]) := by
  refine CT.of (lv := [(0, .ref x), (1, .int (nI 1))]) RX8 "count" rfl rfl (by decide +kernel) (Nat.le_of_ble_eq_true rfl) rfl (fun X hX hR => ?_)
  refine j_iload_n (pc := 0) hX dX8_count_0 1 rfl ?_
  refine j_tsIn (pc := 1) (off := 42) (tgt := 43) hX dX8_count_1 (1) (nI_toInt (by decide)) (by decide) (by decide) rfl (by decide) ?_
  refine j_aload_n (pc := 43) hX dX8_count_43 0 rfl ?_
  refine j_get (pc := 44) hX f_RX8_12 0 rfl rfl dX8_count_44 ?_
  refine j_getR (pc := 47) hX f_RX8_281 1 rfl rfl dX8_count_47 ?_
  refine j_get (pc := 50) hX f_RX8_114 2 rfl rfl dX8_count_50 ?_
  exact j_iret (pc := 53) hX hR dX8_count_53 ⟨rfl, rfl⟩
set_option maxHeartbeats 4000000 in
set_option maxRecDepth 100000 in
theorem c_X8_count_2 (G : GT) (x : Nat) (nw : Nat) (tk : Nat) (itk : Bool) (ch : Nat) (ah : Nat) (th : Nat) (tp : Nat) (wt : Nat) (rows : Nat) (tn : Nat) (tl : Nat) (ts : Nat → Int32)  (l : Launch) : CT l G yX8_count cX8_count 2 (some .int) { frames := 0, cells := 0, slots := 0, locals := 0 } [.ref x, .int (nI 2)] [(x, .inr (8, [.ref nw, .ref tk, .int (bI itk), .ref ch, .ref ah, .ref th, .ref tp, .ref wt, .ref rows])), (tp, .inr (5, [.int (nI tn), .ref tl])), (tl, ia G 300 ts)] (fun vv ww => vv = some (.int (nI tn)) ∧ ww = [(x, .inr (8, [.ref nw, .ref tk, .int (bI itk), .ref ch, .ref ah, .ref th, .ref tp, .ref wt, .ref rows])), (tp, .inr (5, [.int (nI tn), .ref tl])), (tl, ia G 300 ts)]) := by
  refine CT.of (lv := [(0, .ref x), (1, .int (nI 2))]) RX8 "count" rfl rfl (by decide +kernel) (Nat.le_of_ble_eq_true rfl) rfl (fun X hX hR => ?_)
  refine j_iload_n (pc := 0) hX dX8_count_0 1 rfl ?_
  refine j_tsIn (pc := 1) (off := 53) (tgt := 54) hX dX8_count_1 (2) (nI_toInt (by decide)) (by decide) (by decide) rfl (by decide) ?_
  refine j_aload_n (pc := 54) hX dX8_count_54 0 rfl ?_
  refine j_get (pc := 55) hX f_RX8_51 0 rfl rfl dX8_count_55 ?_
  refine j_get (pc := 58) hX f_RX8_234 1 rfl rfl dX8_count_58 ?_
  exact j_iret (pc := 61) hX hR dX8_count_61 ⟨rfl, rfl⟩
set_option maxHeartbeats 4000000 in
set_option maxRecDepth 100000 in
theorem c_X8_count_3 (G : GT) (x : Nat) (nw : Nat) (tk : Nat) (itk : Bool) (ch : Nat) (ah : Nat) (th : Nat) (tp : Nat) (wt : Nat) (rows : Nat) (pn : Nat) (pl : Nat) (ps : Nat → Int32)  (l : Launch) : CT l G yX8_count cX8_count 2 (some .int) { frames := 0, cells := 0, slots := 0, locals := 0 } [.ref x, .int (nI 3)] [(x, .inr (8, [.ref nw, .ref tk, .int (bI itk), .ref ch, .ref ah, .ref th, .ref tp, .ref wt, .ref rows])), (wt, .inr (5, [.int (nI pn), .ref pl])), (pl, ia G 271 ps)] (fun vv ww => vv = some (.int (nI pn)) ∧ ww = [(x, .inr (8, [.ref nw, .ref tk, .int (bI itk), .ref ch, .ref ah, .ref th, .ref tp, .ref wt, .ref rows])), (wt, .inr (5, [.int (nI pn), .ref pl])), (pl, ia G 271 ps)]) := by
  refine CT.of (lv := [(0, .ref x), (1, .int (nI 3))]) RX8 "count" rfl rfl (by decide +kernel) (Nat.le_of_ble_eq_true rfl) rfl (fun X hX hR => ?_)
  refine j_iload_n (pc := 0) hX dX8_count_0 1 rfl ?_
  refine j_tsIn (pc := 1) (off := 61) (tgt := 62) hX dX8_count_1 (3) (nI_toInt (by decide)) (by decide) (by decide) rfl (by decide) ?_
  refine j_aload_n (pc := 62) hX dX8_count_62 0 rfl ?_
  refine j_get (pc := 63) hX f_RX8_55 0 rfl rfl dX8_count_63 ?_
  refine j_get (pc := 66) hX f_RX8_234 1 rfl rfl dX8_count_66 ?_
  exact j_iret (pc := 69) hX hR dX8_count_69 ⟨rfl, rfl⟩
set_option maxHeartbeats 4000000 in
set_option maxRecDepth 100000 in
theorem c_X8_count_bad (G : GT) (x : Nat) (nw : Nat) (tk : Nat) (itk : Bool) (ch : Nat) (ah : Nat) (th : Nat) (tp : Nat) (wt : Nat) (rows : Nat) (w : Int32) (hb : w.toInt < 0 ∨ 3 < w.toInt) (l : Launch) : CT l G yX8_count cX8_count 2 (some .int) { frames := 0, cells := 0, slots := 0, locals := 0 } [.ref x, .int w] [(x, .inr (8, [.ref nw, .ref tk, .int (bI itk), .ref ch, .ref ah, .ref th, .ref tp, .ref wt, .ref rows]))] (fun vv ww => vv = some (.int (-2)) ∧ ww = [(x, .inr (8, [.ref nw, .ref tk, .int (bI itk), .ref ch, .ref ah, .ref th, .ref tp, .ref wt, .ref rows]))]) := by
  refine CT.of (lv := [(0, .ref x), (1, .int w)]) RX8 "count" rfl rfl (by decide +kernel) (Nat.le_of_ble_eq_true rfl) rfl (fun X hX hR => ?_)
  refine j_iload_n (pc := 0) hX dX8_count_0 1 rfl ?_
  rcases (show w.toInt = 0 ∨ w.toInt = 1 ∨ w.toInt = 2 ∨ w.toInt = 3 ∨ (w.toInt < 0 ∨ 3 < w.toInt) from by omega) with s1 | s1 | s1 | s1 | s1
  · skip
    exfalso; omega
  · skip
    exfalso; omega
  · skip
    exfalso; omega
  · skip
    exfalso; omega
  · skip
    refine j_tsOut (pc := 1) (tgt := 70) hX dX8_count_1 s1 (by decide) ?_
    refine j_bipush (pc := 70) (v := (-2)) hX dX8_count_70 (by decide) ?_
    exact j_iret (pc := 72) hX hR dX8_count_72 ⟨rfl, rfl⟩
set_option maxHeartbeats 4000000 in
set_option maxRecDepth 100000 in
theorem c_X8_undoable (G : GT) (x : Nat) (nw : Nat) (tk : Nat) (itk : Bool) (ch : Nat) (ah : Nat) (th : Nat) (tp : Nat) (wt : Nat) (rows : Nat) (g : Nat) (ru : Nat) (se : Nat) (ev : Nat) (W : Nat) (H : Nat) (t : Int32) (b : Nat) (f : Nat → Int32) (c : Nat) (cn : Nat) (c0 : Nat → Nat) (c1 : Nat → Nat) (c2 : Nat → Int32) (hc : c ≤ 12) (l : Launch) : CT l G yX8_undoable cX8_undoable 3 (some .int) { frames := 2, cells := 0, slots := 0, locals := 42 } [.ref x] [(x, .inr (8, [.ref nw, .ref tk, .int (bI itk), .ref ch, .ref ah, .ref th, .ref tp, .ref wt, .ref rows])), (nw, .inr (7, [.ref g, .ref ru, .ref se, .ref ev])), (g, .inr (1, [.int (nI W), .int (nI H), .int t, .ref b])), (b, ia G 16 f), (ch, .inr (4, [.int (nI c), .ref cn])), (cn, ia G (3 * 12) (tab (fun ι => nI (c0 ι)) (fun ι => nI (c1 ι)) c2))] (fun vv ww => vv = some (.int (nI (und c2 t c))) ∧ ww = [(x, .inr (8, [.ref nw, .ref tk, .int (bI itk), .ref ch, .ref ah, .ref th, .ref tp, .ref wt, .ref rows])), (nw, .inr (7, [.ref g, .ref ru, .ref se, .ref ev])), (g, .inr (1, [.int (nI W), .int (nI H), .int t, .ref b])), (b, ia G 16 f), (ch, .inr (4, [.int (nI c), .ref cn])), (cn, ia G (3 * 12) (tab (fun ι => nI (c0 ι)) (fun ι => nI (c1 ι)) c2))]) := by
  refine CT.of (lv := [(0, .ref x)]) RX8 "undoable" rfl rfl (by decide +kernel) (Nat.le_of_ble_eq_true rfl) rfl (fun X hX hR => ?_)
  refine j_iconstN (pc := 0) (j := 0) hX dX8_undoable_0 rfl ?_
  refine j_istore_n (pc := 1) (lv' := [(1, .int (nI 0)), (0, .ref x)]) hX dX8_undoable_1 (by decide) rfl ?_
  refine j_aload_n (pc := 2) hX dX8_undoable_2 1 rfl ?_
  refine j_get (pc := 3) hX f_RX8_30 0 rfl rfl dX8_undoable_3 ?_
  refine j_get (pc := 6) hX f_RX8_114 4 rfl rfl dX8_undoable_6 ?_
  refine j_iconstN (pc := 9) (j := 1) hX dX8_undoable_9 rfl ?_
  refine j_isub (pc := 10) hX dX8_undoable_10 ?_
  refine j_istore_n (pc := 11) (lv' := [(2, .int ((nI c) - (nI 1))), (1, .int (nI 0)), (0, .ref x)]) hX dX8_undoable_11 (by decide) rfl ?_
  have L12 : ∀ (m12 : Nat) (j r : Nat) (z : Int32) (hr : r ≤ c) (hz : z.toInt = (r : Int) - 1) (hu : und c2 t c = j + und c2 t r), r < m12 → J X G 3 0 0 [(x, .inr (8, [.ref nw, .ref tk, .int (bI itk), .ref ch, .ref ah, .ref th, .ref tp, .ref wt, .ref rows])), (nw, .inr (7, [.ref g, .ref ru, .ref se, .ref ev])), (g, .inr (1, [.int (nI W), .int (nI H), .int t, .ref b])), (b, ia G 16 f), (ch, .inr (4, [.int (nI c), .ref cn])), (cn, ia G (3 * 12) (tab (fun ι => nI (c0 ι)) (fun ι => nI (c1 ι)) c2))] [(0, .ref x), (1, .int (nI j)), (2, .int z)] 12 [] := by
    intro m12
    induction m12 with
    | zero => intro j r z hr hz hu hm12; exact absurd hm12 (Nat.not_lt_zero _)
    | succ m12 ih12 =>
      intro j r z hr hz hu hm12
      refine j_iload_n (pc := 12) hX dX8_undoable_12 2 rfl ?_
      refine j_if_lt (pc := 13) (tgt := 49) hX dX8_undoable_13 (by decide) rfl (fun c13 => ?_) (fun c13 => ?_)
      · skip
        refine j_iload_n (pc := 49) hX dX8_undoable_49 1 rfl ?_
        exact j_iret (pc := 50) hX hR dX8_undoable_50 ⟨congrArg some (show Value.int (nI j) = Value.int (nI (und c2 t c)) from by rw [hu]; first | rw [show r = 0 from by omega]; rfl | rw [und_n (by omega) (fun h => c34 (by rw [h]))]; rfl), rfl⟩
      · skip
        obtain rfl : z = nI (r - 1) := Int32.toInt_inj.mp (by rw [hz, nI_toInt (by omega)]; omega)
        refine j_aload_n (pc := 16) hX dX8_undoable_16 0 rfl ?_
        refine j_get (pc := 17) hX f_RX8_30 0 rfl rfl dX8_undoable_17 ?_
        refine j_iload_n (pc := 20) hX dX8_undoable_20 2 rfl ?_
        refine j_callV (pc := 21) hX kX4_third kVX4_third l_RX8_117 (fun l => c_X4_third G ch cn 12 c (fun ι => nI (c0 ι)) (fun ι => nI (c1 ι)) c2 (r - 1) (by omega) (by omega) l) [4, 5] [0, 1, 2, 3] [] rfl 0 4 rfl rfl rfl rfl rfl rfl ⟨rfl, rfl, by decide⟩ rfl rfl (Nat.le_of_ble_eq_true rfl) dX8_undoable_21 (fun v w hq => ?_)
        obtain ⟨rfl, rfl⟩ := hq
        refine j_ws [0, 1, 2, 3, 4, 5] (ws' := [(x, .inr (8, [.ref nw, .ref tk, .int (bI itk), .ref ch, .ref ah, .ref th, .ref tp, .ref wt, .ref rows])), (nw, .inr (7, [.ref g, .ref ru, .ref se, .ref ev])), (g, .inr (1, [.int (nI W), .int (nI H), .int t, .ref b])), (b, ia G 16 f), (ch, .inr (4, [.int (nI c), .ref cn])), (cn, ia G (3 * 12) (tab (fun ι => nI (c0 ι)) (fun ι => nI (c1 ι)) c2))]) rfl rfl ?_
        refine j_aload_n (pc := 24) hX dX8_undoable_24 0 rfl ?_
        refine j_get (pc := 25) hX f_RX8_12 0 rfl rfl dX8_undoable_25 ?_
        refine j_getR (pc := 28) hX f_RX8_69 1 rfl rfl dX8_undoable_28 ?_
        refine j_get (pc := 31) hX f_RX8_86 2 rfl rfl dX8_undoable_31 ?_
        refine j_icmp_eq (pc := 34) (tgt := 40) hX dX8_undoable_34 (by decide) rfl rfl (fun c34 => ?_) (fun c34 => ?_)
        · skip
          refine j_iinc (pc := 40) (q := 1) (v := nI (j + 1)) (lv' := [(1, .int (nI (j + 1))), (0, .ref x), (2, .int (nI (r - 1)))]) hX dX8_undoable_40 rfl (nI_inc _ 1) (by decide) rfl ?_
          refine j_iinc (pc := 43) (q := 2) (v := (nI (r - 1)) + (-1)) (lv' := [(2, .int ((nI (r - 1)) + (-1))), (1, .int (nI (j + 1))), (0, .ref x)]) hX dX8_undoable_43 rfl (rfl) (by decide) rfl ?_
          refine j_goto (pc := 46) (tgt := 12) hX dX8_undoable_46 (by decide) ?_
          refine j_lv [2, 1, 0] (lv' := [(0, .ref x), (1, .int (nI (j + 1))), (2, .int ((nI (r - 1)) + (-1)))]) rfl ?_
          exact ih12 (j + 1) (r - 1) ((nI (r - 1)) + (-1)) (by omega) (by rw [nI_pred2 (by omega)]; omega) (by rw [hu, und_s (by omega) (Int32.toInt_inj.mp c34)]; omega) (by omega)
        · skip
          refine j_goto (pc := 37) (tgt := 49) hX dX8_undoable_37 (by decide) ?_
          refine j_iload_n (pc := 49) hX dX8_undoable_49 1 rfl ?_
          exact j_iret (pc := 50) hX hR dX8_undoable_50 ⟨congrArg some (show Value.int (nI j) = Value.int (nI (und c2 t c)) from by rw [hu]; first | rw [show r = 0 from by omega]; rfl | rw [und_n (by omega) (fun h => c34 (by rw [h]))]; rfl), rfl⟩
  refine j_lv [2, 1, 0] (lv' := [(0, .ref x), (1, .int (nI 0)), (2, .int ((nI c) - (nI 1)))]) rfl ?_
  exact L12 (c + 1) 0 c ((nI c) - (nI 1)) (by omega) (by rw [pk_sub_toInt (by omega) (by omega)]; rfl) ((Nat.zero_add _).symm) (Nat.lt_succ_self _)
