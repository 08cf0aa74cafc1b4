set_option maxHeartbeats 4000000 in
set_option maxRecDepth 100000 in
theorem c_X6_thingOn (G : GT) (th : Nat) (nM : Nat) (nS : Nat) (W : Nat) (H : Nat) (tht : Nat) (thp : Nat) (nP : Nat) (ths : Nat) (tho : Nat) (thm : Nat) (La : Nat → Int32) (E : Nat → Nat) (st_ : Nat → Nat) (No : Nat → Nat) (Mo : Nat → Nat) (xx yy : Nat) (hx : xx < 16) (hy : yy < 16) (l : Launch) : CT l G yX6_thingOn cX6_thingOn 3 (some .int) { frames := 1, cells := 0, slots := 0, locals := 21 } [.ref th, .int (nI xx), .int (nI yy)] [(th, .inr (6, [.int (nI nM), .int (nI nS), .int (nI W), .int (nI H), .ref tht, .ref thp, .int (nI nP), .ref ths, .ref tho, .ref thm])), (tht, ia G 256 La), (thp, ia G 256 (fun ι => nI (E ι))), (ths, ia G 65 (fun ι => nI (st_ ι))), (tho, ia G 64 (fun ι => nI (No ι))), (thm, ia G 64 (fun ι => nI (Mo ι)))] (fun vv ww => vv = some (.int (La (16 * yy + xx))) ∧ ww = [(th, .inr (6, [.int (nI nM), .int (nI nS), .int (nI W), .int (nI H), .ref tht, .ref thp, .int (nI nP), .ref ths, .ref tho, .ref thm])), (tht, ia G 256 La), (thp, ia G 256 (fun ι => nI (E ι))), (ths, ia G 65 (fun ι => nI (st_ ι))), (tho, ia G 64 (fun ι => nI (No ι))), (thm, ia G 64 (fun ι => nI (Mo ι)))]) := by
  refine CT.of (lv := [(0, .ref th), (1, .int (nI xx)), (2, .int (nI yy))]) RX6 "thingOn" rfl rfl (by decide +kernel) (Nat.le_of_ble_eq_true rfl) rfl (fun X hX hR => ?_)
  refine j_aload_n (pc := 0) hX dX6_thingOn_0 0 rfl ?_
  refine j_get (pc := 1) hX f_RX6_24 0 rfl rfl dX6_thingOn_1 ?_
  refine j_bipush (pc := 4) (v := nI 16) hX dX6_thingOn_4 (by decide) ?_
  refine j_iload_n (pc := 6) hX dX6_thingOn_6 2 rfl ?_
  refine j_imul (pc := 7) hX dX6_thingOn_7 ?_
  refine j_topi (y := nI (16 * yy)) (pk_mul _ _) ?_
  refine j_iload_n (pc := 8) hX dX6_thingOn_8 1 rfl ?_
  refine j_iadd (pc := 9) hX dX6_thingOn_9 ?_
  refine j_topi (y := nI (16 * yy + xx)) (nI_add _ _) ?_
  refine j_callSN (pc := 10) hX kX8_at kSX8_at l_RX6_43 (fun l => c_X8_at G tht 256 La (16 * yy + xx) (by omega) (by omega) l) [1] [0, 2, 3, 4, 5] [] rfl rfl rfl rfl ⟨rfl, rfl, by decide⟩ rfl rfl (Nat.le_of_ble_eq_true rfl) dX6_thingOn_10 (fun v w hq => ?_)
  obtain ⟨rfl, rfl⟩ := hq
  refine j_ws [0, 5, 1, 2, 3, 4] (ws' := [(th, .inr (6, [.int (nI nM), .int (nI nS), .int (nI W), .int (nI H), .ref tht, .ref thp, .int (nI nP), .ref ths, .ref tho, .ref thm])), (tht, ia G 256 La), (thp, ia G 256 (fun ι => nI (E ι))), (ths, ia G 65 (fun ι => nI (st_ ι))), (tho, ia G 64 (fun ι => nI (No ι))), (thm, ia G 64 (fun ι => nI (Mo ι)))]) rfl rfl ?_
  exact j_iret (pc := 13) hX hR dX6_thingOn_13 ⟨rfl, rfl⟩
set_option maxHeartbeats 4000000 in
set_option maxRecDepth 100000 in
theorem c_X6_cellsOf (G : GT) (th : Nat) (nM : Nat) (nS : Nat) (W : Nat) (H : Nat) (tht : Nat) (thp : Nat) (nP : Nat) (ths : Nat) (tho : Nat) (thm : Nat) (La : Nat → Int32) (E : Nat → Nat) (st_ : Nat → Nat) (No : Nat → Nat) (Mo : Nat → Nat) (k_ : Nat) (hk : k_ < 64) (hst : st_ k_ ≤ st_ (k_ + 1)) (l : Launch) : CT l G yX6_cellsOf cX6_cellsOf 2 (some .int) { frames := 1, cells := 0, slots := 0, locals := 21 } [.ref th, .int (nI k_)] [(th, .inr (6, [.int (nI nM), .int (nI nS), .int (nI W), .int (nI H), .ref tht, .ref thp, .int (nI nP), .ref ths, .ref tho, .ref thm])), (tht, ia G 256 La), (thp, ia G 256 (fun ι => nI (E ι))), (ths, ia G 65 (fun ι => nI (st_ ι))), (tho, ia G 64 (fun ι => nI (No ι))), (thm, ia G 64 (fun ι => nI (Mo ι)))] (fun vv ww => vv = some (.int (nI (st_ (k_ + 1) - st_ k_))) ∧ ww = [(th, .inr (6, [.int (nI nM), .int (nI nS), .int (nI W), .int (nI H), .ref tht, .ref thp, .int (nI nP), .ref ths, .ref tho, .ref thm])), (tht, ia G 256 La), (thp, ia G 256 (fun ι => nI (E ι))), (ths, ia G 65 (fun ι => nI (st_ ι))), (tho, ia G 64 (fun ι => nI (No ι))), (thm, ia G 64 (fun ι => nI (Mo ι)))]) := by
  refine CT.of (lv := [(0, .ref th), (1, .int (nI k_))]) RX6 "cellsOf" rfl rfl (by decide +kernel) (Nat.le_of_ble_eq_true rfl) rfl (fun X hX hR => ?_)
  refine j_aload_n (pc := 0) hX dX6_cellsOf_0 0 rfl ?_
  refine j_get (pc := 1) hX f_RX6_34 0 rfl rfl dX6_cellsOf_1 ?_
  refine j_iload_n (pc := 4) hX dX6_cellsOf_4 1 rfl ?_
  refine j_iconstN (pc := 5) (j := 1) hX dX6_cellsOf_5 rfl ?_
  refine j_iadd (pc := 6) hX dX6_cellsOf_6 ?_
  refine j_topi (y := nI (k_ + 1)) (nI_add _ _) ?_
  refine j_callSN (pc := 7) hX kX8_at kSX8_at l_RX6_43 (fun l => c_X8_at G ths 65 (fun ι => nI (st_ ι)) (k_ + 1) (by omega) (by omega) l) [3] [0, 1, 2, 4, 5] [] rfl rfl rfl rfl ⟨rfl, rfl, by decide⟩ rfl rfl (Nat.le_of_ble_eq_true rfl) dX6_cellsOf_7 (fun v w hq => ?_)
  obtain ⟨rfl, rfl⟩ := hq
  refine j_ws [0, 1, 2, 5, 3, 4] (ws' := [(th, .inr (6, [.int (nI nM), .int (nI nS), .int (nI W), .int (nI H), .ref tht, .ref thp, .int (nI nP), .ref ths, .ref tho, .ref thm])), (tht, ia G 256 La), (thp, ia G 256 (fun ι => nI (E ι))), (ths, ia G 65 (fun ι => nI (st_ ι))), (tho, ia G 64 (fun ι => nI (No ι))), (thm, ia G 64 (fun ι => nI (Mo ι)))]) rfl rfl ?_
  refine j_aload_n (pc := 10) hX dX6_cellsOf_10 0 rfl ?_
  refine j_get (pc := 11) hX f_RX6_34 0 rfl rfl dX6_cellsOf_11 ?_
  refine j_iload_n (pc := 14) hX dX6_cellsOf_14 1 rfl ?_
  refine j_callSN (pc := 15) hX kX8_at kSX8_at l_RX6_43 (fun l => c_X8_at G ths 65 (fun ι => nI (st_ ι)) k_ (by omega) (by omega) l) [3] [0, 1, 2, 4, 5] [.int (nI (st_ (k_ + 1)))] rfl rfl rfl rfl ⟨rfl, rfl, by decide⟩ rfl rfl (Nat.le_of_ble_eq_true rfl) dX6_cellsOf_15 (fun v w hq => ?_)
  obtain ⟨rfl, rfl⟩ := hq
  refine j_ws [0, 1, 2, 5, 3, 4] (ws' := [(th, .inr (6, [.int (nI nM), .int (nI nS), .int (nI W), .int (nI H), .ref tht, .ref thp, .int (nI nP), .ref ths, .ref tho, .ref thm])), (tht, ia G 256 La), (thp, ia G 256 (fun ι => nI (E ι))), (ths, ia G 65 (fun ι => nI (st_ ι))), (tho, ia G 64 (fun ι => nI (No ι))), (thm, ia G 64 (fun ι => nI (Mo ι)))]) rfl rfl ?_
  refine j_isub (pc := 18) hX dX6_cellsOf_18 ?_
  refine j_topi (y := nI ((st_ (k_ + 1)) - (st_ k_))) (pk_sub (by omega)) ?_
  exact j_iret (pc := 19) hX hR dX6_cellsOf_19 ⟨congrArg some (show Value.int (nI ((st_ (k_ + 1)) - (st_ k_))) = Value.int (nI (st_ (k_ + 1) - st_ k_)) from by rfl), rfl⟩
set_option maxHeartbeats 4000000 in
set_option maxRecDepth 100000 in
theorem c_X6_shapeOf (G : GT) (th : Nat) (nM : Nat) (nS : Nat) (W : Nat) (H : Nat) (tht : Nat) (thp : Nat) (nP : Nat) (ths : Nat) (tho : Nat) (thm : Nat) (La : Nat → Int32) (E : Nat → Nat) (st_ : Nat → Nat) (No : Nat → Nat) (Mo : Nat → Nat) (k_ : Nat) (hk : k_ < 64) (l : Launch) : CT l G yX6_shapeOf cX6_shapeOf 2 (some .int) { frames := 1, cells := 0, slots := 0, locals := 21 } [.ref th, .int (nI k_)] [(th, .inr (6, [.int (nI nM), .int (nI nS), .int (nI W), .int (nI H), .ref tht, .ref thp, .int (nI nP), .ref ths, .ref tho, .ref thm])), (tht, ia G 256 La), (thp, ia G 256 (fun ι => nI (E ι))), (ths, ia G 65 (fun ι => nI (st_ ι))), (tho, ia G 64 (fun ι => nI (No ι))), (thm, ia G 64 (fun ι => nI (Mo ι)))] (fun vv ww => vv = some (.int (nI (No k_))) ∧ ww = [(th, .inr (6, [.int (nI nM), .int (nI nS), .int (nI W), .int (nI H), .ref tht, .ref thp, .int (nI nP), .ref ths, .ref tho, .ref thm])), (tht, ia G 256 La), (thp, ia G 256 (fun ι => nI (E ι))), (ths, ia G 65 (fun ι => nI (st_ ι))), (tho, ia G 64 (fun ι => nI (No ι))), (thm, ia G 64 (fun ι => nI (Mo ι)))]) := by
  refine CT.of (lv := [(0, .ref th), (1, .int (nI k_))]) RX6 "shapeOf" rfl rfl (by decide +kernel) (Nat.le_of_ble_eq_true rfl) rfl (fun X hX hR => ?_)
  refine j_aload_n (pc := 0) hX dX6_shapeOf_0 0 rfl ?_
  refine j_get (pc := 1) hX f_RX6_37 0 rfl rfl dX6_shapeOf_1 ?_
  refine j_iload_n (pc := 4) hX dX6_shapeOf_4 1 rfl ?_
  refine j_callSN (pc := 5) hX kX8_at kSX8_at l_RX6_43 (fun l => c_X8_at G tho 64 (fun ι => nI (No ι)) k_ (by omega) (by omega) l) [4] [0, 1, 2, 3, 5] [] rfl rfl rfl rfl ⟨rfl, rfl, by decide⟩ rfl rfl (Nat.le_of_ble_eq_true rfl) dX6_shapeOf_5 (fun v w hq => ?_)
  obtain ⟨rfl, rfl⟩ := hq
  refine j_ws [0, 1, 2, 3, 5, 4] (ws' := [(th, .inr (6, [.int (nI nM), .int (nI nS), .int (nI W), .int (nI H), .ref tht, .ref thp, .int (nI nP), .ref ths, .ref tho, .ref thm])), (tht, ia G 256 La), (thp, ia G 256 (fun ι => nI (E ι))), (ths, ia G 65 (fun ι => nI (st_ ι))), (tho, ia G 64 (fun ι => nI (No ι))), (thm, ia G 64 (fun ι => nI (Mo ι)))]) rfl rfl ?_
  exact j_iret (pc := 8) hX hR dX6_shapeOf_8 ⟨rfl, rfl⟩
set_option maxHeartbeats 4000000 in
set_option maxRecDepth 100000 in
theorem c_X6_modelOf (G : GT) (th : Nat) (nM : Nat) (nS : Nat) (W : Nat) (H : Nat) (tht : Nat) (thp : Nat) (nP : Nat) (ths : Nat) (tho : Nat) (thm : Nat) (La : Nat → Int32) (E : Nat → Nat) (st_ : Nat → Nat) (No : Nat → Nat) (Mo : Nat → Nat) (k_ : Nat) (hk : k_ < 64) (l : Launch) : CT l G yX6_modelOf cX6_modelOf 2 (some .int) { frames := 1, cells := 0, slots := 0, locals := 21 } [.ref th, .int (nI k_)] [(th, .inr (6, [.int (nI nM), .int (nI nS), .int (nI W), .int (nI H), .ref tht, .ref thp, .int (nI nP), .ref ths, .ref tho, .ref thm])), (tht, ia G 256 La), (thp, ia G 256 (fun ι => nI (E ι))), (ths, ia G 65 (fun ι => nI (st_ ι))), (tho, ia G 64 (fun ι => nI (No ι))), (thm, ia G 64 (fun ι => nI (Mo ι)))] (fun vv ww => vv = some (.int (nI (Mo k_))) ∧ ww = [(th, .inr (6, [.int (nI nM), .int (nI nS), .int (nI W), .int (nI H), .ref tht, .ref thp, .int (nI nP), .ref ths, .ref tho, .ref thm])), (tht, ia G 256 La), (thp, ia G 256 (fun ι => nI (E ι))), (ths, ia G 65 (fun ι => nI (st_ ι))), (tho, ia G 64 (fun ι => nI (No ι))), (thm, ia G 64 (fun ι => nI (Mo ι)))]) := by
  refine CT.of (lv := [(0, .ref th), (1, .int (nI k_))]) RX6 "modelOf" rfl rfl (by decide +kernel) (Nat.le_of_ble_eq_true rfl) rfl (fun X hX hR => ?_)
  refine j_aload_n (pc := 0) hX dX6_modelOf_0 0 rfl ?_
  refine j_get (pc := 1) hX f_RX6_40 0 rfl rfl dX6_modelOf_1 ?_
  refine j_iload_n (pc := 4) hX dX6_modelOf_4 1 rfl ?_
  refine j_callSN (pc := 5) hX kX8_at kSX8_at l_RX6_43 (fun l => c_X8_at G thm 64 (fun ι => nI (Mo ι)) k_ (by omega) (by omega) l) [5] [0, 1, 2, 3, 4] [] rfl rfl rfl rfl ⟨rfl, rfl, by decide⟩ rfl rfl (Nat.le_of_ble_eq_true rfl) dX6_modelOf_5 (fun v w hq => ?_)
  obtain ⟨rfl, rfl⟩ := hq
  refine j_ws [0, 1, 2, 3, 4, 5] (ws' := [(th, .inr (6, [.int (nI nM), .int (nI nS), .int (nI W), .int (nI H), .ref tht, .ref thp, .int (nI nP), .ref ths, .ref tho, .ref thm])), (tht, ia G 256 La), (thp, ia G 256 (fun ι => nI (E ι))), (ths, ia G 65 (fun ι => nI (st_ ι))), (tho, ia G 64 (fun ι => nI (No ι))), (thm, ia G 64 (fun ι => nI (Mo ι)))]) rfl rfl ?_
  exact j_iret (pc := 8) hX hR dX6_modelOf_8 ⟨rfl, rfl⟩
set_option maxHeartbeats 4000000 in
set_option maxRecDepth 100000 in
theorem c_X6_firstCellOf (G : GT) (th : Nat) (nM : Nat) (nS : Nat) (W : Nat) (H : Nat) (tht : Nat) (thp : Nat) (nP : Nat) (ths : Nat) (tho : Nat) (thm : Nat) (La : Nat → Int32) (E : Nat → Nat) (st_ : Nat → Nat) (No : Nat → Nat) (Mo : Nat → Nat) (k_ : Nat) (hk : k_ < 64) (h1 : st_ k_ < 256) (h2 : E (st_ k_) < 256) (l : Launch) : CT l G yX6_firstCellOf cX6_firstCellOf 3 (some .int) { frames := 1, cells := 0, slots := 0, locals := 21 } [.ref th, .int (nI k_)] [(th, .inr (6, [.int (nI nM), .int (nI nS), .int (nI W), .int (nI H), .ref tht, .ref thp, .int (nI nP), .ref ths, .ref tho, .ref thm])), (tht, ia G 256 La), (thp, ia G 256 (fun ι => nI (E ι))), (ths, ia G 65 (fun ι => nI (st_ ι))), (tho, ia G 64 (fun ι => nI (No ι))), (thm, ia G 64 (fun ι => nI (Mo ι)))] (fun vv ww => vv = some (.int (nI (100 * (E (st_ k_) % 16) + E (st_ k_) / 16))) ∧ ww = [(th, .inr (6, [.int (nI nM), .int (nI nS), .int (nI W), .int (nI H), .ref tht, .ref thp, .int (nI nP), .ref ths, .ref tho, .ref thm])), (tht, ia G 256 La), (thp, ia G 256 (fun ι => nI (E ι))), (ths, ia G 65 (fun ι => nI (st_ ι))), (tho, ia G 64 (fun ι => nI (No ι))), (thm, ia G 64 (fun ι => nI (Mo ι)))]) := by
  refine CT.of (lv := [(0, .ref th), (1, .int (nI k_))]) RX6 "firstCellOf" rfl rfl (by decide +kernel) (Nat.le_of_ble_eq_true rfl) rfl (fun X hX hR => ?_)
  refine j_aload_n (pc := 0) hX dX6_firstCellOf_0 0 rfl ?_
  refine j_get (pc := 1) hX f_RX6_28 0 rfl rfl dX6_firstCellOf_1 ?_
  refine j_aload_n (pc := 4) hX dX6_firstCellOf_4 0 rfl ?_
  refine j_get (pc := 5) hX f_RX6_34 0 rfl rfl dX6_firstCellOf_5 ?_
  refine j_iload_n (pc := 8) hX dX6_firstCellOf_8 1 rfl ?_
  refine j_callSN (pc := 9) hX kX8_at kSX8_at l_RX6_43 (fun l => c_X8_at G ths 65 (fun ι => nI (st_ ι)) k_ (by omega) (by omega) l) [3] [0, 1, 2, 4, 5] [.ref thp] rfl rfl rfl rfl ⟨rfl, rfl, by decide⟩ rfl rfl (Nat.le_of_ble_eq_true rfl) dX6_firstCellOf_9 (fun v w hq => ?_)
  obtain ⟨rfl, rfl⟩ := hq
  refine j_ws [0, 1, 2, 5, 3, 4] (ws' := [(th, .inr (6, [.int (nI nM), .int (nI nS), .int (nI W), .int (nI H), .ref tht, .ref thp, .int (nI nP), .ref ths, .ref tho, .ref thm])), (tht, ia G 256 La), (thp, ia G 256 (fun ι => nI (E ι))), (ths, ia G 65 (fun ι => nI (st_ ι))), (tho, ia G 64 (fun ι => nI (No ι))), (thm, ia G 64 (fun ι => nI (Mo ι)))]) rfl rfl ?_
  refine j_callSN (pc := 12) hX kX8_at kSX8_at l_RX6_43 (fun l => c_X8_at G thp 256 (fun ι => nI (E ι)) (st_ k_) (by omega) (by omega) l) [2] [0, 1, 3, 4, 5] [] rfl rfl rfl rfl ⟨rfl, rfl, by decide⟩ rfl rfl (Nat.le_of_ble_eq_true rfl) dX6_firstCellOf_12 (fun v w hq => ?_)
  obtain ⟨rfl, rfl⟩ := hq
  refine j_ws [0, 1, 5, 2, 3, 4] (ws' := [(th, .inr (6, [.int (nI nM), .int (nI nS), .int (nI W), .int (nI H), .ref tht, .ref thp, .int (nI nP), .ref ths, .ref tho, .ref thm])), (tht, ia G 256 La), (thp, ia G 256 (fun ι => nI (E ι))), (ths, ia G 65 (fun ι => nI (st_ ι))), (tho, ia G 64 (fun ι => nI (No ι))), (thm, ia G 64 (fun ι => nI (Mo ι)))]) rfl rfl ?_
  refine j_istore_n (pc := 15) (lv' := [(2, .int (nI (E (st_ k_)))), (0, .ref th), (1, .int (nI k_))]) hX dX6_firstCellOf_15 (by decide) rfl ?_
  refine j_bipush (pc := 16) (v := nI 100) hX dX6_firstCellOf_16 (by decide) ?_
  refine j_iload_n (pc := 18) hX dX6_firstCellOf_18 0 rfl ?_
  refine j_bipush (pc := 19) (v := nI 15) hX dX6_firstCellOf_19 (by decide) ?_
  refine j_iand (pc := 21) hX dX6_firstCellOf_21 ?_
  refine j_topi (y := nI ((E (st_ k_)) % 16)) (pk_andN (by omega) 4 (by decide)) ?_
  refine j_imul (pc := 22) hX dX6_firstCellOf_22 ?_
  refine j_topi (y := nI (100 * ((E (st_ k_)) % 16))) (pk_mul _ _) ?_
  refine j_iload_n (pc := 23) hX dX6_firstCellOf_23 0 rfl ?_
  refine j_iconstN (pc := 24) (j := 4) hX dX6_firstCellOf_24 rfl ?_
  refine j_ishr (pc := 25) hX dX6_firstCellOf_25 ?_
  refine j_topi (y := nI ((E (st_ k_)) / 16)) (pk_shrN (by omega) _ 4 (by decide)) ?_
  refine j_iadd (pc := 26) hX dX6_firstCellOf_26 ?_
  refine j_topi (y := nI (100 * ((E (st_ k_)) % 16) + ((E (st_ k_)) / 16))) (nI_add _ _) ?_
  exact j_iret (pc := 27) hX hR dX6_firstCellOf_27 ⟨congrArg some (show Value.int (nI (100 * ((E (st_ k_)) % 16) + ((E (st_ k_)) / 16))) = Value.int (nI (100 * (E (st_ k_) % 16) + E (st_ k_) / 16)) from by rfl), rfl⟩
set_option maxHeartbeats 4000000 in
set_option maxRecDepth 100000 in
theorem c_X6_thingsLike (G : GT) (th : Nat) (nM : Nat) (nS : Nat) (W : Nat) (H : Nat) (tht : Nat) (thp : Nat) (nP : Nat) (ths : Nat) (tho : Nat) (thm : Nat) (La : Nat → Int32) (E : Nat → Nat) (st_ : Nat → Nat) (No : Nat → Nat) (Mo : Nat → Nat) (s_ : Nat) (hM : nM ≤ 64) (hs : s_ < 64) (hno : ∀ i, i < nM → No i < 64) (l : Launch) : CT l G yX6_thingsLike cX6_thingsLike 4 (some .int) { frames := 2, cells := 0, slots := 0, locals := 42 } [.ref th, .int (nI s_)] [(th, .inr (6, [.int (nI nM), .int (nI nS), .int (nI W), .int (nI H), .ref tht, .ref thp, .int (nI nP), .ref ths, .ref tho, .ref thm])), (tht, ia G 256 La), (thp, ia G 256 (fun ι => nI (E ι))), (ths, ia G 65 (fun ι => nI (st_ ι))), (tho, ia G 64 (fun ι => nI (No ι))), (thm, ia G 64 (fun ι => nI (Mo ι)))] (fun vv ww => vv = some (.int (nI (nlk No s_ nM))) ∧ ww = [(th, .inr (6, [.int (nI nM), .int (nI nS), .int (nI W), .int (nI H), .ref tht, .ref thp, .int (nI nP), .ref ths, .ref tho, .ref thm])), (tht, ia G 256 La), (thp, ia G 256 (fun ι => nI (E ι))), (ths, ia G 65 (fun ι => nI (st_ ι))), (tho, ia G 64 (fun ι => nI (No ι))), (thm, ia G 64 (fun ι => nI (Mo ι)))]) := by
  refine CT.of (lv := [(0, .ref th), (1, .int (nI s_))]) RX6 "thingsLike" rfl rfl (by decide +kernel) (Nat.le_of_ble_eq_true rfl) rfl (fun X hX hR => ?_)
  refine j_iconstN (pc := 0) (j := 0) hX dX6_thingsLike_0 rfl ?_
  refine j_istore_n (pc := 1) (lv' := [(2, .int (nI 0)), (0, .ref th), (1, .int (nI s_))]) hX dX6_thingsLike_1 (by decide) rfl ?_
  refine j_iconstN (pc := 2) (j := 0) hX dX6_thingsLike_2 rfl ?_
  refine j_istore_n (pc := 3) (lv' := [(3, .int (nI 0)), (2, .int (nI 0)), (0, .ref th), (1, .int (nI s_))]) hX dX6_thingsLike_3 (by decide) rfl ?_
  have L4 : ∀ (m4 : Nat) (i r_ : Nat) (hi : i ≤ nM) (hr : r_ = nlk No s_ i), nM - i < m4 → J X G 4 0 0 [(th, .inr (6, [.int (nI nM), .int (nI nS), .int (nI W), .int (nI H), .ref tht, .ref thp, .int (nI nP), .ref ths, .ref tho, .ref thm])), (tht, ia G 256 La), (thp, ia G 256 (fun ι => nI (E ι))), (ths, ia G 65 (fun ι => nI (st_ ι))), (tho, ia G 64 (fun ι => nI (No ι))), (thm, ia G 64 (fun ι => nI (Mo ι)))] [(0, .ref th), (1, .int (nI s_)), (2, .int (nI r_)), (3, .int (nI i))] 4 [] := by
    intro m4
    induction m4 with
    | zero => intro i r_ hi hr hm4; exact absurd hm4 (Nat.not_lt_zero _)
    | succ m4 ih4 =>
      intro i r_ hi hr hm4
      refine j_iload_n (pc := 4) hX dX6_thingsLike_4 3 rfl ?_
      refine j_aload_n (pc := 5) hX dX6_thingsLike_5 0 rfl ?_
      refine j_get (pc := 6) hX f_RX6_9 0 rfl rfl dX6_thingsLike_6 ?_
      refine j_icmp_ge (pc := 9) (tgt := 30) hX dX6_thingsLike_9 (by decide) (nI_toInt (n := i) (by omega)) (nI_toInt (n := nM) (by omega)) (fun c9 => ?_) (fun c9 => ?_)
      · skip
        refine j_iload_n (pc := 30) hX dX6_thingsLike_30 2 rfl ?_
        exact j_iret (pc := 31) hX hR dX6_thingsLike_31 ⟨congrArg some (show Value.int (nI r_) = Value.int (nI (nlk No s_ nM)) from by rw [hr, show i = nM from by omega]), rfl⟩
      · skip
        refine j_aload_n (pc := 12) hX dX6_thingsLike_12 0 rfl ?_
        refine j_iload_n (pc := 13) hX dX6_thingsLike_13 3 rfl ?_
        refine j_callV (pc := 14) hX kX6_shapeOf kVX6_shapeOf l_RX6_47 (fun l => c_X6_shapeOf G th nM nS W H tht thp nP ths tho thm La E st_ No Mo i (by omega) l) [0, 1, 2, 3, 4, 5] [] [] rfl 0 6 rfl rfl rfl rfl rfl rfl ⟨rfl, rfl, by decide⟩ rfl rfl (Nat.le_of_ble_eq_true rfl) dX6_thingsLike_14 (fun v w hq => ?_)
        obtain ⟨rfl, rfl⟩ := hq
        refine j_ws [0, 1, 2, 3, 4, 5] (ws' := [(th, .inr (6, [.int (nI nM), .int (nI nS), .int (nI W), .int (nI H), .ref tht, .ref thp, .int (nI nP), .ref ths, .ref tho, .ref thm])), (tht, ia G 256 La), (thp, ia G 256 (fun ι => nI (E ι))), (ths, ia G 65 (fun ι => nI (st_ ι))), (tho, ia G 64 (fun ι => nI (No ι))), (thm, ia G 64 (fun ι => nI (Mo ι)))]) rfl rfl ?_
        have hnoi := hno i (by omega)
        refine j_iload_n (pc := 17) hX dX6_thingsLike_17 1 rfl ?_
        refine j_icmp_ne (pc := 18) (tgt := 24) hX dX6_thingsLike_18 (by decide) (nI_toInt (n := No i) (by omega)) (nI_toInt (n := s_) (by omega)) (fun c18 => ?_) (fun c18 => ?_)
        · skip
          refine j_iinc (pc := 24) (q := 3) (v := nI (i + 1)) (lv' := [(3, .int (nI (i + 1))), (0, .ref th), (1, .int (nI s_)), (2, .int (nI r_))]) hX dX6_thingsLike_24 rfl (nI_inc _ 1) (by decide) rfl ?_
          refine j_goto (pc := 27) (tgt := 4) hX dX6_thingsLike_27 (by decide) ?_
          refine j_lv [1, 2, 3, 0] (lv' := [(0, .ref th), (1, .int (nI s_)), (2, .int (nI r_)), (3, .int (nI (i + 1)))]) rfl ?_
          exact ih4 (i + 1) r_ (by omega) (by show _ = nlk No s_ i + (if No i = s_ then 1 else 0); first | (rw [if_pos (by omega)]; omega) | (rw [if_neg (by omega)]; omega)) (by omega)
        · skip
          refine j_iinc (pc := 21) (q := 2) (v := nI (r_ + 1)) (lv' := [(2, .int (nI (r_ + 1))), (0, .ref th), (1, .int (nI s_)), (3, .int (nI i))]) hX dX6_thingsLike_21 rfl (nI_inc _ 1) (by decide) rfl ?_
          refine j_iinc (pc := 24) (q := 3) (v := nI (i + 1)) (lv' := [(3, .int (nI (i + 1))), (2, .int (nI (r_ + 1))), (0, .ref th), (1, .int (nI s_))]) hX dX6_thingsLike_24 rfl (nI_inc _ 1) (by decide) rfl ?_
          refine j_goto (pc := 27) (tgt := 4) hX dX6_thingsLike_27 (by decide) ?_
          refine j_lv [2, 3, 1, 0] (lv' := [(0, .ref th), (1, .int (nI s_)), (2, .int (nI (r_ + 1))), (3, .int (nI (i + 1)))]) rfl ?_
          exact ih4 (i + 1) (r_ + 1) (by omega) (by show _ = nlk No s_ i + (if No i = s_ then 1 else 0); first | (rw [if_pos (by omega)]; omega) | (rw [if_neg (by omega)]; omega)) (by omega)
  refine j_lv [2, 3, 1, 0] (lv' := [(0, .ref th), (1, .int (nI s_)), (2, .int (nI 0)), (3, .int (nI 0))]) rfl ?_
  exact L4 ((nM - 0) + 1) 0 0 (by omega) (rfl) (Nat.lt_succ_self _)
set_option maxHeartbeats 4000000 in
set_option maxRecDepth 100000 in
theorem c_X6_join (G : GT) (th : Nat) (nM : Nat) (nS : Nat) (W : Nat) (H : Nat) (tht : Nat) (thp : Nat) (nP : Nat) (ths : Nat) (tho : Nat) (thm : Nat) (La : Nat → Int32) (E : Nat → Nat) (st_ : Nat → Nat) (No : Nat → Nat) (Mo : Nat → Nat) (xx yy : Nat) (hx : xx < 16) (hy : yy < 16) (hp : nP < 256) (l : Launch) : CT l G yX6_join cX6_join 3 none { frames := 1, cells := 0, slots := 0, locals := 22 } [.ref th, .int (nI xx), .int (nI yy)] [(th, .inr (6, [.int (nI nM), .int (nI nS), .int (nI W), .int (nI H), .ref tht, .ref thp, .int (nI nP), .ref ths, .ref tho, .ref thm])), (tht, ia G 256 La), (thp, ia G 256 (fun ι => nI (E ι))), (ths, ia G 65 (fun ι => nI (st_ ι))), (tho, ia G 64 (fun ι => nI (No ι))), (thm, ia G 64 (fun ι => nI (Mo ι)))] (fun vv ww => vv = none ∧ ww = [(th, .inr (6, [.int (nI nM), .int (nI nS), .int (nI W), .int (nI H), .ref tht, .ref thp, .int (nI (nP + 1)), .ref ths, .ref tho, .ref thm])), (tht, ia G 256 (upd La (16 * yy + xx) (nI nM))), (thp, ia G 256 (fun ι => nI (updN E nP (16 * yy + xx) ι))), (ths, ia G 65 (fun ι => nI (st_ ι))), (tho, ia G 64 (fun ι => nI (No ι))), (thm, ia G 64 (fun ι => nI (Mo ι)))]) := by
  refine CT.of (lv := [(0, .ref th), (1, .int (nI xx)), (2, .int (nI yy))]) RX6 "join" rfl rfl (by decide +kernel) (Nat.le_of_ble_eq_true rfl) rfl (fun X hX hR => ?_)
  refine j_aload_n (pc := 0) hX dX6_join_0 0 rfl ?_
  refine j_get (pc := 1) hX f_RX6_24 0 rfl rfl dX6_join_1 ?_
  refine j_bipush (pc := 4) (v := nI 16) hX dX6_join_4 (by decide) ?_
  refine j_iload_n (pc := 6) hX dX6_join_6 2 rfl ?_
  refine j_imul (pc := 7) hX dX6_join_7 ?_
  refine j_topi (y := nI (16 * yy)) (pk_mul _ _) ?_
  refine j_iload_n (pc := 8) hX dX6_join_8 1 rfl ?_
  refine j_iadd (pc := 9) hX dX6_join_9 ?_
  refine j_topi (y := nI (16 * yy + xx)) (nI_add _ _) ?_
  refine j_aload_n (pc := 10) hX dX6_join_10 0 rfl ?_
  refine j_get (pc := 11) hX f_RX6_9 0 rfl rfl dX6_join_11 ?_
  refine j_callSN (pc := 14) hX kX8_put kSX8_put l_RX6_59 (fun l => c_X8_put G tht 256 La (16 * yy + xx) (nI nM) (by omega) (by omega) l) [1] [0, 2, 3, 4, 5] [] rfl rfl rfl rfl ⟨rfl, rfl, by decide⟩ rfl rfl (Nat.le_of_ble_eq_true rfl) dX6_join_14 (fun v w hq => ?_)
  obtain ⟨rfl, rfl⟩ := hq
  refine j_ws [0, 5, 1, 2, 3, 4] (ws' := [(th, .inr (6, [.int (nI nM), .int (nI nS), .int (nI W), .int (nI H), .ref tht, .ref thp, .int (nI nP), .ref ths, .ref tho, .ref thm])), (tht, ia G 256 (upd La (16 * yy + xx) (nI nM))), (thp, ia G 256 (fun ι => nI (E ι))), (ths, ia G 65 (fun ι => nI (st_ ι))), (tho, ia G 64 (fun ι => nI (No ι))), (thm, ia G 64 (fun ι => nI (Mo ι)))]) rfl rfl ?_
  refine j_aload_n (pc := 17) hX dX6_join_17 0 rfl ?_
  refine j_get (pc := 18) hX f_RX6_28 0 rfl rfl dX6_join_18 ?_
  refine j_aload_n (pc := 21) hX dX6_join_21 0 rfl ?_
  refine j_get (pc := 22) hX f_RX6_31 0 rfl rfl dX6_join_22 ?_
  refine j_bipush (pc := 25) (v := nI 16) hX dX6_join_25 (by decide) ?_
  refine j_iload_n (pc := 27) hX dX6_join_27 2 rfl ?_
  refine j_imul (pc := 28) hX dX6_join_28 ?_
  refine j_topi (y := nI (16 * yy)) (pk_mul _ _) ?_
  refine j_iload_n (pc := 29) hX dX6_join_29 1 rfl ?_
  refine j_iadd (pc := 30) hX dX6_join_30 ?_
  refine j_topi (y := nI (16 * yy + xx)) (nI_add _ _) ?_
  refine j_callSN (pc := 31) hX kX8_put kSX8_put l_RX6_59 (fun l => c_X8_put G thp 256 (fun ι => nI (E ι)) nP (nI (16 * yy + xx)) (by omega) (by omega) l) [2] [0, 1, 3, 4, 5] [] rfl rfl rfl rfl ⟨rfl, rfl, by decide⟩ rfl rfl (Nat.le_of_ble_eq_true rfl) dX6_join_31 (fun v w hq => ?_)
  obtain ⟨rfl, rfl⟩ := hq
  refine j_ws [0, 1, 5, 2, 3, 4] (ws' := [(th, .inr (6, [.int (nI nM), .int (nI nS), .int (nI W), .int (nI H), .ref tht, .ref thp, .int (nI nP), .ref ths, .ref tho, .ref thm])), (tht, ia G 256 (upd La (16 * yy + xx) (nI nM))), (thp, ia G 256 (upd (fun ι => nI (E ι)) nP (nI (16 * yy + xx)))), (ths, ia G 65 (fun ι => nI (st_ ι))), (tho, ia G 64 (fun ι => nI (No ι))), (thm, ia G 64 (fun ι => nI (Mo ι)))]) rfl rfl ?_
  refine j_aload_n (pc := 34) hX dX6_join_34 0 rfl ?_
  refine j_dup (pc := 35) hX dX6_join_35 rfl ?_
  refine j_get (pc := 36) hX f_RX6_31 0 rfl rfl dX6_join_36 ?_
  refine j_iconstN (pc := 39) (j := 1) hX dX6_join_39 rfl ?_
  refine j_iadd (pc := 40) hX dX6_join_40 ?_
  refine j_topi (y := nI (nP + 1)) (nI_add _ _) ?_
  refine j_put (pc := 41) (ws' := [(th, .inr (6, [.int (nI nM), .int (nI nS), .int (nI W), .int (nI H), .ref tht, .ref thp, .int (nI (nP + 1)), .ref ths, .ref tho, .ref thm])), (tht, ia G 256 (upd La (16 * yy + xx) (nI nM))), (thp, ia G 256 (upd (fun ι => nI (E ι)) nP (nI (16 * yy + xx)))), (ths, ia G 65 (fun ι => nI (st_ ι))), (tho, ia G 64 (fun ι => nI (No ι))), (thm, ia G 64 (fun ι => nI (Mo ι)))]) hX f_RX6_31 0 rfl rfl rfl (Nat.le_of_ble_eq_true rfl) rfl dX6_join_41 ?_
  refine j_ia (q0 := 2) (f := upd (fun ι => nI (E ι)) nP (nI (16 * yy + xx))) (g := fun ι => nI (updN E nP (16 * yy + xx) ι)) rfl (fun z hz => by exact updNI) (ws' := [(th, .inr (6, [.int (nI nM), .int (nI nS), .int (nI W), .int (nI H), .ref tht, .ref thp, .int (nI (nP + 1)), .ref ths, .ref tho, .ref thm])), (tht, ia G 256 (upd La (16 * yy + xx) (nI nM))), (thp, ia G 256 (fun ι => nI (updN E nP (16 * yy + xx) ι))), (ths, ia G 65 (fun ι => nI (st_ ι))), (tho, ia G 64 (fun ι => nI (No ι))), (thm, ia G 64 (fun ι => nI (Mo ι)))]) rfl ?_
  exact j_vret (pc := 44) hX hR dX6_join_44 ⟨rfl, rfl⟩
set_option maxHeartbeats 4000000 in
set_option maxRecDepth 100000 in
theorem c_X6_joinNeighbours (G : GT) (th : Nat) (nM : Nat) (nS : Nat) (W : Nat) (H : Nat) (tht : Nat) (thp : Nat) (nP : Nat) (ths : Nat) (tho : Nat) (thm : Nat) (La : Nat → Int32) (E : Nat → Nat) (st_ : Nat → Nat) (No : Nat → Nat) (Mo : Nat → Nat) (a_ : Nat) (hW1 : 2 ≤ W) (hW2 : W ≤ 16) (hH1 : 2 ≤ H) (hH2 : H ≤ 16) (hM : nM < 1000) (hls : Ls (-1) La E nP) (ha1 : a_ % 16 < W) (ha2 : a_ / 16 < H) (l : Launch) : CT l G yX6_joinNeighbours cX6_joinNeighbours 6 none { frames := 2, cells := 0, slots := 0, locals := 44 } [.ref th, .int (nI a_)] [(th, .inr (6, [.int (nI nM), .int (nI nS), .int (nI W), .int (nI H), .ref tht, .ref thp, .int (nI nP), .ref ths, .ref tho, .ref thm])), (tht, ia G 256 La), (thp, ia G 256 (fun ι => nI (E ι))), (ths, ia G 65 (fun ι => nI (st_ ι))), (tho, ia G 64 (fun ι => nI (No ι))), (thm, ia G 64 (fun ι => nI (Mo ι)))] (fun vv ww => ∃ (La2 : Nat → Int32) (E2 : Nat → Nat) (nP2 : Nat), vv = none ∧ ww = [(th, .inr (6, [.int (nI nM), .int (nI nS), .int (nI W), .int (nI H), .ref tht, .ref thp, .int (nI nP2), .ref ths, .ref tho, .ref thm])), (tht, ia G 256 La2), (thp, ia G 256 (fun ι => nI (E2 ι))), (ths, ia G 65 (fun ι => nI (st_ ι))), (tho, ia G 64 (fun ι => nI (No ι))), (thm, ia G 64 (fun ι => nI (Mo ι)))] ∧ (Jn (-1) nM (fun c_ => ∃ d, d < 9 ∧ c_ = nbC W H a_ d) La E nP La2 E2 nP2) ∧ (∀ d, d < 9 → La2 (nbC W H a_ d) ≠ -1)) := by
  refine CT.of (lv := [(0, .ref th), (1, .int (nI a_))]) RX6 "joinNeighbours" rfl rfl (by decide +kernel) (Nat.le_of_ble_eq_true rfl) rfl (fun X hX hR => ?_)
  have hq9 : ∀ c_, (∃ d, d < 9 ∧ c_ = nbC W H a_ d) → c_ < 256 := fun c_ ⟨d, hd, e⟩ => by have := nb_in (W := W) (H := H) (a := a_) (d := d) ⟨hW1, hW2⟩ ⟨hH1, hH2⟩ ⟨ha1, ha2⟩ hd; omega
  refine j_iconst (pc := 0) (v := (-1)) hX dX6_joinNeighbours_0 (by decide) ?_
  refine j_istore_n (pc := 1) (lv' := [(2, .int (-1)), (0, .ref th), (1, .int (nI a_))]) hX dX6_joinNeighbours_1 (by decide) rfl ?_
  have L2 : ∀ (m2 : Nat) (e : Nat) (z : Int32) (La3 : Nat → Int32) (E3 : Nat → Nat) (n3 : Nat) (he : e ≤ 3) (hz : z.toInt = (e : Int) - 1) (hJ : Jn (-1) nM (fun c_ => ∃ d, d < 9 ∧ c_ = nbC W H a_ d) La E nP La3 E3 n3) (hdo : ∀ d, d < 3 * e → La3 (nbC W H a_ d) ≠ -1), 3 - e < m2 → J X G 6 0 0 [(th, .inr (6, [.int (nI nM), .int (nI nS), .int (nI W), .int (nI H), .ref tht, .ref thp, .int (nI n3), .ref ths, .ref tho, .ref thm])), (tht, ia G 256 La3), (thp, ia G 256 (fun ι => nI (E3 ι))), (ths, ia G 65 (fun ι => nI (st_ ι))), (tho, ia G 64 (fun ι => nI (No ι))), (thm, ia G 64 (fun ι => nI (Mo ι)))] [(0, .ref th), (1, .int (nI a_)), (2, .int z)] 2 [] := by
    intro m2
    induction m2 with
    | zero => intro e z La3 E3 n3 he hz hJ hdo hm2; exact absurd hm2 (Nat.not_lt_zero _)
    | succ m2 ih2 =>
      intro e z La3 E3 n3 he hz hJ hdo hm2
      refine j_iload_n (pc := 2) hX dX6_joinNeighbours_2 2 rfl ?_
      refine j_iconstN (pc := 3) (j := 1) hX dX6_joinNeighbours_3 rfl ?_
      refine j_icmp_gt (pc := 4) (tgt := 75) hX dX6_joinNeighbours_4 (by decide) rfl (nI_toInt (n := 1) (by decide)) (fun c4 => ?_) (fun c4 => ?_)
      · skip
        exact j_vret (pc := 75) hX hR dX6_joinNeighbours_75 ⟨La3, E3, n3, rfl, rfl, (hJ), (fun d hd => hdo d (by omega))⟩
      · skip
        refine j_iload_n (pc := 7) hX dX6_joinNeighbours_7 1 rfl ?_
        refine j_iconstN (pc := 8) (j := 4) hX dX6_joinNeighbours_8 rfl ?_
        refine j_ishr (pc := 9) hX dX6_joinNeighbours_9 ?_
        refine j_topi (y := nI (a_ / 16)) (pk_shrN (by omega) _ 4 (by decide)) ?_
        refine j_iload_n (pc := 10) hX dX6_joinNeighbours_10 2 rfl ?_
        refine j_iadd (pc := 11) hX dX6_joinNeighbours_11 ?_
        refine j_aload_n (pc := 12) hX dX6_joinNeighbours_12 0 rfl ?_
        refine j_get (pc := 13) hX f_RX6_21 0 rfl rfl dX6_joinNeighbours_13 ?_
        refine j_callSN (pc := 16) hX kX8_closedRound kSX8_closedRound l_RX6_80 (fun l => c_X8_closedRound_i G ((nI (a_ / 16)) + z) H (((a_ / 16 : Nat) : Int) + ((e : Nat) : Int) - 1) ((addz hz (by omega) (by omega)).trans (by omega)) (by omega) (by omega) l) [] [0, 1, 2, 3, 4, 5] [] rfl rfl rfl rfl ⟨rfl, rfl, by decide⟩ rfl rfl (Nat.le_of_ble_eq_true rfl) dX6_joinNeighbours_16 (fun v w hq => ?_)
        obtain ⟨rfl, rfl⟩ := hq
        refine j_ws [0, 1, 2, 3, 4, 5] (ws' := [(th, .inr (6, [.int (nI nM), .int (nI nS), .int (nI W), .int (nI H), .ref tht, .ref thp, .int (nI n3), .ref ths, .ref tho, .ref thm])), (tht, ia G 256 La3), (thp, ia G 256 (fun ι => nI (E3 ι))), (ths, ia G 65 (fun ι => nI (st_ ι))), (tho, ia G 64 (fun ι => nI (No ι))), (thm, ia G 64 (fun ι => nI (Mo ι)))]) rfl rfl ?_
        refine j_istore_n (pc := 19) (lv' := [(3, .int (nI (crI (((a_ / 16 : Nat) : Int) + ((e : Nat) : Int) - 1) H))), (0, .ref th), (1, .int (nI a_)), (2, .int z)]) hX dX6_joinNeighbours_19 (by decide) rfl ?_
        refine j_iconst (pc := 20) (v := (-1)) hX dX6_joinNeighbours_20 (by decide) ?_
        refine j_istore (pc := 21) (lv' := [(4, .int (-1)), (3, .int (nI (crI (((a_ / 16 : Nat) : Int) + ((e : Nat) : Int) - 1) H))), (0, .ref th), (1, .int (nI a_)), (2, .int z)]) hX dX6_joinNeighbours_21 (by decide) rfl ?_
        have L23 : ∀ (m23 : Nat) (e2 : Nat) (z2 : Int32) (La4 : Nat → Int32) (E4 : Nat → Nat) (n4 : Nat) (he2 : e2 ≤ 3) (hz2 : z2.toInt = (e2 : Int) - 1) (hJ4 : Jn (-1) nM (fun c_ => ∃ d, d < 9 ∧ c_ = nbC W H a_ d) La E nP La4 E4 n4) (hdo4 : ∀ d, d < 3 * e + e2 → La4 (nbC W H a_ d) ≠ -1), 3 - e2 < m23 → J X G 6 0 0 [(th, .inr (6, [.int (nI nM), .int (nI nS), .int (nI W), .int (nI H), .ref tht, .ref thp, .int (nI n4), .ref ths, .ref tho, .ref thm])), (tht, ia G 256 La4), (thp, ia G 256 (fun ι => nI (E4 ι))), (ths, ia G 65 (fun ι => nI (st_ ι))), (tho, ia G 64 (fun ι => nI (No ι))), (thm, ia G 64 (fun ι => nI (Mo ι)))] [(0, .ref th), (1, .int (nI a_)), (2, .int z), (3, .int (nI (crI (((a_ / 16 : Nat) : Int) + ((e : Nat) : Int) - 1) H))), (4, .int z2)] 23 [] := by
          intro m23
          induction m23 with
          | zero => intro e2 z2 La4 E4 n4 he2 hz2 hJ4 hdo4 hm23; exact absurd hm23 (Nat.not_lt_zero _)
          | succ m23 ih23 =>
            intro e2 z2 La4 E4 n4 he2 hz2 hJ4 hdo4 hm23
            refine j_iload (pc := 23) hX dX6_joinNeighbours_23 4 rfl ?_
            refine j_iconstN (pc := 25) (j := 1) hX dX6_joinNeighbours_25 rfl ?_
            refine j_icmp_gt (pc := 26) (tgt := 69) hX dX6_joinNeighbours_26 (by decide) rfl (nI_toInt (n := 1) (by decide)) (fun c26 => ?_) (fun c26 => ?_)
            · skip
              refine j_iinc (pc := 69) (q := 2) (v := z + (1)) (lv' := [(2, .int (z + (1))), (0, .ref th), (1, .int (nI a_)), (3, .int (nI (crI (((a_ / 16 : Nat) : Int) + ((e : Nat) : Int) - 1) H))), (4, .int z2)]) hX dX6_joinNeighbours_69 rfl (rfl) (by decide) rfl ?_
              refine j_goto (pc := 72) (tgt := 2) hX dX6_joinNeighbours_72 (by decide) ?_
              refine j_lv [1, 2, 0] (lv' := [(0, .ref th), (1, .int (nI a_)), (2, .int (z + (1)))]) rfl ?_
              exact ih2 (e + 1) (z + (1)) La4 E4 n4 (by omega) (by rw [inz hz (by omega)]; omega) (hJ4) (fun d hd => hdo4 d (by omega)) (by omega)
            · skip
              refine j_iload_n (pc := 29) hX dX6_joinNeighbours_29 1 rfl ?_
              refine j_bipush (pc := 30) (v := nI 15) hX dX6_joinNeighbours_30 (by decide) ?_
              refine j_iand (pc := 32) hX dX6_joinNeighbours_32 ?_
              refine j_topi (y := nI (a_ % 16)) (pk_andN (by omega) 4 (by decide)) ?_
              refine j_iload (pc := 33) hX dX6_joinNeighbours_33 4 rfl ?_
              refine j_iadd (pc := 35) hX dX6_joinNeighbours_35 ?_
              refine j_aload_n (pc := 36) hX dX6_joinNeighbours_36 0 rfl ?_
              refine j_get (pc := 37) hX f_RX6_18 0 rfl rfl dX6_joinNeighbours_37 ?_
              refine j_callSN (pc := 40) hX kX8_closedRound kSX8_closedRound l_RX6_80 (fun l => c_X8_closedRound_i G ((nI (a_ % 16)) + z2) W (((a_ % 16 : Nat) : Int) + ((e2 : Nat) : Int) - 1) ((addz hz2 (by omega) (by omega)).trans (by omega)) (by omega) (by omega) l) [] [0, 1, 2, 3, 4, 5] [] rfl rfl rfl rfl ⟨rfl, rfl, by decide⟩ rfl rfl (Nat.le_of_ble_eq_true rfl) dX6_joinNeighbours_40 (fun v w hq => ?_)
              obtain ⟨rfl, rfl⟩ := hq
              refine j_ws [0, 1, 2, 3, 4, 5] (ws' := [(th, .inr (6, [.int (nI nM), .int (nI nS), .int (nI W), .int (nI H), .ref tht, .ref thp, .int (nI n4), .ref ths, .ref tho, .ref thm])), (tht, ia G 256 La4), (thp, ia G 256 (fun ι => nI (E4 ι))), (ths, ia G 65 (fun ι => nI (st_ ι))), (tho, ia G 64 (fun ι => nI (No ι))), (thm, ia G 64 (fun ι => nI (Mo ι)))]) rfl rfl ?_
              have hcx := crI_lt (z := ((a_ % 16 : Nat) : Int) + ((e2 : Nat) : Int) - 1) (n := W) (by omega) (by omega) hW1
              have hcy := crI_lt (z := ((a_ / 16 : Nat) : Int) + ((e : Nat) : Int) - 1) (n := H) (by omega) (by omega) hH1
              have hnb : nbC W H a_ (3 * e + e2) = (16 * crI (((a_ / 16 : Nat) : Int) + ((e : Nat) : Int) - 1) H + crI (((a_ % 16 : Nat) : Int) + ((e2 : Nat) : Int) - 1) W) := nb_e (by omega)
              have hls4 := Ls_J (nIm1 hM) hq9 hls hJ4
              refine j_istore (pc := 43) (lv' := [(5, .int (nI (crI (((a_ % 16 : Nat) : Int) + ((e2 : Nat) : Int) - 1) W))), (0, .ref th), (1, .int (nI a_)), (2, .int z), (3, .int (nI (crI (((a_ / 16 : Nat) : Int) + ((e : Nat) : Int) - 1) H))), (4, .int z2)]) hX dX6_joinNeighbours_43 (by decide) rfl ?_
              refine j_aload_n (pc := 45) hX dX6_joinNeighbours_45 1 rfl ?_
              refine j_iload (pc := 46) hX dX6_joinNeighbours_46 0 rfl ?_
              refine j_iload_n (pc := 48) hX dX6_joinNeighbours_48 4 rfl ?_
              refine j_callV (pc := 49) hX kX6_thingOn kVX6_thingOn l_RX6_63 (fun l => c_X6_thingOn G th nM nS W H tht thp n4 ths tho thm La4 E4 st_ No Mo (crI (((a_ % 16 : Nat) : Int) + ((e2 : Nat) : Int) - 1) W) (crI (((a_ / 16 : Nat) : Int) + ((e : Nat) : Int) - 1) H) (by omega) (by omega) l) [0, 1, 2, 3, 4, 5] [] [] rfl 0 6 rfl rfl rfl rfl rfl rfl ⟨rfl, rfl, by decide⟩ rfl rfl (Nat.le_of_ble_eq_true rfl) dX6_joinNeighbours_49 (fun v w hq => ?_)
              obtain ⟨rfl, rfl⟩ := hq
              refine j_ws [0, 1, 2, 3, 4, 5] (ws' := [(th, .inr (6, [.int (nI nM), .int (nI nS), .int (nI W), .int (nI H), .ref tht, .ref thp, .int (nI n4), .ref ths, .ref tho, .ref thm])), (tht, ia G 256 La4), (thp, ia G 256 (fun ι => nI (E4 ι))), (ths, ia G 65 (fun ι => nI (st_ ι))), (tho, ia G 64 (fun ι => nI (No ι))), (thm, ia G 64 (fun ι => nI (Mo ι)))]) rfl rfl ?_
              refine j_iconst (pc := 52) (v := (-1)) hX dX6_joinNeighbours_52 (by decide) ?_
              refine j_icmp_ne (pc := 53) (tgt := 63) hX dX6_joinNeighbours_53 (by decide) rfl (show ((-1) : Int32).toInt = -1 from by decide) (fun c53 => ?_) (fun c53 => ?_)
              · skip
                have c53 : La4 (16 * crI (((a_ / 16 : Nat) : Int) + ((e : Nat) : Int) - 1) H + crI (((a_ % 16 : Nat) : Int) + ((e2 : Nat) : Int) - 1) W) ≠ -1 := fun q => c53 (by rw [q]; rfl)
                have hdo5 : ∀ d, d < 3 * e + (e2 + 1) → La4 (nbC W H a_ d) ≠ -1 := fun d hd => by rcases Nat.lt_or_ge d (3 * e + e2) with q | q; exact hdo4 d q; rw [show d = 3 * e + e2 from by omega, hnb]; exact c53
                refine j_iinc (pc := 63) (q := 5) (v := z2 + (1)) (lv' := [(4, .int (z2 + (1))), (5, .int (nI (crI (((a_ % 16 : Nat) : Int) + ((e2 : Nat) : Int) - 1) W))), (0, .ref th), (1, .int (nI a_)), (2, .int z), (3, .int (nI (crI (((a_ / 16 : Nat) : Int) + ((e : Nat) : Int) - 1) H)))]) hX dX6_joinNeighbours_63 rfl (rfl) (by decide) rfl ?_
                refine j_goto (pc := 66) (tgt := 23) hX dX6_joinNeighbours_66 (by decide) ?_
                refine j_lv [2, 3, 4, 5, 0] (lv' := [(0, .ref th), (1, .int (nI a_)), (2, .int z), (3, .int (nI (crI (((a_ / 16 : Nat) : Int) + ((e : Nat) : Int) - 1) H))), (4, .int (z2 + (1)))]) rfl ?_
                exact ih23 (e2 + 1) (z2 + (1)) La4 E4 n4 (by omega) (by rw [inz hz2 (by omega)]; omega) (by first | exact hJ5 | exact hJ4) (hdo5) (by omega)
              · skip
                have c53 : La4 (16 * crI (((a_ / 16 : Nat) : Int) + ((e : Nat) : Int) - 1) H + crI (((a_ % 16 : Nat) : Int) + ((e2 : Nat) : Int) - 1) W) = -1 := Int32.toInt_inj.mp (c53.trans (by decide))
                have hfree := Ls_free hls4 c53 (by omega)
                have hJ5 := Jn_t (nIm1 hM) hJ4 (Jn_1 (M := nM) (E := E4) (n := n4) (Q := (fun c_ => ∃ d, d < 9 ∧ c_ = nbC W H a_ d)) ⟨3 * e + e2, by omega, hnb.symm⟩ c53)
                have hdo5 : ∀ d, d < 3 * e + (e2 + 1) → upd La4 (16 * crI (((a_ / 16 : Nat) : Int) + ((e : Nat) : Int) - 1) H + crI (((a_ % 16 : Nat) : Int) + ((e2 : Nat) : Int) - 1) W) (nI nM) (nbC W H a_ d) ≠ -1 := fun d hd => by unfold upd; split; exact nIm1 hM; rename_i qq; rcases Nat.lt_or_ge d (3 * e + e2) with q | q; exact hdo4 d q; exact absurd (by rw [show d = 3 * e + e2 from by omega, hnb]) qq
                refine j_aload_n (pc := 56) hX dX6_joinNeighbours_56 1 rfl ?_
                refine j_iload (pc := 57) hX dX6_joinNeighbours_57 0 rfl ?_
                refine j_iload_n (pc := 59) hX dX6_joinNeighbours_59 4 rfl ?_
                refine j_callV (pc := 60) hX kX6_join kVX6_join l_RX6_73 (fun l => c_X6_join G th nM nS W H tht thp n4 ths tho thm La4 E4 st_ No Mo (crI (((a_ % 16 : Nat) : Int) + ((e2 : Nat) : Int) - 1) W) (crI (((a_ / 16 : Nat) : Int) + ((e : Nat) : Int) - 1) H) (by omega) (by omega) (by omega) l) [0, 1, 2, 3, 4, 5] [] [] rfl 0 6 rfl rfl rfl rfl rfl rfl ⟨rfl, rfl, by decide⟩ rfl rfl (Nat.le_of_ble_eq_true rfl) dX6_joinNeighbours_60 (fun v w hq => ?_)
                obtain ⟨rfl, rfl⟩ := hq
                refine j_ws [0, 1, 2, 3, 4, 5] (ws' := [(th, .inr (6, [.int (nI nM), .int (nI nS), .int (nI W), .int (nI H), .ref tht, .ref thp, .int (nI (n4 + 1)), .ref ths, .ref tho, .ref thm])), (tht, ia G 256 (upd La4 (16 * (crI (((a_ / 16 : Nat) : Int) + ((e : Nat) : Int) - 1) H) + (crI (((a_ % 16 : Nat) : Int) + ((e2 : Nat) : Int) - 1) W)) (nI nM))), (thp, ia G 256 (fun ι => nI (updN E4 n4 (16 * (crI (((a_ / 16 : Nat) : Int) + ((e : Nat) : Int) - 1) H) + (crI (((a_ % 16 : Nat) : Int) + ((e2 : Nat) : Int) - 1) W)) ι))), (ths, ia G 65 (fun ι => nI (st_ ι))), (tho, ia G 64 (fun ι => nI (No ι))), (thm, ia G 64 (fun ι => nI (Mo ι)))]) rfl rfl ?_
                refine j_iinc (pc := 63) (q := 5) (v := z2 + (1)) (lv' := [(4, .int (z2 + (1))), (5, .int (nI (crI (((a_ % 16 : Nat) : Int) + ((e2 : Nat) : Int) - 1) W))), (0, .ref th), (1, .int (nI a_)), (2, .int z), (3, .int (nI (crI (((a_ / 16 : Nat) : Int) + ((e : Nat) : Int) - 1) H)))]) hX dX6_joinNeighbours_63 rfl (rfl) (by decide) rfl ?_
                refine j_goto (pc := 66) (tgt := 23) hX dX6_joinNeighbours_66 (by decide) ?_
                refine j_ia (q0 := 2) (f := fun ι => nI (updN E4 n4 (16 * (crI (((a_ / 16 : Nat) : Int) + ((e : Nat) : Int) - 1) H) + (crI (((a_ % 16 : Nat) : Int) + ((e2 : Nat) : Int) - 1) W)) ι)) (g := fun ι => nI ((updN E4 n4 (16 * (crI (((a_ / 16 : Nat) : Int) + ((e : Nat) : Int) - 1) H) + (crI (((a_ % 16 : Nat) : Int) + ((e2 : Nat) : Int) - 1) W))) ι)) rfl (fun z hz => by rfl) (ws' := [(th, .inr (6, [.int (nI nM), .int (nI nS), .int (nI W), .int (nI H), .ref tht, .ref thp, .int (nI (n4 + 1)), .ref ths, .ref tho, .ref thm])), (tht, ia G 256 (upd La4 (16 * (crI (((a_ / 16 : Nat) : Int) + ((e : Nat) : Int) - 1) H) + (crI (((a_ % 16 : Nat) : Int) + ((e2 : Nat) : Int) - 1) W)) (nI nM))), (thp, ia G 256 (fun ι => nI ((updN E4 n4 (16 * (crI (((a_ / 16 : Nat) : Int) + ((e : Nat) : Int) - 1) H) + (crI (((a_ % 16 : Nat) : Int) + ((e2 : Nat) : Int) - 1) W))) ι))), (ths, ia G 65 (fun ι => nI (st_ ι))), (tho, ia G 64 (fun ι => nI (No ι))), (thm, ia G 64 (fun ι => nI (Mo ι)))]) rfl ?_
                refine j_lv [2, 3, 4, 5, 0] (lv' := [(0, .ref th), (1, .int (nI a_)), (2, .int z), (3, .int (nI (crI (((a_ / 16 : Nat) : Int) + ((e : Nat) : Int) - 1) H))), (4, .int (z2 + (1)))]) rfl ?_
                exact ih23 (e2 + 1) (z2 + (1)) (upd La4 (16 * (crI (((a_ / 16 : Nat) : Int) + ((e : Nat) : Int) - 1) H) + (crI (((a_ % 16 : Nat) : Int) + ((e2 : Nat) : Int) - 1) W)) (nI nM)) (updN E4 n4 (16 * (crI (((a_ / 16 : Nat) : Int) + ((e : Nat) : Int) - 1) H) + (crI (((a_ % 16 : Nat) : Int) + ((e2 : Nat) : Int) - 1) W))) (n4 + 1) (by omega) (by rw [inz hz2 (by omega)]; omega) (by first | exact hJ5 | exact hJ4) (hdo5) (by omega)
        refine j_lv [2, 3, 4, 1, 0] (lv' := [(0, .ref th), (1, .int (nI a_)), (2, .int z), (3, .int (nI (crI (((a_ / 16 : Nat) : Int) + ((e : Nat) : Int) - 1) H))), (4, .int (-1))]) rfl ?_
        exact L23 ((3 - 0) + 1) 0 (-1) La3 E3 n3 (by omega) (by decide) (hJ) (hdo) (Nat.lt_succ_self _)
  refine j_lv [1, 2, 0] (lv' := [(0, .ref th), (1, .int (nI a_)), (2, .int (-1))]) rfl ?_
  exact L2 ((3 - 0) + 1) 0 (-1) La E nP (by omega) (by decide) (Jn_r _ _ _ _ _ _) (fun d hd => absurd hd (by omega)) (Nat.lt_succ_self _)
