set_option maxHeartbeats 4000000 in
set_option maxRecDepth 100000 in
theorem c_X9_isList (G : GT) (li : Int32)  (l : Launch) : CT l G yX9_isList cX9_isList 1 (some .boolean) { frames := 1, cells := 0, slots := 0, locals := 25 } [.int li] [] (fun vv ww => vv = some (.int (bI (rngB li 0 3))) ∧ ww = []) := by
  refine CT.of (lv := [(0, .int li)]) RX9 "isList" rfl rfl (by decide +kernel) (Nat.le_of_ble_eq_true rfl) rfl (fun X hX hR => ?_)
  refine j_iload_n (pc := 0) hX dX9_isList_0 0 rfl ?_
  refine j_i2l (pc := 1) hX dX9_isList_1 ?_
  refine j_lconst (pc := 2) (v := 0) hX dX9_isList_2 (by decide) ?_
  refine j_ldc2 (pc := 3) (v := (3)) hX k_RX9_255 dX9_isList_3 ?_
  refine j_callS (pc := 6) hX kX9_isIn kSX9_isIn l_RX9_105 (fun l => c_X9_isIn G li.toInt64 0 (3) (rngB li (0) (3)) (inL_of (toL _) (show ((0) : Int64).toInt = 0 from by decide) (show ((3) : Int64).toInt = 3 from by decide)) l) [] [] [] rfl rfl rfl rfl ⟨rfl, rfl, by decide⟩ rfl rfl (Nat.le_of_ble_eq_true rfl) dX9_isList_6 (fun v w hq => ?_)
  obtain ⟨rfl, rfl⟩ := hq
  refine j_ws [] (ws' := []) rfl rfl ?_
  exact j_zret (pc := 9) hX hR (bI_nar _) dX9_isList_9 ⟨congrArg some (show Value.int (bI (rngB li (0) (3))) = Value.int (bI (rngB li 0 3)) from by rfl), rfl⟩
set_option maxHeartbeats 4000000 in
set_option maxRecDepth 100000 in
theorem c_X9_isPlace (G : GT) (md : Nat) (W : Nat) (H : Nat) (t : Int32) (m : Nat) (k : Nat) (zc : Nat) (zr : Nat) (zb : Nat) (z1 : Nat) (z2 : Nat) (z3 : Nat) (z4 : Nat) (z5 : Nat) (zm : Nat) (zmr : Nat) (zmb : Nat) (mt : Int32) (zca : Nat) (zcw : Nat) (c : Nat) (zg : Nat) (zt : Nat) (zs : Nat) (zf : Nat) (zy : Nat) (zso : Nat) (zsf : Nat) (zsm : Nat) (nt : Int32) (nsh : Int32) (ztp : Nat) (zrw : Nat) (zpp : Nat) (tn : Nat) (pn : Nat) (rdw : Int32) (rdh : Int32) (zsz : Nat) (zit : Nat) (zk : Nat) (itk : Bool) (sz : Nat → Int32) (li : Nat) (v : Int64) (x_ : Int) (hl : li < 4) (hs : -1 ≤ (sz li).toInt ∧ (sz li).toInt ≤ 20) (hv : v.toInt = x_) (l : Launch) : CT l G yX9_isPlace cX9_isPlace 4 (some .boolean) { frames := 1, cells := 0, slots := 0, locals := 25 } [.ref md, .int (nI li), .long v] [(md, .inr (9, [.int (nI W), .int (nI H), .int t, .int (nI m), .int (nI k), .ref zc, .ref zr, .ref zb, .ref z1, .ref z2, .ref z3, .ref z4, .ref z5, .ref zm, .ref zmr, .ref zmb, .int mt, .ref zca, .ref zcw, .int (nI c), .ref zg, .ref zt, .ref zs, .ref zf, .ref zy, .ref zso, .ref zsf, .ref zsm, .int nt, .int nsh, .ref ztp, .ref zrw, .ref zpp, .int (nI tn), .int (nI pn), .int rdw, .int rdh, .ref zsz, .ref zit, .ref zk, .int (bI itk)])), (zsz, ia G 4 sz)] (fun vv ww => vv = some (.int (bI (decide (0 ≤ x_ ∧ x_ < (sz li).toInt)))) ∧ ww = [(md, .inr (9, [.int (nI W), .int (nI H), .int t, .int (nI m), .int (nI k), .ref zc, .ref zr, .ref zb, .ref z1, .ref z2, .ref z3, .ref z4, .ref z5, .ref zm, .ref zmr, .ref zmb, .int mt, .ref zca, .ref zcw, .int (nI c), .ref zg, .ref zt, .ref zs, .ref zf, .ref zy, .ref zso, .ref zsf, .ref zsm, .int nt, .int nsh, .ref ztp, .ref zrw, .ref zpp, .int (nI tn), .int (nI pn), .int rdw, .int rdh, .ref zsz, .ref zit, .ref zk, .int (bI itk)])), (zsz, ia G 4 sz)]) := by
  refine CT.of (lv := [(0, .ref md), (1, .int (nI li)), (2, .long v)]) RX9 "isPlace" rfl rfl (by decide +kernel) (Nat.le_of_ble_eq_true rfl) rfl (fun X hX hR => ?_)
  refine j_lload_n (pc := 0) hX dX9_isPlace_0 2 rfl ?_
  refine j_lconst (pc := 1) (v := 0) hX dX9_isPlace_1 (by decide) ?_
  refine j_aload_n (pc := 2) hX dX9_isPlace_2 0 rfl ?_
  refine j_get (pc := 3) hX f_RX9_91 0 rfl rfl dX9_isPlace_3 ?_
  refine j_iload_n (pc := 6) hX dX9_isPlace_6 1 rfl ?_
  refine j_ialdN (pc := 7) (j := li) hX 1 rfl (by omega) (by omega) dX9_isPlace_7 ?_
  refine j_iconstN (pc := 8) (j := 1) hX dX9_isPlace_8 rfl ?_
  refine j_isub (pc := 9) hX dX9_isPlace_9 ?_
  refine j_i2l (pc := 10) hX dX9_isPlace_10 ?_
  refine j_callS (pc := 11) hX kX9_isIn kSX9_isIn l_RX9_105 (fun l => c_X9_isIn G v 0 (((sz li) - (nI 1)).toInt64) (decide (0 ≤ x_ ∧ x_ < (sz li).toInt)) (inL_pl hv hs) l) [] [0, 1] [] rfl rfl rfl rfl ⟨rfl, rfl, by decide⟩ rfl rfl (Nat.le_of_ble_eq_true rfl) dX9_isPlace_11 (fun v w hq => ?_)
  obtain ⟨rfl, rfl⟩ := hq
  refine j_ws [0, 1] (ws' := [(md, .inr (9, [.int (nI W), .int (nI H), .int t, .int (nI m), .int (nI k), .ref zc, .ref zr, .ref zb, .ref z1, .ref z2, .ref z3, .ref z4, .ref z5, .ref zm, .ref zmr, .ref zmb, .int mt, .ref zca, .ref zcw, .int (nI c), .ref zg, .ref zt, .ref zs, .ref zf, .ref zy, .ref zso, .ref zsf, .ref zsm, .int nt, .int nsh, .ref ztp, .ref zrw, .ref zpp, .int (nI tn), .int (nI pn), .int rdw, .int rdh, .ref zsz, .ref zit, .ref zk, .int (bI itk)])), (zsz, ia G 4 sz)]) rfl rfl ?_
  exact j_zret (pc := 14) hX hR (bI_nar _) dX9_isPlace_14 ⟨rfl, rfl⟩
set_option maxHeartbeats 4000000 in
set_option maxRecDepth 100000 in
theorem c_X9_list_none (G : GT) (md : Nat) (W : Nat) (H : Nat) (t : Int32) (m : Nat) (k : Nat) (zc : Nat) (zr : Nat) (zb : Nat) (z1 : Nat) (z2 : Nat) (z3 : Nat) (z4 : Nat) (z5 : Nat) (zm : Nat) (zmr : Nat) (zmb : Nat) (mt : Int32) (zca : Nat) (zcw : Nat) (c : Nat) (zg : Nat) (zt : Nat) (zs : Nat) (zf : Nat) (zy : Nat) (zso : Nat) (zsf : Nat) (zsm : Nat) (nt : Int32) (nsh : Int32) (ztp : Nat) (zrw : Nat) (zpp : Nat) (tn : Nat) (pn : Nat) (rdw : Int32) (rdh : Int32) (zsz : Nat) (zit : Nat) (zk : Nat) (itk : Bool) (li n : Int32) (hl : li.toInt < 0 ∨ 4 ≤ li.toInt) (l : Launch) : CT l G yX9_list cX9_list 4 (some .int) { frames := 2, cells := 0, slots := 0, locals := 45 } [.ref md, .int li, .int n] [(md, .inr (9, [.int (nI W), .int (nI H), .int t, .int (nI m), .int (nI k), .ref zc, .ref zr, .ref zb, .ref z1, .ref z2, .ref z3, .ref z4, .ref z5, .ref zm, .ref zmr, .ref zmb, .int mt, .ref zca, .ref zcw, .int (nI c), .ref zg, .ref zt, .ref zs, .ref zf, .ref zy, .ref zso, .ref zsf, .ref zsm, .int nt, .int nsh, .ref ztp, .ref zrw, .ref zpp, .int (nI tn), .int (nI pn), .int rdw, .int rdh, .ref zsz, .ref zit, .ref zk, .int (bI itk)]))] (fun vv ww => vv = some (.int (-1)) ∧ ww = [(md, .inr (9, [.int (nI W), .int (nI H), .int t, .int (nI m), .int (nI k), .ref zc, .ref zr, .ref zb, .ref z1, .ref z2, .ref z3, .ref z4, .ref z5, .ref zm, .ref zmr, .ref zmb, .int mt, .ref zca, .ref zcw, .int (nI c), .ref zg, .ref zt, .ref zs, .ref zf, .ref zy, .ref zso, .ref zsf, .ref zsm, .int nt, .int nsh, .ref ztp, .ref zrw, .ref zpp, .int (nI tn), .int (nI pn), .int rdw, .int rdh, .ref zsz, .ref zit, .ref zk, .int (bI itk)]))]) := by
  refine CT.of (lv := [(0, .ref md), (1, .int li), (2, .int n)]) RX9 "list" rfl rfl (by decide +kernel) (Nat.le_of_ble_eq_true rfl) rfl (fun X hX hR => ?_)
  refine j_iload_n (pc := 0) hX dX9_list_0 1 rfl ?_
  refine j_callS (pc := 1) hX kX9_isList kSX9_isList l_RX9_257 (fun l => c_X9_isList G li  l) [] [0] [] rfl rfl rfl rfl ⟨rfl, rfl, by decide⟩ rfl rfl (Nat.le_of_ble_eq_true rfl) dX9_list_1 (fun v w hq => ?_)
  obtain ⟨rfl, rfl⟩ := hq
  refine j_ws [0] (ws' := [(md, .inr (9, [.int (nI W), .int (nI H), .int t, .int (nI m), .int (nI k), .ref zc, .ref zr, .ref zb, .ref z1, .ref z2, .ref z3, .ref z4, .ref z5, .ref zm, .ref zmr, .ref zmb, .int mt, .ref zca, .ref zcw, .int (nI c), .ref zg, .ref zt, .ref zs, .ref zf, .ref zy, .ref zso, .ref zsf, .ref zsm, .int nt, .int nsh, .ref ztp, .ref zrw, .ref zpp, .int (nI tn), .int (nI pn), .int rdw, .int rdh, .ref zsz, .ref zit, .ref zk, .int (bI itk)]))]) rfl rfl ?_
  refine j_ifB_ne (pc := 4) (tgt := 9) hX dX9_list_4 (by decide) (fun c4 => by exfalso; have := of_decide_eq_true c4; omega) (fun c4 => ?_)
  refine j_iconst (pc := 7) (v := (-1)) hX dX9_list_7 (by decide) ?_
  exact j_iret (pc := 8) hX hR dX9_list_8 ⟨rfl, rfl⟩
set_option maxHeartbeats 4000000 in
set_option maxRecDepth 100000 in
theorem c_X9_list_bad (G : GT) (md : Nat) (W : Nat) (H : Nat) (t : Int32) (m : Nat) (k : Nat) (zc : Nat) (zr : Nat) (zb : Nat) (z1 : Nat) (z2 : Nat) (z3 : Nat) (z4 : Nat) (z5 : Nat) (zm : Nat) (zmr : Nat) (zmb : Nat) (mt : Int32) (zca : Nat) (zcw : Nat) (c : Nat) (zg : Nat) (zt : Nat) (zs : Nat) (zf : Nat) (zy : Nat) (zso : Nat) (zsf : Nat) (zsm : Nat) (nt : Int32) (nsh : Int32) (ztp : Nat) (zrw : Nat) (zpp : Nat) (tn : Nat) (pn : Nat) (rdw : Int32) (rdh : Int32) (zsz : Nat) (zit : Nat) (zk : Nat) (itk : Bool) (li : Nat) (n : Int32) (hl : li < 4) (hn : 20 < n.toInt) (l : Launch) : CT l G yX9_list cX9_list 4 (some .int) { frames := 2, cells := 0, slots := 0, locals := 45 } [.ref md, .int (nI li), .int n] [(md, .inr (9, [.int (nI W), .int (nI H), .int t, .int (nI m), .int (nI k), .ref zc, .ref zr, .ref zb, .ref z1, .ref z2, .ref z3, .ref z4, .ref z5, .ref zm, .ref zmr, .ref zmb, .int mt, .ref zca, .ref zcw, .int (nI c), .ref zg, .ref zt, .ref zs, .ref zf, .ref zy, .ref zso, .ref zsf, .ref zsm, .int nt, .int nsh, .ref ztp, .ref zrw, .ref zpp, .int (nI tn), .int (nI pn), .int rdw, .int rdh, .ref zsz, .ref zit, .ref zk, .int (bI itk)]))] (fun vv ww => vv = some (.int (-2)) ∧ ww = [(md, .inr (9, [.int (nI W), .int (nI H), .int t, .int (nI m), .int (nI k), .ref zc, .ref zr, .ref zb, .ref z1, .ref z2, .ref z3, .ref z4, .ref z5, .ref zm, .ref zmr, .ref zmb, .int mt, .ref zca, .ref zcw, .int (nI c), .ref zg, .ref zt, .ref zs, .ref zf, .ref zy, .ref zso, .ref zsf, .ref zsm, .int nt, .int nsh, .ref ztp, .ref zrw, .ref zpp, .int (nI tn), .int (nI pn), .int rdw, .int rdh, .ref zsz, .ref zit, .ref zk, .int (bI itk)]))]) := by
  refine CT.of (lv := [(0, .ref md), (1, .int (nI li)), (2, .int n)]) RX9 "list" rfl rfl (by decide +kernel) (Nat.le_of_ble_eq_true rfl) rfl (fun X hX hR => ?_)
  refine j_iload_n (pc := 0) hX dX9_list_0 1 rfl ?_
  refine j_callS (pc := 1) hX kX9_isList kSX9_isList l_RX9_257 (fun l => c_X9_isList G (nI li)  l) [] [0] [] rfl rfl rfl rfl ⟨rfl, rfl, by decide⟩ rfl rfl (Nat.le_of_ble_eq_true rfl) dX9_list_1 (fun v w hq => ?_)
  obtain ⟨rfl, rfl⟩ := hq
  refine j_ws [0] (ws' := [(md, .inr (9, [.int (nI W), .int (nI H), .int t, .int (nI m), .int (nI k), .ref zc, .ref zr, .ref zb, .ref z1, .ref z2, .ref z3, .ref z4, .ref z5, .ref zm, .ref zmr, .ref zmb, .int mt, .ref zca, .ref zcw, .int (nI c), .ref zg, .ref zt, .ref zs, .ref zf, .ref zy, .ref zso, .ref zsf, .ref zsm, .int nt, .int nsh, .ref ztp, .ref zrw, .ref zpp, .int (nI tn), .int (nI pn), .int rdw, .int rdh, .ref zsz, .ref zit, .ref zk, .int (bI itk)]))]) rfl rfl ?_
  refine j_ifB_ne (pc := 4) (tgt := 9) hX dX9_list_4 (by decide) (fun c4 => ?_) (fun c4 => by rw [rng_t (x := nI li) (A := 0) (B := 3) (by rw [nI_toInt (by omega)]; omega)] at c4; cases c4)
  refine j_iload_n (pc := 9) hX dX9_list_9 2 rfl ?_
  refine j_bipush (pc := 10) (v := nI 20) hX dX9_list_10 (by decide) ?_
  refine j_icmp_le (pc := 12) (tgt := 18) hX dX9_list_12 (by decide) rfl (nI_toInt (n := 20) (by decide)) (fun c12 => by exfalso; omega) (fun c12 => ?_)
  refine j_bipush (pc := 15) (v := (-2)) hX dX9_list_15 (by decide) ?_
  exact j_iret (pc := 17) hX hR dX9_list_17 ⟨rfl, rfl⟩
set_option maxHeartbeats 4000000 in
set_option maxRecDepth 100000 in
theorem c_X9_list_neg (G : GT) (md : Nat) (W : Nat) (H : Nat) (t : Int32) (m : Nat) (k : Nat) (zc : Nat) (zr : Nat) (zb : Nat) (z1 : Nat) (z2 : Nat) (z3 : Nat) (z4 : Nat) (z5 : Nat) (zm : Nat) (zmr : Nat) (zmb : Nat) (mt : Int32) (zca : Nat) (zcw : Nat) (c : Nat) (zg : Nat) (zt : Nat) (zs : Nat) (zf : Nat) (zy : Nat) (zso : Nat) (zsf : Nat) (zsm : Nat) (nt : Int32) (nsh : Int32) (ztp : Nat) (zrw : Nat) (zpp : Nat) (tn : Nat) (pn : Nat) (rdw : Int32) (rdh : Int32) (zsz : Nat) (zit : Nat) (zk : Nat) (itk : Bool) (li : Nat) (n : Int32) (hl : li < 4) (hn : n.toInt < 0) (l : Launch) : CT l G yX9_list cX9_list 4 (some .int) { frames := 2, cells := 0, slots := 0, locals := 45 } [.ref md, .int (nI li), .int n] [(md, .inr (9, [.int (nI W), .int (nI H), .int t, .int (nI m), .int (nI k), .ref zc, .ref zr, .ref zb, .ref z1, .ref z2, .ref z3, .ref z4, .ref z5, .ref zm, .ref zmr, .ref zmb, .int mt, .ref zca, .ref zcw, .int (nI c), .ref zg, .ref zt, .ref zs, .ref zf, .ref zy, .ref zso, .ref zsf, .ref zsm, .int nt, .int nsh, .ref ztp, .ref zrw, .ref zpp, .int (nI tn), .int (nI pn), .int rdw, .int rdh, .ref zsz, .ref zit, .ref zk, .int (bI itk)]))] (fun vv ww => vv = some (.int (-14)) ∧ ww = [(md, .inr (9, [.int (nI W), .int (nI H), .int t, .int (nI m), .int (nI k), .ref zc, .ref zr, .ref zb, .ref z1, .ref z2, .ref z3, .ref z4, .ref z5, .ref zm, .ref zmr, .ref zmb, .int mt, .ref zca, .ref zcw, .int (nI c), .ref zg, .ref zt, .ref zs, .ref zf, .ref zy, .ref zso, .ref zsf, .ref zsm, .int nt, .int nsh, .ref ztp, .ref zrw, .ref zpp, .int (nI tn), .int (nI pn), .int rdw, .int rdh, .ref zsz, .ref zit, .ref zk, .int (bI itk)]))]) := by
  refine CT.of (lv := [(0, .ref md), (1, .int (nI li)), (2, .int n)]) RX9 "list" rfl rfl (by decide +kernel) (Nat.le_of_ble_eq_true rfl) rfl (fun X hX hR => ?_)
  refine j_iload_n (pc := 0) hX dX9_list_0 1 rfl ?_
  refine j_callS (pc := 1) hX kX9_isList kSX9_isList l_RX9_257 (fun l => c_X9_isList G (nI li)  l) [] [0] [] rfl rfl rfl rfl ⟨rfl, rfl, by decide⟩ rfl rfl (Nat.le_of_ble_eq_true rfl) dX9_list_1 (fun v w hq => ?_)
  obtain ⟨rfl, rfl⟩ := hq
  refine j_ws [0] (ws' := [(md, .inr (9, [.int (nI W), .int (nI H), .int t, .int (nI m), .int (nI k), .ref zc, .ref zr, .ref zb, .ref z1, .ref z2, .ref z3, .ref z4, .ref z5, .ref zm, .ref zmr, .ref zmb, .int mt, .ref zca, .ref zcw, .int (nI c), .ref zg, .ref zt, .ref zs, .ref zf, .ref zy, .ref zso, .ref zsf, .ref zsm, .int nt, .int nsh, .ref ztp, .ref zrw, .ref zpp, .int (nI tn), .int (nI pn), .int rdw, .int rdh, .ref zsz, .ref zit, .ref zk, .int (bI itk)]))]) rfl rfl ?_
  refine j_ifB_ne (pc := 4) (tgt := 9) hX dX9_list_4 (by decide) (fun c4 => ?_) (fun c4 => by rw [rng_t (x := nI li) (A := 0) (B := 3) (by rw [nI_toInt (by omega)]; omega)] at c4; cases c4)
  refine j_iload_n (pc := 9) hX dX9_list_9 2 rfl ?_
  refine j_bipush (pc := 10) (v := nI 20) hX dX9_list_10 (by decide) ?_
  refine j_icmp_le (pc := 12) (tgt := 18) hX dX9_list_12 (by decide) rfl (nI_toInt (n := 20) (by decide)) (fun c12 => ?_) (fun c12 => by exfalso; omega)
  refine j_iload_n (pc := 18) hX dX9_list_18 2 rfl ?_
  refine j_if_ge (pc := 19) (tgt := 25) hX dX9_list_19 (by decide) rfl (fun c19 => by exfalso; omega) (fun c19 => ?_)
  refine j_bipush (pc := 22) (v := (-14)) hX dX9_list_22 (by decide) ?_
  exact j_iret (pc := 24) hX hR dX9_list_24 ⟨rfl, rfl⟩
set_option maxHeartbeats 4000000 in
set_option maxRecDepth 100000 in
theorem c_X9_list_ok (G : GT) (md : Nat) (W : Nat) (H : Nat) (t : Int32) (m : Nat) (k : Nat) (zc : Nat) (zr : Nat) (zb : Nat) (z1 : Nat) (z2 : Nat) (z3 : Nat) (z4 : Nat) (z5 : Nat) (zm : Nat) (zmr : Nat) (zmb : Nat) (mt : Int32) (zca : Nat) (zcw : Nat) (c : Nat) (zg : Nat) (zt : Nat) (zs : Nat) (zf : Nat) (zy : Nat) (zso : Nat) (zsf : Nat) (zsm : Nat) (nt : Int32) (nsh : Int32) (ztp : Nat) (zrw : Nat) (zpp : Nat) (tn : Nat) (pn : Nat) (rdw : Int32) (rdh : Int32) (zsz : Nat) (zit : Nat) (zk : Nat) (itk : Bool) (sz : Nat → Int32) (II : Nat → Nat → Int64) (li : Nat) (n : Nat) (hl : li < 4) (hn : n ≤ 20) (l : Launch) : CT l G yX9_list cX9_list 4 (some .int) { frames := 2, cells := 0, slots := 0, locals := 45 } [.ref md, .int (nI li), .int (nI n)] [(md, .inr (9, [.int (nI W), .int (nI H), .int t, .int (nI m), .int (nI k), .ref zc, .ref zr, .ref zb, .ref z1, .ref z2, .ref z3, .ref z4, .ref z5, .ref zm, .ref zmr, .ref zmb, .int mt, .ref zca, .ref zcw, .int (nI c), .ref zg, .ref zt, .ref zs, .ref zf, .ref zy, .ref zso, .ref zsf, .ref zsm, .int nt, .int nsh, .ref ztp, .ref zrw, .ref zpp, .int (nI tn), .int (nI pn), .int rdw, .int rdh, .ref zsz, .ref zit, .ref zk, .int (bI itk)])), (zsz, ia G 4 sz), (zit, la G 80 (itF II))] (fun vv ww => vv = some (.int (nI 1)) ∧ ww = [(md, .inr (9, [.int (nI W), .int (nI H), .int t, .int (nI m), .int (nI k), .ref zc, .ref zr, .ref zb, .ref z1, .ref z2, .ref z3, .ref z4, .ref z5, .ref zm, .ref zmr, .ref zmb, .int mt, .ref zca, .ref zcw, .int (nI c), .ref zg, .ref zt, .ref zs, .ref zf, .ref zy, .ref zso, .ref zsf, .ref zsm, .int nt, .int nsh, .ref ztp, .ref zrw, .ref zpp, .int (nI tn), .int (nI pn), .int rdw, .int rdh, .ref zsz, .ref zit, .ref zk, .int (bI itk)])), (zsz, ia G 4 (upd sz li (nI n))), (zit, la G 80 (itF (updA II li (fun _ => 0))))]) := by
  refine CT.of (lv := [(0, .ref md), (1, .int (nI li)), (2, .int (nI n))]) RX9 "list" rfl rfl (by decide +kernel) (Nat.le_of_ble_eq_true rfl) rfl (fun X hX hR => ?_)
  refine j_iload_n (pc := 0) hX dX9_list_0 1 rfl ?_
  refine j_callS (pc := 1) hX kX9_isList kSX9_isList l_RX9_257 (fun l => c_X9_isList G (nI li)  l) [] [0, 1, 2] [] rfl rfl rfl rfl ⟨rfl, rfl, by decide⟩ rfl rfl (Nat.le_of_ble_eq_true rfl) dX9_list_1 (fun v w hq => ?_)
  obtain ⟨rfl, rfl⟩ := hq
  refine j_ws [0, 1, 2] (ws' := [(md, .inr (9, [.int (nI W), .int (nI H), .int t, .int (nI m), .int (nI k), .ref zc, .ref zr, .ref zb, .ref z1, .ref z2, .ref z3, .ref z4, .ref z5, .ref zm, .ref zmr, .ref zmb, .int mt, .ref zca, .ref zcw, .int (nI c), .ref zg, .ref zt, .ref zs, .ref zf, .ref zy, .ref zso, .ref zsf, .ref zsm, .int nt, .int nsh, .ref ztp, .ref zrw, .ref zpp, .int (nI tn), .int (nI pn), .int rdw, .int rdh, .ref zsz, .ref zit, .ref zk, .int (bI itk)])), (zsz, ia G 4 sz), (zit, la G 80 (itF II))]) rfl rfl ?_
  refine j_ifB_ne (pc := 4) (tgt := 9) hX dX9_list_4 (by decide) (fun c4 => ?_) (fun c4 => by rw [rng_t (x := nI li) (A := 0) (B := 3) (by rw [nI_toInt (by omega)]; omega)] at c4; cases c4)
  refine j_iload_n (pc := 9) hX dX9_list_9 2 rfl ?_
  refine j_bipush (pc := 10) (v := nI 20) hX dX9_list_10 (by decide) ?_
  refine j_icmp_le (pc := 12) (tgt := 18) hX dX9_list_12 (by decide) (nI_toInt (n := n) (by omega)) (nI_toInt (n := 20) (by decide)) (fun c12 => ?_) (fun c12 => by exfalso; omega)
  refine j_iload_n (pc := 18) hX dX9_list_18 2 rfl ?_
  refine j_if_ge (pc := 19) (tgt := 25) hX dX9_list_19 (by decide) (nI_toInt (n := n) (by omega)) (fun c19 => ?_) (fun c19 => by exfalso; omega)
  refine j_aload_n (pc := 25) hX dX9_list_25 0 rfl ?_
  refine j_get (pc := 26) hX f_RX9_91 0 rfl rfl dX9_list_26 ?_
  refine j_iload_n (pc := 29) hX dX9_list_29 1 rfl ?_
  refine j_iload_n (pc := 30) hX dX9_list_30 2 rfl ?_
  refine j_iastN (pc := 31) (j := li) (ws' := [(md, .inr (9, [.int (nI W), .int (nI H), .int t, .int (nI m), .int (nI k), .ref zc, .ref zr, .ref zb, .ref z1, .ref z2, .ref z3, .ref z4, .ref z5, .ref zm, .ref zmr, .ref zmb, .int mt, .ref zca, .ref zcw, .int (nI c), .ref zg, .ref zt, .ref zs, .ref zf, .ref zy, .ref zso, .ref zsf, .ref zsm, .int nt, .int nsh, .ref ztp, .ref zrw, .ref zpp, .int (nI tn), .int (nI pn), .int rdw, .int rdh, .ref zsz, .ref zit, .ref zk, .int (bI itk)])), (zsz, ia G 4 (upd sz li (nI n))), (zit, la G 80 (itF II))]) hX 1 rfl (by omega) (by omega) rfl dX9_list_31 ?_
  refine j_iconstN (pc := 32) (j := 0) hX dX9_list_32 rfl ?_
  refine j_istore_n (pc := 33) (lv' := [(3, .int (nI 0)), (0, .ref md), (1, .int (nI li)), (2, .int (nI n))]) hX dX9_list_33 (by decide) rfl ?_
  have L34 : ∀ (m34 : Nat) (y : Nat) (its3 : Nat → Int64) (hy : y ≤ 20) (h1 : ∀ w, w < y → its3 (20 * li + w) = 0) (h2 : ∀ w, w / 20 ≠ li → its3 w = itF II w), 20 - y < m34 → J X G 4 0 0 [(md, .inr (9, [.int (nI W), .int (nI H), .int t, .int (nI m), .int (nI k), .ref zc, .ref zr, .ref zb, .ref z1, .ref z2, .ref z3, .ref z4, .ref z5, .ref zm, .ref zmr, .ref zmb, .int mt, .ref zca, .ref zcw, .int (nI c), .ref zg, .ref zt, .ref zs, .ref zf, .ref zy, .ref zso, .ref zsf, .ref zsm, .int nt, .int nsh, .ref ztp, .ref zrw, .ref zpp, .int (nI tn), .int (nI pn), .int rdw, .int rdh, .ref zsz, .ref zit, .ref zk, .int (bI itk)])), (zsz, ia G 4 (upd sz li (nI n))), (zit, la G 80 its3)] [(0, .ref md), (1, .int (nI li)), (2, .int (nI n)), (3, .int (nI y))] 34 [] := by
    intro m34
    induction m34 with
    | zero => intro y its3 hy h1 h2 hm34; exact absurd hm34 (Nat.not_lt_zero _)
    | succ m34 ih34 =>
      intro y its3 hy h1 h2 hm34
      refine j_iload_n (pc := 34) hX dX9_list_34 3 rfl ?_
      refine j_bipush (pc := 35) (v := nI 20) hX dX9_list_35 (by decide) ?_
      refine j_icmp_ge (pc := 37) (tgt := 58) hX dX9_list_37 (by decide) (nI_toInt (n := y) (by omega)) (nI_toInt (n := 20) (by decide)) (fun c37 => ?_) (fun c37 => ?_)
      · skip
        refine j_iconstN (pc := 58) (j := 1) hX dX9_list_58 rfl ?_
        refine j_la (q0 := 2) (f := its3) (g := itF (updA II li (fun _ => 0))) rfl (fun z hz => by exact zero20 (fun w hw => h1 w (by omega)) h2 z) (ws' := [(md, .inr (9, [.int (nI W), .int (nI H), .int t, .int (nI m), .int (nI k), .ref zc, .ref zr, .ref zb, .ref z1, .ref z2, .ref z3, .ref z4, .ref z5, .ref zm, .ref zmr, .ref zmb, .int mt, .ref zca, .ref zcw, .int (nI c), .ref zg, .ref zt, .ref zs, .ref zf, .ref zy, .ref zso, .ref zsf, .ref zsm, .int nt, .int nsh, .ref ztp, .ref zrw, .ref zpp, .int (nI tn), .int (nI pn), .int rdw, .int rdh, .ref zsz, .ref zit, .ref zk, .int (bI itk)])), (zsz, ia G 4 (upd sz li (nI n))), (zit, la G 80 (itF (updA II li (fun _ => 0))))]) rfl ?_
        exact j_iret (pc := 59) hX hR dX9_list_59 ⟨rfl, rfl⟩
      · skip
        refine j_aload_n (pc := 40) hX dX9_list_40 0 rfl ?_
        refine j_get (pc := 41) hX f_RX9_94 0 rfl rfl dX9_list_41 ?_
        refine j_bipush (pc := 44) (v := nI 20) hX dX9_list_44 (by decide) ?_
        refine j_iload_n (pc := 46) hX dX9_list_46 1 rfl ?_
        refine j_imul (pc := 47) hX dX9_list_47 ?_
        refine j_topi (y := nI (20 * li)) (pk_mul _ _) ?_
        refine j_iload_n (pc := 48) hX dX9_list_48 3 rfl ?_
        refine j_iadd (pc := 49) hX dX9_list_49 ?_
        refine j_topi (y := nI (20 * li + y)) (nI_add _ _) ?_
        refine j_lconst (pc := 50) (v := 0) hX dX9_list_50 (by decide) ?_
        refine j_last (pc := 51) (j := 20 * li + y) (ws' := [(md, .inr (9, [.int (nI W), .int (nI H), .int t, .int (nI m), .int (nI k), .ref zc, .ref zr, .ref zb, .ref z1, .ref z2, .ref z3, .ref z4, .ref z5, .ref zm, .ref zmr, .ref zmb, .int mt, .ref zca, .ref zcw, .int (nI c), .ref zg, .ref zt, .ref zs, .ref zf, .ref zy, .ref zso, .ref zsf, .ref zsm, .int nt, .int nsh, .ref ztp, .ref zrw, .ref zpp, .int (nI tn), .int (nI pn), .int rdw, .int rdh, .ref zsz, .ref zit, .ref zk, .int (bI itk)])), (zsz, ia G 4 (upd sz li (nI n))), (zit, la G 80 (vp_updL its3 (20 * li + y) 0))]) hX 2 rfl (by omega) (by omega) rfl dX9_list_51 ?_
        refine j_iinc (pc := 52) (q := 3) (v := nI (y + 1)) (lv' := [(3, .int (nI (y + 1))), (0, .ref md), (1, .int (nI li)), (2, .int (nI n))]) hX dX9_list_52 rfl (nI_inc _ 1) (by decide) rfl ?_
        refine j_goto (pc := 55) (tgt := 34) hX dX9_list_55 (by decide) ?_
        refine j_lv [1, 2, 3, 0] (lv' := [(0, .ref md), (1, .int (nI li)), (2, .int (nI n)), (3, .int (nI (y + 1)))]) rfl ?_
        exact ih34 (y + 1) (vp_updL its3 (20 * li + y) 0) (by omega) (fun w hw => by unfold vp_updL; split; rfl; exact h1 w (by omega)) (fun w hw => by unfold vp_updL; rw [if_neg (by omega)]; exact h2 w hw) (by omega)
  refine j_lv [1, 2, 3, 0] (lv' := [(0, .ref md), (1, .int (nI li)), (2, .int (nI n)), (3, .int (nI 0))]) rfl ?_
  exact L34 ((20 - 0) + 1) 0 (itF II) (by omega) (fun w hw => absurd hw (Nat.not_lt_zero _)) (fun _ _ => rfl) (Nat.lt_succ_self _)
set_option maxHeartbeats 4000000 in
set_option maxRecDepth 100000 in
theorem c_X9_set_none (G : GT) (md : Nat) (W : Nat) (H : Nat) (t : Int32) (m : Nat) (k : Nat) (zc : Nat) (zr : Nat) (zb : Nat) (z1 : Nat) (z2 : Nat) (z3 : Nat) (z4 : Nat) (z5 : Nat) (zm : Nat) (zmr : Nat) (zmb : Nat) (mt : Int32) (zca : Nat) (zcw : Nat) (c : Nat) (zg : Nat) (zt : Nat) (zs : Nat) (zf : Nat) (zy : Nat) (zso : Nat) (zsf : Nat) (zsm : Nat) (nt : Int32) (nsh : Int32) (ztp : Nat) (zrw : Nat) (zpp : Nat) (tn : Nat) (pn : Nat) (rdw : Int32) (rdh : Int32) (zsz : Nat) (zit : Nat) (zk : Nat) (itk : Bool) (li i : Int32) (v : Int64) (hl : li.toInt < 0 ∨ 4 ≤ li.toInt) (l : Launch) : CT l G yX9_set cX9_set 5 (some .int) { frames := 2, cells := 0, slots := 0, locals := 48 } [.ref md, .int li, .int i, .long v] [(md, .inr (9, [.int (nI W), .int (nI H), .int t, .int (nI m), .int (nI k), .ref zc, .ref zr, .ref zb, .ref z1, .ref z2, .ref z3, .ref z4, .ref z5, .ref zm, .ref zmr, .ref zmb, .int mt, .ref zca, .ref zcw, .int (nI c), .ref zg, .ref zt, .ref zs, .ref zf, .ref zy, .ref zso, .ref zsf, .ref zsm, .int nt, .int nsh, .ref ztp, .ref zrw, .ref zpp, .int (nI tn), .int (nI pn), .int rdw, .int rdh, .ref zsz, .ref zit, .ref zk, .int (bI itk)]))] (fun vv ww => vv = some (.int (-1)) ∧ ww = [(md, .inr (9, [.int (nI W), .int (nI H), .int t, .int (nI m), .int (nI k), .ref zc, .ref zr, .ref zb, .ref z1, .ref z2, .ref z3, .ref z4, .ref z5, .ref zm, .ref zmr, .ref zmb, .int mt, .ref zca, .ref zcw, .int (nI c), .ref zg, .ref zt, .ref zs, .ref zf, .ref zy, .ref zso, .ref zsf, .ref zsm, .int nt, .int nsh, .ref ztp, .ref zrw, .ref zpp, .int (nI tn), .int (nI pn), .int rdw, .int rdh, .ref zsz, .ref zit, .ref zk, .int (bI itk)]))]) := by
  refine CT.of (lv := [(0, .ref md), (1, .int li), (2, .int i), (3, .long v)]) RX9 "set" rfl rfl (by decide +kernel) (Nat.le_of_ble_eq_true rfl) rfl (fun X hX hR => ?_)
  refine j_iload_n (pc := 0) hX dX9_set_0 1 rfl ?_
  refine j_callS (pc := 1) hX kX9_isList kSX9_isList l_RX9_257 (fun l => c_X9_isList G li  l) [] [0] [] rfl rfl rfl rfl ⟨rfl, rfl, by decide⟩ rfl rfl (Nat.le_of_ble_eq_true rfl) dX9_set_1 (fun v w hq => ?_)
  obtain ⟨rfl, rfl⟩ := hq
  refine j_ws [0] (ws' := [(md, .inr (9, [.int (nI W), .int (nI H), .int t, .int (nI m), .int (nI k), .ref zc, .ref zr, .ref zb, .ref z1, .ref z2, .ref z3, .ref z4, .ref z5, .ref zm, .ref zmr, .ref zmb, .int mt, .ref zca, .ref zcw, .int (nI c), .ref zg, .ref zt, .ref zs, .ref zf, .ref zy, .ref zso, .ref zsf, .ref zsm, .int nt, .int nsh, .ref ztp, .ref zrw, .ref zpp, .int (nI tn), .int (nI pn), .int rdw, .int rdh, .ref zsz, .ref zit, .ref zk, .int (bI itk)]))]) rfl rfl ?_
  refine j_ifB_ne (pc := 4) (tgt := 9) hX dX9_set_4 (by decide) (fun c4 => by exfalso; have := of_decide_eq_true c4; omega) (fun c4 => ?_)
  refine j_iconst (pc := 7) (v := (-1)) hX dX9_set_7 (by decide) ?_
  exact j_iret (pc := 8) hX hR dX9_set_8 ⟨rfl, rfl⟩
set_option maxHeartbeats 4000000 in
set_option maxRecDepth 100000 in
theorem c_X9_set_nothing (G : GT) (md : Nat) (W : Nat) (H : Nat) (t : Int32) (m : Nat) (k : Nat) (zc : Nat) (zr : Nat) (zb : Nat) (z1 : Nat) (z2 : Nat) (z3 : Nat) (z4 : Nat) (z5 : Nat) (zm : Nat) (zmr : Nat) (zmb : Nat) (mt : Int32) (zca : Nat) (zcw : Nat) (c : Nat) (zg : Nat) (zt : Nat) (zs : Nat) (zf : Nat) (zy : Nat) (zso : Nat) (zsf : Nat) (zsm : Nat) (nt : Int32) (nsh : Int32) (ztp : Nat) (zrw : Nat) (zpp : Nat) (tn : Nat) (pn : Nat) (rdw : Int32) (rdh : Int32) (zsz : Nat) (zit : Nat) (zk : Nat) (itk : Bool) (sz : Nat → Int32) (li : Nat) (i : Int32) (v : Int64) (hl : li < 4) (hm : (sz li).toInt < 0) (l : Launch) : CT l G yX9_set cX9_set 5 (some .int) { frames := 2, cells := 0, slots := 0, locals := 48 } [.ref md, .int (nI li), .int i, .long v] [(md, .inr (9, [.int (nI W), .int (nI H), .int t, .int (nI m), .int (nI k), .ref zc, .ref zr, .ref zb, .ref z1, .ref z2, .ref z3, .ref z4, .ref z5, .ref zm, .ref zmr, .ref zmb, .int mt, .ref zca, .ref zcw, .int (nI c), .ref zg, .ref zt, .ref zs, .ref zf, .ref zy, .ref zso, .ref zsf, .ref zsm, .int nt, .int nsh, .ref ztp, .ref zrw, .ref zpp, .int (nI tn), .int (nI pn), .int rdw, .int rdh, .ref zsz, .ref zit, .ref zk, .int (bI itk)])), (zsz, ia G 4 sz)] (fun vv ww => vv = some (.int (-11)) ∧ ww = [(md, .inr (9, [.int (nI W), .int (nI H), .int t, .int (nI m), .int (nI k), .ref zc, .ref zr, .ref zb, .ref z1, .ref z2, .ref z3, .ref z4, .ref z5, .ref zm, .ref zmr, .ref zmb, .int mt, .ref zca, .ref zcw, .int (nI c), .ref zg, .ref zt, .ref zs, .ref zf, .ref zy, .ref zso, .ref zsf, .ref zsm, .int nt, .int nsh, .ref ztp, .ref zrw, .ref zpp, .int (nI tn), .int (nI pn), .int rdw, .int rdh, .ref zsz, .ref zit, .ref zk, .int (bI itk)])), (zsz, ia G 4 sz)]) := by
  refine CT.of (lv := [(0, .ref md), (1, .int (nI li)), (2, .int i), (3, .long v)]) RX9 "set" rfl rfl (by decide +kernel) (Nat.le_of_ble_eq_true rfl) rfl (fun X hX hR => ?_)
  refine j_iload_n (pc := 0) hX dX9_set_0 1 rfl ?_
  refine j_callS (pc := 1) hX kX9_isList kSX9_isList l_RX9_257 (fun l => c_X9_isList G (nI li)  l) [] [0, 1] [] rfl rfl rfl rfl ⟨rfl, rfl, by decide⟩ rfl rfl (Nat.le_of_ble_eq_true rfl) dX9_set_1 (fun v w hq => ?_)
  obtain ⟨rfl, rfl⟩ := hq
  refine j_ws [0, 1] (ws' := [(md, .inr (9, [.int (nI W), .int (nI H), .int t, .int (nI m), .int (nI k), .ref zc, .ref zr, .ref zb, .ref z1, .ref z2, .ref z3, .ref z4, .ref z5, .ref zm, .ref zmr, .ref zmb, .int mt, .ref zca, .ref zcw, .int (nI c), .ref zg, .ref zt, .ref zs, .ref zf, .ref zy, .ref zso, .ref zsf, .ref zsm, .int nt, .int nsh, .ref ztp, .ref zrw, .ref zpp, .int (nI tn), .int (nI pn), .int rdw, .int rdh, .ref zsz, .ref zit, .ref zk, .int (bI itk)])), (zsz, ia G 4 sz)]) rfl rfl ?_
  refine j_ifB_ne (pc := 4) (tgt := 9) hX dX9_set_4 (by decide) (fun c4 => ?_) (fun c4 => by rw [rng_t (x := nI li) (A := 0) (B := 3) (by rw [nI_toInt (by omega)]; omega)] at c4; cases c4)
  refine j_aload_n (pc := 9) hX dX9_set_9 0 rfl ?_
  refine j_get (pc := 10) hX f_RX9_91 0 rfl rfl dX9_set_10 ?_
  refine j_iload_n (pc := 13) hX dX9_set_13 1 rfl ?_
  refine j_ialdN (pc := 14) (j := li) hX 1 rfl (by omega) (by omega) dX9_set_14 ?_
  refine j_if_ge (pc := 15) (tgt := 21) hX dX9_set_15 (by decide) rfl (fun c15 => by exfalso; omega) (fun c15 => ?_)
  refine j_bipush (pc := 18) (v := (-11)) hX dX9_set_18 (by decide) ?_
  exact j_iret (pc := 20) hX hR dX9_set_20 ⟨rfl, rfl⟩
set_option maxHeartbeats 4000000 in
set_option maxRecDepth 100000 in
theorem c_X9_set_place (G : GT) (md : Nat) (W : Nat) (H : Nat) (t : Int32) (m : Nat) (k : Nat) (zc : Nat) (zr : Nat) (zb : Nat) (z1 : Nat) (z2 : Nat) (z3 : Nat) (z4 : Nat) (z5 : Nat) (zm : Nat) (zmr : Nat) (zmb : Nat) (mt : Int32) (zca : Nat) (zcw : Nat) (c : Nat) (zg : Nat) (zt : Nat) (zs : Nat) (zf : Nat) (zy : Nat) (zso : Nat) (zsf : Nat) (zsm : Nat) (nt : Int32) (nsh : Int32) (ztp : Nat) (zrw : Nat) (zpp : Nat) (tn : Nat) (pn : Nat) (rdw : Int32) (rdh : Int32) (zsz : Nat) (zit : Nat) (zk : Nat) (itk : Bool) (sz : Nat → Int32) (li : Nat) (mm : Nat) (i : Int32) (v : Int64) (hl : li < 4) (hsz : sz li = nI mm) (hmm : mm ≤ 20) (hi : i.toInt < 0 ∨ (mm : Int) ≤ i.toInt) (l : Launch) : CT l G yX9_set cX9_set 5 (some .int) { frames := 2, cells := 0, slots := 0, locals := 48 } [.ref md, .int (nI li), .int i, .long v] [(md, .inr (9, [.int (nI W), .int (nI H), .int t, .int (nI m), .int (nI k), .ref zc, .ref zr, .ref zb, .ref z1, .ref z2, .ref z3, .ref z4, .ref z5, .ref zm, .ref zmr, .ref zmb, .int mt, .ref zca, .ref zcw, .int (nI c), .ref zg, .ref zt, .ref zs, .ref zf, .ref zy, .ref zso, .ref zsf, .ref zsm, .int nt, .int nsh, .ref ztp, .ref zrw, .ref zpp, .int (nI tn), .int (nI pn), .int rdw, .int rdh, .ref zsz, .ref zit, .ref zk, .int (bI itk)])), (zsz, ia G 4 sz)] (fun vv ww => vv = some (.int (-13)) ∧ ww = [(md, .inr (9, [.int (nI W), .int (nI H), .int t, .int (nI m), .int (nI k), .ref zc, .ref zr, .ref zb, .ref z1, .ref z2, .ref z3, .ref z4, .ref z5, .ref zm, .ref zmr, .ref zmb, .int mt, .ref zca, .ref zcw, .int (nI c), .ref zg, .ref zt, .ref zs, .ref zf, .ref zy, .ref zso, .ref zsf, .ref zsm, .int nt, .int nsh, .ref ztp, .ref zrw, .ref zpp, .int (nI tn), .int (nI pn), .int rdw, .int rdh, .ref zsz, .ref zit, .ref zk, .int (bI itk)])), (zsz, ia G 4 sz)]) := by
  refine CT.of (lv := [(0, .ref md), (1, .int (nI li)), (2, .int i), (3, .long v)]) RX9 "set" rfl rfl (by decide +kernel) (Nat.le_of_ble_eq_true rfl) rfl (fun X hX hR => ?_)
  have hsz2 : (sz li).toInt = mm := by rw [hsz, nI_toInt (by omega)]
  refine j_iload_n (pc := 0) hX dX9_set_0 1 rfl ?_
  refine j_callS (pc := 1) hX kX9_isList kSX9_isList l_RX9_257 (fun l => c_X9_isList G (nI li)  l) [] [0, 1] [] rfl rfl rfl rfl ⟨rfl, rfl, by decide⟩ rfl rfl (Nat.le_of_ble_eq_true rfl) dX9_set_1 (fun v w hq => ?_)
  obtain ⟨rfl, rfl⟩ := hq
  refine j_ws [0, 1] (ws' := [(md, .inr (9, [.int (nI W), .int (nI H), .int t, .int (nI m), .int (nI k), .ref zc, .ref zr, .ref zb, .ref z1, .ref z2, .ref z3, .ref z4, .ref z5, .ref zm, .ref zmr, .ref zmb, .int mt, .ref zca, .ref zcw, .int (nI c), .ref zg, .ref zt, .ref zs, .ref zf, .ref zy, .ref zso, .ref zsf, .ref zsm, .int nt, .int nsh, .ref ztp, .ref zrw, .ref zpp, .int (nI tn), .int (nI pn), .int rdw, .int rdh, .ref zsz, .ref zit, .ref zk, .int (bI itk)])), (zsz, ia G 4 sz)]) rfl rfl ?_
  refine j_ifB_ne (pc := 4) (tgt := 9) hX dX9_set_4 (by decide) (fun c4 => ?_) (fun c4 => by rw [rng_t (x := nI li) (A := 0) (B := 3) (by rw [nI_toInt (by omega)]; omega)] at c4; cases c4)
  refine j_aload_n (pc := 9) hX dX9_set_9 0 rfl ?_
  refine j_get (pc := 10) hX f_RX9_91 0 rfl rfl dX9_set_10 ?_
  refine j_iload_n (pc := 13) hX dX9_set_13 1 rfl ?_
  refine j_ialdN (pc := 14) (j := li) hX 1 rfl (by omega) (by omega) dX9_set_14 ?_
  refine j_if_ge (pc := 15) (tgt := 21) hX dX9_set_15 (by decide) rfl (fun c15 => ?_) (fun c15 => by exfalso; omega)
  refine j_aload_n (pc := 21) hX dX9_set_21 0 rfl ?_
  refine j_iload_n (pc := 22) hX dX9_set_22 1 rfl ?_
  refine j_iload_n (pc := 23) hX dX9_set_23 2 rfl ?_
  refine j_i2l (pc := 24) hX dX9_set_24 ?_
  refine j_callV (pc := 25) hX kX9_isPlace kVX9_isPlace l_RX9_260 (fun l => c_X9_isPlace G md W H t m k zc zr zb z1 z2 z3 z4 z5 zm zmr zmb mt zca zcw c zg zt zs zf zy zso zsf zsm nt nsh ztp zrw zpp tn pn rdw rdh zsz zit zk itk sz li i.toInt64 i.toInt (by omega) (by first | assumption | omega) (toL _) l) [0, 1] [] [] rfl 0 9 rfl rfl rfl rfl rfl rfl ⟨rfl, rfl, by decide⟩ rfl rfl (Nat.le_of_ble_eq_true rfl) dX9_set_25 (fun v w hq => ?_)
  obtain ⟨rfl, rfl⟩ := hq
  refine j_ws [0, 1] (ws' := [(md, .inr (9, [.int (nI W), .int (nI H), .int t, .int (nI m), .int (nI k), .ref zc, .ref zr, .ref zb, .ref z1, .ref z2, .ref z3, .ref z4, .ref z5, .ref zm, .ref zmr, .ref zmb, .int mt, .ref zca, .ref zcw, .int (nI c), .ref zg, .ref zt, .ref zs, .ref zf, .ref zy, .ref zso, .ref zsf, .ref zsm, .int nt, .int nsh, .ref ztp, .ref zrw, .ref zpp, .int (nI tn), .int (nI pn), .int rdw, .int rdh, .ref zsz, .ref zit, .ref zk, .int (bI itk)])), (zsz, ia G 4 sz)]) rfl rfl ?_
  refine j_ifB_ne (pc := 28) (tgt := 34) hX dX9_set_28 (by decide) (fun c28 => by exfalso; have := of_decide_eq_true c28; omega) (fun c28 => ?_)
  refine j_bipush (pc := 31) (v := (-13)) hX dX9_set_31 (by decide) ?_
  exact j_iret (pc := 33) hX hR dX9_set_33 ⟨rfl, rfl⟩
set_option maxHeartbeats 4000000 in
set_option maxRecDepth 100000 in
theorem c_X9_set_ok (G : GT) (md : Nat) (W : Nat) (H : Nat) (t : Int32) (m : Nat) (k : Nat) (zc : Nat) (zr : Nat) (zb : Nat) (z1 : Nat) (z2 : Nat) (z3 : Nat) (z4 : Nat) (z5 : Nat) (zm : Nat) (zmr : Nat) (zmb : Nat) (mt : Int32) (zca : Nat) (zcw : Nat) (c : Nat) (zg : Nat) (zt : Nat) (zs : Nat) (zf : Nat) (zy : Nat) (zso : Nat) (zsf : Nat) (zsm : Nat) (nt : Int32) (nsh : Int32) (ztp : Nat) (zrw : Nat) (zpp : Nat) (tn : Nat) (pn : Nat) (rdw : Int32) (rdh : Int32) (zsz : Nat) (zit : Nat) (zk : Nat) (itk : Bool) (sz : Nat → Int32) (II : Nat → Nat → Int64) (li : Nat) (mm i : Nat) (v : Int64) (hl : li < 4) (hsz : sz li = nI mm) (hmm : mm ≤ 20) (hi : i < mm) (l : Launch) : CT l G yX9_set cX9_set 5 (some .int) { frames := 2, cells := 0, slots := 0, locals := 48 } [.ref md, .int (nI li), .int (nI i), .long v] [(md, .inr (9, [.int (nI W), .int (nI H), .int t, .int (nI m), .int (nI k), .ref zc, .ref zr, .ref zb, .ref z1, .ref z2, .ref z3, .ref z4, .ref z5, .ref zm, .ref zmr, .ref zmb, .int mt, .ref zca, .ref zcw, .int (nI c), .ref zg, .ref zt, .ref zs, .ref zf, .ref zy, .ref zso, .ref zsf, .ref zsm, .int nt, .int nsh, .ref ztp, .ref zrw, .ref zpp, .int (nI tn), .int (nI pn), .int rdw, .int rdh, .ref zsz, .ref zit, .ref zk, .int (bI itk)])), (zsz, ia G 4 sz), (zit, la G 80 (itF II))] (fun vv ww => vv = some (.int (nI 1)) ∧ ww = [(md, .inr (9, [.int (nI W), .int (nI H), .int t, .int (nI m), .int (nI k), .ref zc, .ref zr, .ref zb, .ref z1, .ref z2, .ref z3, .ref z4, .ref z5, .ref zm, .ref zmr, .ref zmb, .int mt, .ref zca, .ref zcw, .int (nI c), .ref zg, .ref zt, .ref zs, .ref zf, .ref zy, .ref zso, .ref zsf, .ref zsm, .int nt, .int nsh, .ref ztp, .ref zrw, .ref zpp, .int (nI tn), .int (nI pn), .int rdw, .int rdh, .ref zsz, .ref zit, .ref zk, .int (bI itk)])), (zsz, ia G 4 sz), (zit, la G 80 (itF (updA II li (vp_updL (II li) i v))))]) := by
  refine CT.of (lv := [(0, .ref md), (1, .int (nI li)), (2, .int (nI i)), (3, .long v)]) RX9 "set" rfl rfl (by decide +kernel) (Nat.le_of_ble_eq_true rfl) rfl (fun X hX hR => ?_)
  have hsz2 : (sz li).toInt = mm := by rw [hsz, nI_toInt (by omega)]
  refine j_iload_n (pc := 0) hX dX9_set_0 1 rfl ?_
  refine j_callS (pc := 1) hX kX9_isList kSX9_isList l_RX9_257 (fun l => c_X9_isList G (nI li)  l) [] [0, 1, 2] [] rfl rfl rfl rfl ⟨rfl, rfl, by decide⟩ rfl rfl (Nat.le_of_ble_eq_true rfl) dX9_set_1 (fun v w hq => ?_)
  obtain ⟨rfl, rfl⟩ := hq
  refine j_ws [0, 1, 2] (ws' := [(md, .inr (9, [.int (nI W), .int (nI H), .int t, .int (nI m), .int (nI k), .ref zc, .ref zr, .ref zb, .ref z1, .ref z2, .ref z3, .ref z4, .ref z5, .ref zm, .ref zmr, .ref zmb, .int mt, .ref zca, .ref zcw, .int (nI c), .ref zg, .ref zt, .ref zs, .ref zf, .ref zy, .ref zso, .ref zsf, .ref zsm, .int nt, .int nsh, .ref ztp, .ref zrw, .ref zpp, .int (nI tn), .int (nI pn), .int rdw, .int rdh, .ref zsz, .ref zit, .ref zk, .int (bI itk)])), (zsz, ia G 4 sz), (zit, la G 80 (itF II))]) rfl rfl ?_
  refine j_ifB_ne (pc := 4) (tgt := 9) hX dX9_set_4 (by decide) (fun c4 => ?_) (fun c4 => by rw [rng_t (x := nI li) (A := 0) (B := 3) (by rw [nI_toInt (by omega)]; omega)] at c4; cases c4)
  refine j_aload_n (pc := 9) hX dX9_set_9 0 rfl ?_
  refine j_get (pc := 10) hX f_RX9_91 0 rfl rfl dX9_set_10 ?_
  refine j_iload_n (pc := 13) hX dX9_set_13 1 rfl ?_
  refine j_ialdN (pc := 14) (j := li) hX 1 rfl (by omega) (by omega) dX9_set_14 ?_
  refine j_if_ge (pc := 15) (tgt := 21) hX dX9_set_15 (by decide) rfl (fun c15 => ?_) (fun c15 => by exfalso; omega)
  refine j_aload_n (pc := 21) hX dX9_set_21 0 rfl ?_
  refine j_iload_n (pc := 22) hX dX9_set_22 1 rfl ?_
  refine j_iload_n (pc := 23) hX dX9_set_23 2 rfl ?_
  refine j_i2l (pc := 24) hX dX9_set_24 ?_
  refine j_callV (pc := 25) hX kX9_isPlace kVX9_isPlace l_RX9_260 (fun l => c_X9_isPlace G md W H t m k zc zr zb z1 z2 z3 z4 z5 zm zmr zmb mt zca zcw c zg zt zs zf zy zso zsf zsm nt nsh ztp zrw zpp tn pn rdw rdh zsz zit zk itk sz li ((nI i).toInt64) ((i : Nat) : Int) (by omega) (by first | assumption | omega) ((toL _).trans (nI_toInt (by omega))) l) [0, 1] [2] [] rfl 0 9 rfl rfl rfl rfl rfl rfl ⟨rfl, rfl, by decide⟩ rfl rfl (Nat.le_of_ble_eq_true rfl) dX9_set_25 (fun v w hq => ?_)
  obtain ⟨rfl, rfl⟩ := hq
  refine j_ws [1, 2, 0] (ws' := [(md, .inr (9, [.int (nI W), .int (nI H), .int t, .int (nI m), .int (nI k), .ref zc, .ref zr, .ref zb, .ref z1, .ref z2, .ref z3, .ref z4, .ref z5, .ref zm, .ref zmr, .ref zmb, .int mt, .ref zca, .ref zcw, .int (nI c), .ref zg, .ref zt, .ref zs, .ref zf, .ref zy, .ref zso, .ref zsf, .ref zsm, .int nt, .int nsh, .ref ztp, .ref zrw, .ref zpp, .int (nI tn), .int (nI pn), .int rdw, .int rdh, .ref zsz, .ref zit, .ref zk, .int (bI itk)])), (zsz, ia G 4 sz), (zit, la G 80 (itF II))]) rfl rfl ?_
  refine j_ifB_ne (pc := 28) (tgt := 34) hX dX9_set_28 (by decide) (fun c28 => ?_) (fun c28 => by exfalso; have := of_decide_eq_false c28; omega)
  refine j_aload_n (pc := 34) hX dX9_set_34 0 rfl ?_
  refine j_get (pc := 35) hX f_RX9_94 0 rfl rfl dX9_set_35 ?_
  refine j_bipush (pc := 38) (v := nI 20) hX dX9_set_38 (by decide) ?_
  refine j_iload_n (pc := 40) hX dX9_set_40 1 rfl ?_
  refine j_imul (pc := 41) hX dX9_set_41 ?_
  refine j_topi (y := nI (20 * li)) (pk_mul _ _) ?_
  refine j_iload_n (pc := 42) hX dX9_set_42 2 rfl ?_
  refine j_iadd (pc := 43) hX dX9_set_43 ?_
  refine j_topi (y := nI (20 * li + i)) (nI_add _ _) ?_
  refine j_lload_n (pc := 44) hX dX9_set_44 3 rfl ?_
  refine j_last (pc := 45) (j := 20 * li + i) (ws' := [(md, .inr (9, [.int (nI W), .int (nI H), .int t, .int (nI m), .int (nI k), .ref zc, .ref zr, .ref zb, .ref z1, .ref z2, .ref z3, .ref z4, .ref z5, .ref zm, .ref zmr, .ref zmb, .int mt, .ref zca, .ref zcw, .int (nI c), .ref zg, .ref zt, .ref zs, .ref zf, .ref zy, .ref zso, .ref zsf, .ref zsm, .int nt, .int nsh, .ref ztp, .ref zrw, .ref zpp, .int (nI tn), .int (nI pn), .int rdw, .int rdh, .ref zsz, .ref zit, .ref zk, .int (bI itk)])), (zsz, ia G 4 sz), (zit, la G 80 (vp_updL (itF II) (20 * li + i) v))]) hX 2 rfl (by omega) (by omega) rfl dX9_set_45 ?_
  refine j_iconstN (pc := 46) (j := 1) hX dX9_set_46 rfl ?_
  refine j_la (q0 := 2) (f := vp_updL (itF II) (20 * li + i) v) (g := itF (updA II li (vp_updL (II li) i v))) rfl (fun z hz => by exact itF_set (by omega) z) (ws' := [(md, .inr (9, [.int (nI W), .int (nI H), .int t, .int (nI m), .int (nI k), .ref zc, .ref zr, .ref zb, .ref z1, .ref z2, .ref z3, .ref z4, .ref z5, .ref zm, .ref zmr, .ref zmb, .int mt, .ref zca, .ref zcw, .int (nI c), .ref zg, .ref zt, .ref zs, .ref zf, .ref zy, .ref zso, .ref zsf, .ref zsm, .int nt, .int nsh, .ref ztp, .ref zrw, .ref zpp, .int (nI tn), .int (nI pn), .int rdw, .int rdh, .ref zsz, .ref zit, .ref zk, .int (bI itk)])), (zsz, ia G 4 sz), (zit, la G 80 (itF (updA II li (vp_updL (II li) i v))))]) rfl ?_
  exact j_iret (pc := 47) hX hR dX9_set_47 ⟨rfl, rfl⟩
set_option maxHeartbeats 4000000 in
set_option maxRecDepth 100000 in
theorem c_X9_get_none (G : GT) (md : Nat) (W : Nat) (H : Nat) (t : Int32) (m : Nat) (k : Nat) (zc : Nat) (zr : Nat) (zb : Nat) (z1 : Nat) (z2 : Nat) (z3 : Nat) (z4 : Nat) (z5 : Nat) (zm : Nat) (zmr : Nat) (zmb : Nat) (mt : Int32) (zca : Nat) (zcw : Nat) (c : Nat) (zg : Nat) (zt : Nat) (zs : Nat) (zf : Nat) (zy : Nat) (zso : Nat) (zsf : Nat) (zsm : Nat) (nt : Int32) (nsh : Int32) (ztp : Nat) (zrw : Nat) (zpp : Nat) (tn : Nat) (pn : Nat) (rdw : Int32) (rdh : Int32) (zsz : Nat) (zit : Nat) (zk : Nat) (itk : Bool) (li i : Int32) (hl : li.toInt < 0 ∨ 4 ≤ li.toInt) (l : Launch) : CT l G yX9_get cX9_get 3 (some .long) { frames := 2, cells := 0, slots := 0, locals := 48 } [.ref md, .int li, .int i] [(md, .inr (9, [.int (nI W), .int (nI H), .int t, .int (nI m), .int (nI k), .ref zc, .ref zr, .ref zb, .ref z1, .ref z2, .ref z3, .ref z4, .ref z5, .ref zm, .ref zmr, .ref zmb, .int mt, .ref zca, .ref zcw, .int (nI c), .ref zg, .ref zt, .ref zs, .ref zf, .ref zy, .ref zso, .ref zsf, .ref zsm, .int nt, .int nsh, .ref ztp, .ref zrw, .ref zpp, .int (nI tn), .int (nI pn), .int rdw, .int rdh, .ref zsz, .ref zit, .ref zk, .int (bI itk)]))] (fun vv ww => vv = some (.long (-9223372036854775808)) ∧ ww = [(md, .inr (9, [.int (nI W), .int (nI H), .int t, .int (nI m), .int (nI k), .ref zc, .ref zr, .ref zb, .ref z1, .ref z2, .ref z3, .ref z4, .ref z5, .ref zm, .ref zmr, .ref zmb, .int mt, .ref zca, .ref zcw, .int (nI c), .ref zg, .ref zt, .ref zs, .ref zf, .ref zy, .ref zso, .ref zsf, .ref zsm, .int nt, .int nsh, .ref ztp, .ref zrw, .ref zpp, .int (nI tn), .int (nI pn), .int rdw, .int rdh, .ref zsz, .ref zit, .ref zk, .int (bI itk)]))]) := by
  refine CT.of (lv := [(0, .ref md), (1, .int li), (2, .int i)]) RX9 "get" rfl rfl (by decide +kernel) (Nat.le_of_ble_eq_true rfl) rfl (fun X hX hR => ?_)
  refine j_iload_n (pc := 0) hX dX9_get_0 1 rfl ?_
  refine j_callS (pc := 1) hX kX9_isList kSX9_isList l_RX9_257 (fun l => c_X9_isList G li  l) [] [0] [] rfl rfl rfl rfl ⟨rfl, rfl, by decide⟩ rfl rfl (Nat.le_of_ble_eq_true rfl) dX9_get_1 (fun v w hq => ?_)
  obtain ⟨rfl, rfl⟩ := hq
  refine j_ws [0] (ws' := [(md, .inr (9, [.int (nI W), .int (nI H), .int t, .int (nI m), .int (nI k), .ref zc, .ref zr, .ref zb, .ref z1, .ref z2, .ref z3, .ref z4, .ref z5, .ref zm, .ref zmr, .ref zmb, .int mt, .ref zca, .ref zcw, .int (nI c), .ref zg, .ref zt, .ref zs, .ref zf, .ref zy, .ref zso, .ref zsf, .ref zsm, .int nt, .int nsh, .ref ztp, .ref zrw, .ref zpp, .int (nI tn), .int (nI pn), .int rdw, .int rdh, .ref zsz, .ref zit, .ref zk, .int (bI itk)]))]) rfl rfl ?_
  refine j_ifB_eq (pc := 4) (tgt := 31) hX dX9_get_4 (by decide) (fun c4 => ?_) (fun c4 => by exfalso; have := of_decide_eq_true c4; omega)
  refine j_ldc2 (pc := 31) (v := (-9223372036854775808)) hX k_RX9_264 dX9_get_31 ?_
  exact j_lret (pc := 34) hX hR dX9_get_34 ⟨rfl, rfl⟩
set_option maxHeartbeats 4000000 in
set_option maxRecDepth 100000 in
theorem c_X9_get_bad (G : GT) (md : Nat) (W : Nat) (H : Nat) (t : Int32) (m : Nat) (k : Nat) (zc : Nat) (zr : Nat) (zb : Nat) (z1 : Nat) (z2 : Nat) (z3 : Nat) (z4 : Nat) (z5 : Nat) (zm : Nat) (zmr : Nat) (zmb : Nat) (mt : Int32) (zca : Nat) (zcw : Nat) (c : Nat) (zg : Nat) (zt : Nat) (zs : Nat) (zf : Nat) (zy : Nat) (zso : Nat) (zsf : Nat) (zsm : Nat) (nt : Int32) (nsh : Int32) (ztp : Nat) (zrw : Nat) (zpp : Nat) (tn : Nat) (pn : Nat) (rdw : Int32) (rdh : Int32) (zsz : Nat) (zit : Nat) (zk : Nat) (itk : Bool) (sz : Nat → Int32) (li : Nat) (i : Int32) (hl : li < 4) (hs : -1 ≤ (sz li).toInt ∧ (sz li).toInt ≤ 20) (hi : i.toInt < 0 ∨ (sz li).toInt ≤ i.toInt) (l : Launch) : CT l G yX9_get cX9_get 3 (some .long) { frames := 2, cells := 0, slots := 0, locals := 48 } [.ref md, .int (nI li), .int i] [(md, .inr (9, [.int (nI W), .int (nI H), .int t, .int (nI m), .int (nI k), .ref zc, .ref zr, .ref zb, .ref z1, .ref z2, .ref z3, .ref z4, .ref z5, .ref zm, .ref zmr, .ref zmb, .int mt, .ref zca, .ref zcw, .int (nI c), .ref zg, .ref zt, .ref zs, .ref zf, .ref zy, .ref zso, .ref zsf, .ref zsm, .int nt, .int nsh, .ref ztp, .ref zrw, .ref zpp, .int (nI tn), .int (nI pn), .int rdw, .int rdh, .ref zsz, .ref zit, .ref zk, .int (bI itk)])), (zsz, ia G 4 sz)] (fun vv ww => vv = some (.long (-9223372036854775808)) ∧ ww = [(md, .inr (9, [.int (nI W), .int (nI H), .int t, .int (nI m), .int (nI k), .ref zc, .ref zr, .ref zb, .ref z1, .ref z2, .ref z3, .ref z4, .ref z5, .ref zm, .ref zmr, .ref zmb, .int mt, .ref zca, .ref zcw, .int (nI c), .ref zg, .ref zt, .ref zs, .ref zf, .ref zy, .ref zso, .ref zsf, .ref zsm, .int nt, .int nsh, .ref ztp, .ref zrw, .ref zpp, .int (nI tn), .int (nI pn), .int rdw, .int rdh, .ref zsz, .ref zit, .ref zk, .int (bI itk)])), (zsz, ia G 4 sz)]) := by
  refine CT.of (lv := [(0, .ref md), (1, .int (nI li)), (2, .int i)]) RX9 "get" rfl rfl (by decide +kernel) (Nat.le_of_ble_eq_true rfl) rfl (fun X hX hR => ?_)
  refine j_iload_n (pc := 0) hX dX9_get_0 1 rfl ?_
  refine j_callS (pc := 1) hX kX9_isList kSX9_isList l_RX9_257 (fun l => c_X9_isList G (nI li)  l) [] [0, 1] [] rfl rfl rfl rfl ⟨rfl, rfl, by decide⟩ rfl rfl (Nat.le_of_ble_eq_true rfl) dX9_get_1 (fun v w hq => ?_)
  obtain ⟨rfl, rfl⟩ := hq
  refine j_ws [0, 1] (ws' := [(md, .inr (9, [.int (nI W), .int (nI H), .int t, .int (nI m), .int (nI k), .ref zc, .ref zr, .ref zb, .ref z1, .ref z2, .ref z3, .ref z4, .ref z5, .ref zm, .ref zmr, .ref zmb, .int mt, .ref zca, .ref zcw, .int (nI c), .ref zg, .ref zt, .ref zs, .ref zf, .ref zy, .ref zso, .ref zsf, .ref zsm, .int nt, .int nsh, .ref ztp, .ref zrw, .ref zpp, .int (nI tn), .int (nI pn), .int rdw, .int rdh, .ref zsz, .ref zit, .ref zk, .int (bI itk)])), (zsz, ia G 4 sz)]) rfl rfl ?_
  refine j_ifB_eq (pc := 4) (tgt := 31) hX dX9_get_4 (by decide) (fun c4 => by rw [rng_t (x := nI li) (A := 0) (B := 3) (by rw [nI_toInt (by omega)]; omega)] at c4; cases c4) (fun c4 => ?_)
  refine j_aload_n (pc := 7) hX dX9_get_7 0 rfl ?_
  refine j_iload_n (pc := 8) hX dX9_get_8 1 rfl ?_
  refine j_iload_n (pc := 9) hX dX9_get_9 2 rfl ?_
  refine j_i2l (pc := 10) hX dX9_get_10 ?_
  refine j_callV (pc := 11) hX kX9_isPlace kVX9_isPlace l_RX9_260 (fun l => c_X9_isPlace G md W H t m k zc zr zb z1 z2 z3 z4 z5 zm zmr zmb mt zca zcw c zg zt zs zf zy zso zsf zsm nt nsh ztp zrw zpp tn pn rdw rdh zsz zit zk itk sz li i.toInt64 i.toInt (by omega) (by first | assumption | omega) (toL _) l) [0, 1] [] [] rfl 0 9 rfl rfl rfl rfl rfl rfl ⟨rfl, rfl, by decide⟩ rfl rfl (Nat.le_of_ble_eq_true rfl) dX9_get_11 (fun v w hq => ?_)
  obtain ⟨rfl, rfl⟩ := hq
  refine j_ws [0, 1] (ws' := [(md, .inr (9, [.int (nI W), .int (nI H), .int t, .int (nI m), .int (nI k), .ref zc, .ref zr, .ref zb, .ref z1, .ref z2, .ref z3, .ref z4, .ref z5, .ref zm, .ref zmr, .ref zmb, .int mt, .ref zca, .ref zcw, .int (nI c), .ref zg, .ref zt, .ref zs, .ref zf, .ref zy, .ref zso, .ref zsf, .ref zsm, .int nt, .int nsh, .ref ztp, .ref zrw, .ref zpp, .int (nI tn), .int (nI pn), .int rdw, .int rdh, .ref zsz, .ref zit, .ref zk, .int (bI itk)])), (zsz, ia G 4 sz)]) rfl rfl ?_
  refine j_ifB_eq (pc := 14) (tgt := 31) hX dX9_get_14 (by decide) (fun c14 => ?_) (fun c14 => by exfalso; have := of_decide_eq_true c14; omega)
  refine j_ldc2 (pc := 31) (v := (-9223372036854775808)) hX k_RX9_264 dX9_get_31 ?_
  exact j_lret (pc := 34) hX hR dX9_get_34 ⟨rfl, rfl⟩
set_option maxHeartbeats 4000000 in
set_option maxRecDepth 100000 in
theorem c_X9_get_ok (G : GT) (md : Nat) (W : Nat) (H : Nat) (t : Int32) (m : Nat) (k : Nat) (zc : Nat) (zr : Nat) (zb : Nat) (z1 : Nat) (z2 : Nat) (z3 : Nat) (z4 : Nat) (z5 : Nat) (zm : Nat) (zmr : Nat) (zmb : Nat) (mt : Int32) (zca : Nat) (zcw : Nat) (c : Nat) (zg : Nat) (zt : Nat) (zs : Nat) (zf : Nat) (zy : Nat) (zso : Nat) (zsf : Nat) (zsm : Nat) (nt : Int32) (nsh : Int32) (ztp : Nat) (zrw : Nat) (zpp : Nat) (tn : Nat) (pn : Nat) (rdw : Int32) (rdh : Int32) (zsz : Nat) (zit : Nat) (zk : Nat) (itk : Bool) (sz : Nat → Int32) (II : Nat → Nat → Int64) (li : Nat) (mm i : Nat) (hl : li < 4) (hsz : sz li = nI mm) (hmm : mm ≤ 20) (hi : i < mm) (l : Launch) : CT l G yX9_get cX9_get 3 (some .long) { frames := 2, cells := 0, slots := 0, locals := 48 } [.ref md, .int (nI li), .int (nI i)] [(md, .inr (9, [.int (nI W), .int (nI H), .int t, .int (nI m), .int (nI k), .ref zc, .ref zr, .ref zb, .ref z1, .ref z2, .ref z3, .ref z4, .ref z5, .ref zm, .ref zmr, .ref zmb, .int mt, .ref zca, .ref zcw, .int (nI c), .ref zg, .ref zt, .ref zs, .ref zf, .ref zy, .ref zso, .ref zsf, .ref zsm, .int nt, .int nsh, .ref ztp, .ref zrw, .ref zpp, .int (nI tn), .int (nI pn), .int rdw, .int rdh, .ref zsz, .ref zit, .ref zk, .int (bI itk)])), (zsz, ia G 4 sz), (zit, la G 80 (itF II))] (fun vv ww => vv = some (.long (II li i)) ∧ ww = [(md, .inr (9, [.int (nI W), .int (nI H), .int t, .int (nI m), .int (nI k), .ref zc, .ref zr, .ref zb, .ref z1, .ref z2, .ref z3, .ref z4, .ref z5, .ref zm, .ref zmr, .ref zmb, .int mt, .ref zca, .ref zcw, .int (nI c), .ref zg, .ref zt, .ref zs, .ref zf, .ref zy, .ref zso, .ref zsf, .ref zsm, .int nt, .int nsh, .ref ztp, .ref zrw, .ref zpp, .int (nI tn), .int (nI pn), .int rdw, .int rdh, .ref zsz, .ref zit, .ref zk, .int (bI itk)])), (zsz, ia G 4 sz), (zit, la G 80 (itF II))]) := by
  refine CT.of (lv := [(0, .ref md), (1, .int (nI li)), (2, .int (nI i))]) RX9 "get" rfl rfl (by decide +kernel) (Nat.le_of_ble_eq_true rfl) rfl (fun X hX hR => ?_)
  have hsz2 : (sz li).toInt = mm := by rw [hsz, nI_toInt (by omega)]
  refine j_iload_n (pc := 0) hX dX9_get_0 1 rfl ?_
  refine j_callS (pc := 1) hX kX9_isList kSX9_isList l_RX9_257 (fun l => c_X9_isList G (nI li)  l) [] [0, 1, 2] [] rfl rfl rfl rfl ⟨rfl, rfl, by decide⟩ rfl rfl (Nat.le_of_ble_eq_true rfl) dX9_get_1 (fun v w hq => ?_)
  obtain ⟨rfl, rfl⟩ := hq
  refine j_ws [0, 1, 2] (ws' := [(md, .inr (9, [.int (nI W), .int (nI H), .int t, .int (nI m), .int (nI k), .ref zc, .ref zr, .ref zb, .ref z1, .ref z2, .ref z3, .ref z4, .ref z5, .ref zm, .ref zmr, .ref zmb, .int mt, .ref zca, .ref zcw, .int (nI c), .ref zg, .ref zt, .ref zs, .ref zf, .ref zy, .ref zso, .ref zsf, .ref zsm, .int nt, .int nsh, .ref ztp, .ref zrw, .ref zpp, .int (nI tn), .int (nI pn), .int rdw, .int rdh, .ref zsz, .ref zit, .ref zk, .int (bI itk)])), (zsz, ia G 4 sz), (zit, la G 80 (itF II))]) rfl rfl ?_
  refine j_ifB_eq (pc := 4) (tgt := 31) hX dX9_get_4 (by decide) (fun c4 => by rw [rng_t (x := nI li) (A := 0) (B := 3) (by rw [nI_toInt (by omega)]; omega)] at c4; cases c4) (fun c4 => ?_)
  refine j_aload_n (pc := 7) hX dX9_get_7 0 rfl ?_
  refine j_iload_n (pc := 8) hX dX9_get_8 1 rfl ?_
  refine j_iload_n (pc := 9) hX dX9_get_9 2 rfl ?_
  refine j_i2l (pc := 10) hX dX9_get_10 ?_
  refine j_callV (pc := 11) hX kX9_isPlace kVX9_isPlace l_RX9_260 (fun l => c_X9_isPlace G md W H t m k zc zr zb z1 z2 z3 z4 z5 zm zmr zmb mt zca zcw c zg zt zs zf zy zso zsf zsm nt nsh ztp zrw zpp tn pn rdw rdh zsz zit zk itk sz li ((nI i).toInt64) ((i : Nat) : Int) (by omega) (by first | assumption | omega) ((toL _).trans (nI_toInt (by omega))) l) [0, 1] [2] [] rfl 0 9 rfl rfl rfl rfl rfl rfl ⟨rfl, rfl, by decide⟩ rfl rfl (Nat.le_of_ble_eq_true rfl) dX9_get_11 (fun v w hq => ?_)
  obtain ⟨rfl, rfl⟩ := hq
  refine j_ws [1, 2, 0] (ws' := [(md, .inr (9, [.int (nI W), .int (nI H), .int t, .int (nI m), .int (nI k), .ref zc, .ref zr, .ref zb, .ref z1, .ref z2, .ref z3, .ref z4, .ref z5, .ref zm, .ref zmr, .ref zmb, .int mt, .ref zca, .ref zcw, .int (nI c), .ref zg, .ref zt, .ref zs, .ref zf, .ref zy, .ref zso, .ref zsf, .ref zsm, .int nt, .int nsh, .ref ztp, .ref zrw, .ref zpp, .int (nI tn), .int (nI pn), .int rdw, .int rdh, .ref zsz, .ref zit, .ref zk, .int (bI itk)])), (zsz, ia G 4 sz), (zit, la G 80 (itF II))]) rfl rfl ?_
  refine j_ifB_eq (pc := 14) (tgt := 31) hX dX9_get_14 (by decide) (fun c14 => by exfalso; have := of_decide_eq_false c14; omega) (fun c14 => ?_)
  refine j_aload_n (pc := 17) hX dX9_get_17 0 rfl ?_
  refine j_get (pc := 18) hX f_RX9_94 0 rfl rfl dX9_get_18 ?_
  refine j_bipush (pc := 21) (v := nI 20) hX dX9_get_21 (by decide) ?_
  refine j_iload_n (pc := 23) hX dX9_get_23 1 rfl ?_
  refine j_imul (pc := 24) hX dX9_get_24 ?_
  refine j_topi (y := nI (20 * li)) (pk_mul _ _) ?_
  refine j_iload_n (pc := 25) hX dX9_get_25 2 rfl ?_
  refine j_iadd (pc := 26) hX dX9_get_26 ?_
  refine j_topi (y := nI (20 * li + i)) (nI_add _ _) ?_
  refine j_lald (pc := 27) (j := 20 * li + i) hX 2 rfl (by omega) (by omega) dX9_get_27 ?_
  refine j_goto (pc := 28) (tgt := 34) hX dX9_get_28 (by decide) ?_
  exact j_lret (pc := 34) hX hR dX9_get_34 ⟨congrArg some (show Value.long ((itF II) (20 * li + i)) = Value.long (II li i) from by rw [itF_at (by omega)]), rfl⟩
set_option maxHeartbeats 4000000 in
set_option maxRecDepth 100000 in
theorem c_X9_lay_none (G : GT) (md : Nat) (W : Nat) (H : Nat) (t : Int32) (m : Nat) (k : Nat) (zc : Nat) (zr : Nat) (zb : Nat) (z1 : Nat) (z2 : Nat) (z3 : Nat) (z4 : Nat) (z5 : Nat) (zm : Nat) (zmr : Nat) (zmb : Nat) (mt : Int32) (zca : Nat) (zcw : Nat) (c : Nat) (zg : Nat) (zt : Nat) (zs : Nat) (zf : Nat) (zy : Nat) (zso : Nat) (zsf : Nat) (zsm : Nat) (nt : Int32) (nsh : Int32) (ztp : Nat) (zrw : Nat) (zpp : Nat) (tn : Nat) (pn : Nat) (rdw : Int32) (rdh : Int32) (zsz : Nat) (zit : Nat) (zk : Nat) (itk : Bool) (li i : Int32) (hl : li.toInt < 0 ∨ 4 ≤ li.toInt) (l : Launch) : CT l G yX9_lay cX9_lay 4 (some .int) { frames := 2, cells := 0, slots := 0, locals := 48 } [.ref md, .int li, .int i] [(md, .inr (9, [.int (nI W), .int (nI H), .int t, .int (nI m), .int (nI k), .ref zc, .ref zr, .ref zb, .ref z1, .ref z2, .ref z3, .ref z4, .ref z5, .ref zm, .ref zmr, .ref zmb, .int mt, .ref zca, .ref zcw, .int (nI c), .ref zg, .ref zt, .ref zs, .ref zf, .ref zy, .ref zso, .ref zsf, .ref zsm, .int nt, .int nsh, .ref ztp, .ref zrw, .ref zpp, .int (nI tn), .int (nI pn), .int rdw, .int rdh, .ref zsz, .ref zit, .ref zk, .int (bI itk)]))] (fun vv ww => vv = some (.int (-1)) ∧ ww = [(md, .inr (9, [.int (nI W), .int (nI H), .int t, .int (nI m), .int (nI k), .ref zc, .ref zr, .ref zb, .ref z1, .ref z2, .ref z3, .ref z4, .ref z5, .ref zm, .ref zmr, .ref zmb, .int mt, .ref zca, .ref zcw, .int (nI c), .ref zg, .ref zt, .ref zs, .ref zf, .ref zy, .ref zso, .ref zsf, .ref zsm, .int nt, .int nsh, .ref ztp, .ref zrw, .ref zpp, .int (nI tn), .int (nI pn), .int rdw, .int rdh, .ref zsz, .ref zit, .ref zk, .int (bI itk)]))]) := by
  refine CT.of (lv := [(0, .ref md), (1, .int li), (2, .int i)]) RX9 "lay" rfl rfl (by decide +kernel) (Nat.le_of_ble_eq_true rfl) rfl (fun X hX hR => ?_)
  refine j_iload_n (pc := 0) hX dX9_lay_0 1 rfl ?_
  refine j_callS (pc := 1) hX kX9_isList kSX9_isList l_RX9_257 (fun l => c_X9_isList G li  l) [] [0] [] rfl rfl rfl rfl ⟨rfl, rfl, by decide⟩ rfl rfl (Nat.le_of_ble_eq_true rfl) dX9_lay_1 (fun v w hq => ?_)
  obtain ⟨rfl, rfl⟩ := hq
  refine j_ws [0] (ws' := [(md, .inr (9, [.int (nI W), .int (nI H), .int t, .int (nI m), .int (nI k), .ref zc, .ref zr, .ref zb, .ref z1, .ref z2, .ref z3, .ref z4, .ref z5, .ref zm, .ref zmr, .ref zmb, .int mt, .ref zca, .ref zcw, .int (nI c), .ref zg, .ref zt, .ref zs, .ref zf, .ref zy, .ref zso, .ref zsf, .ref zsm, .int nt, .int nsh, .ref ztp, .ref zrw, .ref zpp, .int (nI tn), .int (nI pn), .int rdw, .int rdh, .ref zsz, .ref zit, .ref zk, .int (bI itk)]))]) rfl rfl ?_
  refine j_ifB_ne (pc := 4) (tgt := 9) hX dX9_lay_4 (by decide) (fun c4 => by exfalso; have := of_decide_eq_true c4; omega) (fun c4 => ?_)
  refine j_iconst (pc := 7) (v := (-1)) hX dX9_lay_7 (by decide) ?_
  exact j_iret (pc := 8) hX hR dX9_lay_8 ⟨rfl, rfl⟩
set_option maxHeartbeats 4000000 in
set_option maxRecDepth 100000 in
theorem c_X9_lay_nothing (G : GT) (md : Nat) (W : Nat) (H : Nat) (t : Int32) (m : Nat) (k : Nat) (zc : Nat) (zr : Nat) (zb : Nat) (z1 : Nat) (z2 : Nat) (z3 : Nat) (z4 : Nat) (z5 : Nat) (zm : Nat) (zmr : Nat) (zmb : Nat) (mt : Int32) (zca : Nat) (zcw : Nat) (c : Nat) (zg : Nat) (zt : Nat) (zs : Nat) (zf : Nat) (zy : Nat) (zso : Nat) (zsf : Nat) (zsm : Nat) (nt : Int32) (nsh : Int32) (ztp : Nat) (zrw : Nat) (zpp : Nat) (tn : Nat) (pn : Nat) (rdw : Int32) (rdh : Int32) (zsz : Nat) (zit : Nat) (zk : Nat) (itk : Bool) (sz : Nat → Int32) (li : Nat) (i : Int32) (hl : li < 4) (hm : (sz li).toInt < 0) (l : Launch) : CT l G yX9_lay cX9_lay 4 (some .int) { frames := 2, cells := 0, slots := 0, locals := 48 } [.ref md, .int (nI li), .int i] [(md, .inr (9, [.int (nI W), .int (nI H), .int t, .int (nI m), .int (nI k), .ref zc, .ref zr, .ref zb, .ref z1, .ref z2, .ref z3, .ref z4, .ref z5, .ref zm, .ref zmr, .ref zmb, .int mt, .ref zca, .ref zcw, .int (nI c), .ref zg, .ref zt, .ref zs, .ref zf, .ref zy, .ref zso, .ref zsf, .ref zsm, .int nt, .int nsh, .ref ztp, .ref zrw, .ref zpp, .int (nI tn), .int (nI pn), .int rdw, .int rdh, .ref zsz, .ref zit, .ref zk, .int (bI itk)])), (zsz, ia G 4 sz)] (fun vv ww => vv = some (.int (-11)) ∧ ww = [(md, .inr (9, [.int (nI W), .int (nI H), .int t, .int (nI m), .int (nI k), .ref zc, .ref zr, .ref zb, .ref z1, .ref z2, .ref z3, .ref z4, .ref z5, .ref zm, .ref zmr, .ref zmb, .int mt, .ref zca, .ref zcw, .int (nI c), .ref zg, .ref zt, .ref zs, .ref zf, .ref zy, .ref zso, .ref zsf, .ref zsm, .int nt, .int nsh, .ref ztp, .ref zrw, .ref zpp, .int (nI tn), .int (nI pn), .int rdw, .int rdh, .ref zsz, .ref zit, .ref zk, .int (bI itk)])), (zsz, ia G 4 sz)]) := by
  refine CT.of (lv := [(0, .ref md), (1, .int (nI li)), (2, .int i)]) RX9 "lay" rfl rfl (by decide +kernel) (Nat.le_of_ble_eq_true rfl) rfl (fun X hX hR => ?_)
  refine j_iload_n (pc := 0) hX dX9_lay_0 1 rfl ?_
  refine j_callS (pc := 1) hX kX9_isList kSX9_isList l_RX9_257 (fun l => c_X9_isList G (nI li)  l) [] [0, 1] [] rfl rfl rfl rfl ⟨rfl, rfl, by decide⟩ rfl rfl (Nat.le_of_ble_eq_true rfl) dX9_lay_1 (fun v w hq => ?_)
  obtain ⟨rfl, rfl⟩ := hq
  refine j_ws [0, 1] (ws' := [(md, .inr (9, [.int (nI W), .int (nI H), .int t, .int (nI m), .int (nI k), .ref zc, .ref zr, .ref zb, .ref z1, .ref z2, .ref z3, .ref z4, .ref z5, .ref zm, .ref zmr, .ref zmb, .int mt, .ref zca, .ref zcw, .int (nI c), .ref zg, .ref zt, .ref zs, .ref zf, .ref zy, .ref zso, .ref zsf, .ref zsm, .int nt, .int nsh, .ref ztp, .ref zrw, .ref zpp, .int (nI tn), .int (nI pn), .int rdw, .int rdh, .ref zsz, .ref zit, .ref zk, .int (bI itk)])), (zsz, ia G 4 sz)]) rfl rfl ?_
  refine j_ifB_ne (pc := 4) (tgt := 9) hX dX9_lay_4 (by decide) (fun c4 => ?_) (fun c4 => by rw [rng_t (x := nI li) (A := 0) (B := 3) (by rw [nI_toInt (by omega)]; omega)] at c4; cases c4)
  refine j_aload_n (pc := 9) hX dX9_lay_9 0 rfl ?_
  refine j_get (pc := 10) hX f_RX9_91 0 rfl rfl dX9_lay_10 ?_
  refine j_iload_n (pc := 13) hX dX9_lay_13 1 rfl ?_
  refine j_ialdN (pc := 14) (j := li) hX 1 rfl (by omega) (by omega) dX9_lay_14 ?_
  refine j_if_ge (pc := 15) (tgt := 21) hX dX9_lay_15 (by decide) rfl (fun c15 => by exfalso; omega) (fun c15 => ?_)
  refine j_bipush (pc := 18) (v := (-11)) hX dX9_lay_18 (by decide) ?_
  exact j_iret (pc := 20) hX hR dX9_lay_20 ⟨rfl, rfl⟩
set_option maxHeartbeats 4000000 in
set_option maxRecDepth 100000 in
theorem c_X9_lay_neg (G : GT) (md : Nat) (W : Nat) (H : Nat) (t : Int32) (m : Nat) (k : Nat) (zc : Nat) (zr : Nat) (zb : Nat) (z1 : Nat) (z2 : Nat) (z3 : Nat) (z4 : Nat) (z5 : Nat) (zm : Nat) (zmr : Nat) (zmb : Nat) (mt : Int32) (zca : Nat) (zcw : Nat) (c : Nat) (zg : Nat) (zt : Nat) (zs : Nat) (zf : Nat) (zy : Nat) (zso : Nat) (zsf : Nat) (zsm : Nat) (nt : Int32) (nsh : Int32) (ztp : Nat) (zrw : Nat) (zpp : Nat) (tn : Nat) (pn : Nat) (rdw : Int32) (rdh : Int32) (zsz : Nat) (zit : Nat) (zk : Nat) (itk : Bool) (sz : Nat → Int32) (li : Nat) (mm : Nat) (i : Int32) (hl : li < 4) (hsz : sz li = nI mm) (hmm : mm ≤ 20) (hi : i.toInt < 0) (l : Launch) : CT l G yX9_lay cX9_lay 4 (some .int) { frames := 2, cells := 0, slots := 0, locals := 48 } [.ref md, .int (nI li), .int i] [(md, .inr (9, [.int (nI W), .int (nI H), .int t, .int (nI m), .int (nI k), .ref zc, .ref zr, .ref zb, .ref z1, .ref z2, .ref z3, .ref z4, .ref z5, .ref zm, .ref zmr, .ref zmb, .int mt, .ref zca, .ref zcw, .int (nI c), .ref zg, .ref zt, .ref zs, .ref zf, .ref zy, .ref zso, .ref zsf, .ref zsm, .int nt, .int nsh, .ref ztp, .ref zrw, .ref zpp, .int (nI tn), .int (nI pn), .int rdw, .int rdh, .ref zsz, .ref zit, .ref zk, .int (bI itk)])), (zsz, ia G 4 sz)] (fun vv ww => vv = some (.int (-13)) ∧ ww = [(md, .inr (9, [.int (nI W), .int (nI H), .int t, .int (nI m), .int (nI k), .ref zc, .ref zr, .ref zb, .ref z1, .ref z2, .ref z3, .ref z4, .ref z5, .ref zm, .ref zmr, .ref zmb, .int mt, .ref zca, .ref zcw, .int (nI c), .ref zg, .ref zt, .ref zs, .ref zf, .ref zy, .ref zso, .ref zsf, .ref zsm, .int nt, .int nsh, .ref ztp, .ref zrw, .ref zpp, .int (nI tn), .int (nI pn), .int rdw, .int rdh, .ref zsz, .ref zit, .ref zk, .int (bI itk)])), (zsz, ia G 4 sz)]) := by
  refine CT.of (lv := [(0, .ref md), (1, .int (nI li)), (2, .int i)]) RX9 "lay" rfl rfl (by decide +kernel) (Nat.le_of_ble_eq_true rfl) rfl (fun X hX hR => ?_)
  have hsz2 : (sz li).toInt = mm := by rw [hsz, nI_toInt (by omega)]
  refine j_iload_n (pc := 0) hX dX9_lay_0 1 rfl ?_
  refine j_callS (pc := 1) hX kX9_isList kSX9_isList l_RX9_257 (fun l => c_X9_isList G (nI li)  l) [] [0, 1] [] rfl rfl rfl rfl ⟨rfl, rfl, by decide⟩ rfl rfl (Nat.le_of_ble_eq_true rfl) dX9_lay_1 (fun v w hq => ?_)
  obtain ⟨rfl, rfl⟩ := hq
  refine j_ws [0, 1] (ws' := [(md, .inr (9, [.int (nI W), .int (nI H), .int t, .int (nI m), .int (nI k), .ref zc, .ref zr, .ref zb, .ref z1, .ref z2, .ref z3, .ref z4, .ref z5, .ref zm, .ref zmr, .ref zmb, .int mt, .ref zca, .ref zcw, .int (nI c), .ref zg, .ref zt, .ref zs, .ref zf, .ref zy, .ref zso, .ref zsf, .ref zsm, .int nt, .int nsh, .ref ztp, .ref zrw, .ref zpp, .int (nI tn), .int (nI pn), .int rdw, .int rdh, .ref zsz, .ref zit, .ref zk, .int (bI itk)])), (zsz, ia G 4 sz)]) rfl rfl ?_
  refine j_ifB_ne (pc := 4) (tgt := 9) hX dX9_lay_4 (by decide) (fun c4 => ?_) (fun c4 => by rw [rng_t (x := nI li) (A := 0) (B := 3) (by rw [nI_toInt (by omega)]; omega)] at c4; cases c4)
  refine j_aload_n (pc := 9) hX dX9_lay_9 0 rfl ?_
  refine j_get (pc := 10) hX f_RX9_91 0 rfl rfl dX9_lay_10 ?_
  refine j_iload_n (pc := 13) hX dX9_lay_13 1 rfl ?_
  refine j_ialdN (pc := 14) (j := li) hX 1 rfl (by omega) (by omega) dX9_lay_14 ?_
  refine j_if_ge (pc := 15) (tgt := 21) hX dX9_lay_15 (by decide) rfl (fun c15 => ?_) (fun c15 => by exfalso; omega)
  refine j_iload_n (pc := 21) hX dX9_lay_21 2 rfl ?_
  refine j_if_ge (pc := 22) (tgt := 28) hX dX9_lay_22 (by decide) rfl (fun c22 => by exfalso; omega) (fun c22 => ?_)
  refine j_bipush (pc := 25) (v := (-13)) hX dX9_lay_25 (by decide) ?_
  exact j_iret (pc := 27) hX hR dX9_lay_27 ⟨rfl, rfl⟩
set_option maxHeartbeats 4000000 in
set_option maxRecDepth 100000 in
theorem c_X9_lay_far (G : GT) (md : Nat) (W : Nat) (H : Nat) (t : Int32) (m : Nat) (k : Nat) (zc : Nat) (zr : Nat) (zb : Nat) (z1 : Nat) (z2 : Nat) (z3 : Nat) (z4 : Nat) (z5 : Nat) (zm : Nat) (zmr : Nat) (zmb : Nat) (mt : Int32) (zca : Nat) (zcw : Nat) (c : Nat) (zg : Nat) (zt : Nat) (zs : Nat) (zf : Nat) (zy : Nat) (zso : Nat) (zsf : Nat) (zsm : Nat) (nt : Int32) (nsh : Int32) (ztp : Nat) (zrw : Nat) (zpp : Nat) (tn : Nat) (pn : Nat) (rdw : Int32) (rdh : Int32) (zsz : Nat) (zit : Nat) (zk : Nat) (itk : Bool) (sz : Nat → Int32) (li : Nat) (mm : Nat) (i : Int32) (hW1 : 2 ≤ W) (hW2 : W ≤ 16) (hH1 : 2 ≤ H) (hH2 : H ≤ 16) (hl : li < 4) (hsz : sz li = nI mm) (hmm : mm ≤ 20) (hi : 20 ≤ i.toInt) (l : Launch) : CT l G yX9_lay cX9_lay 4 (some .int) { frames := 2, cells := 0, slots := 0, locals := 48 } [.ref md, .int (nI li), .int i] [(md, .inr (9, [.int (nI W), .int (nI H), .int t, .int (nI m), .int (nI k), .ref zc, .ref zr, .ref zb, .ref z1, .ref z2, .ref z3, .ref z4, .ref z5, .ref zm, .ref zmr, .ref zmb, .int mt, .ref zca, .ref zcw, .int (nI c), .ref zg, .ref zt, .ref zs, .ref zf, .ref zy, .ref zso, .ref zsf, .ref zsm, .int nt, .int nsh, .ref ztp, .ref zrw, .ref zpp, .int (nI tn), .int (nI pn), .int rdw, .int rdh, .ref zsz, .ref zit, .ref zk, .int (bI itk)])), (zsz, ia G 4 sz)] (fun vv ww => vv = some (.int (-13)) ∧ ww = [(md, .inr (9, [.int (nI W), .int (nI H), .int t, .int (nI m), .int (nI k), .ref zc, .ref zr, .ref zb, .ref z1, .ref z2, .ref z3, .ref z4, .ref z5, .ref zm, .ref zmr, .ref zmb, .int mt, .ref zca, .ref zcw, .int (nI c), .ref zg, .ref zt, .ref zs, .ref zf, .ref zy, .ref zso, .ref zsf, .ref zsm, .int nt, .int nsh, .ref ztp, .ref zrw, .ref zpp, .int (nI tn), .int (nI pn), .int rdw, .int rdh, .ref zsz, .ref zit, .ref zk, .int (bI itk)])), (zsz, ia G 4 sz)]) := by
  refine CT.of (lv := [(0, .ref md), (1, .int (nI li)), (2, .int i)]) RX9 "lay" rfl rfl (by decide +kernel) (Nat.le_of_ble_eq_true rfl) rfl (fun X hX hR => ?_)
  have hsz2 : (sz li).toInt = mm := by rw [hsz, nI_toInt (by omega)]
  refine j_iload_n (pc := 0) hX dX9_lay_0 1 rfl ?_
  refine j_callS (pc := 1) hX kX9_isList kSX9_isList l_RX9_257 (fun l => c_X9_isList G (nI li)  l) [] [0, 1] [] rfl rfl rfl rfl ⟨rfl, rfl, by decide⟩ rfl rfl (Nat.le_of_ble_eq_true rfl) dX9_lay_1 (fun v w hq => ?_)
  obtain ⟨rfl, rfl⟩ := hq
  refine j_ws [0, 1] (ws' := [(md, .inr (9, [.int (nI W), .int (nI H), .int t, .int (nI m), .int (nI k), .ref zc, .ref zr, .ref zb, .ref z1, .ref z2, .ref z3, .ref z4, .ref z5, .ref zm, .ref zmr, .ref zmb, .int mt, .ref zca, .ref zcw, .int (nI c), .ref zg, .ref zt, .ref zs, .ref zf, .ref zy, .ref zso, .ref zsf, .ref zsm, .int nt, .int nsh, .ref ztp, .ref zrw, .ref zpp, .int (nI tn), .int (nI pn), .int rdw, .int rdh, .ref zsz, .ref zit, .ref zk, .int (bI itk)])), (zsz, ia G 4 sz)]) rfl rfl ?_
  refine j_ifB_ne (pc := 4) (tgt := 9) hX dX9_lay_4 (by decide) (fun c4 => ?_) (fun c4 => by rw [rng_t (x := nI li) (A := 0) (B := 3) (by rw [nI_toInt (by omega)]; omega)] at c4; cases c4)
  refine j_aload_n (pc := 9) hX dX9_lay_9 0 rfl ?_
  refine j_get (pc := 10) hX f_RX9_91 0 rfl rfl dX9_lay_10 ?_
  refine j_iload_n (pc := 13) hX dX9_lay_13 1 rfl ?_
  refine j_ialdN (pc := 14) (j := li) hX 1 rfl (by omega) (by omega) dX9_lay_14 ?_
  refine j_if_ge (pc := 15) (tgt := 21) hX dX9_lay_15 (by decide) rfl (fun c15 => ?_) (fun c15 => by exfalso; omega)
  refine j_iload_n (pc := 21) hX dX9_lay_21 2 rfl ?_
  refine j_if_ge (pc := 22) (tgt := 28) hX dX9_lay_22 (by decide) rfl (fun c22 => ?_) (fun c22 => by exfalso; omega)
  refine j_iconstN (pc := 28) (j := 0) hX dX9_lay_28 rfl ?_
  refine j_istore_n (pc := 29) (lv' := [(3, .int (nI 0)), (0, .ref md), (1, .int (nI li)), (2, .int i)]) hX dX9_lay_29 (by decide) rfl ?_
  have L30 : ∀ (m30 : Nat) (y : Nat) (hy : y = 0), 0 < m30 → J X G 4 0 0 [(md, .inr (9, [.int (nI W), .int (nI H), .int t, .int (nI m), .int (nI k), .ref zc, .ref zr, .ref zb, .ref z1, .ref z2, .ref z3, .ref z4, .ref z5, .ref zm, .ref zmr, .ref zmb, .int mt, .ref zca, .ref zcw, .int (nI c), .ref zg, .ref zt, .ref zs, .ref zf, .ref zy, .ref zso, .ref zsf, .ref zsm, .int nt, .int nsh, .ref ztp, .ref zrw, .ref zpp, .int (nI tn), .int (nI pn), .int rdw, .int rdh, .ref zsz, .ref zit, .ref zk, .int (bI itk)])), (zsz, ia G 4 sz)] [(0, .ref md), (1, .int (nI li)), (2, .int i), (3, .int (nI y))] 30 [] := by
    intro m30
    induction m30 with
    | zero => intro y hy hm30; exact absurd hm30 (Nat.not_lt_zero _)
    | succ m30 ih30 =>
      intro y hy hm30
      refine j_iload_n (pc := 30) hX dX9_lay_30 3 rfl ?_
      refine j_aload_n (pc := 31) hX dX9_lay_31 0 rfl ?_
      refine j_get (pc := 32) hX f_RX9_15 0 rfl rfl dX9_lay_32 ?_
      refine j_icmp_ge (pc := 35) (tgt := 80) hX dX9_lay_35 (by decide) (nI_toInt (n := y) (by omega)) (nI_toInt (n := H) (by omega)) (fun c35 => by exfalso; omega) (fun c35 => ?_)
      refine j_aload_n (pc := 38) hX dX9_lay_38 0 rfl ?_
      refine j_iload_n (pc := 39) hX dX9_lay_39 1 rfl ?_
      refine j_iload_n (pc := 40) hX dX9_lay_40 2 rfl ?_
      refine j_i2l (pc := 41) hX dX9_lay_41 ?_
      refine j_iload_n (pc := 42) hX dX9_lay_42 3 rfl ?_
      refine j_i2l (pc := 43) hX dX9_lay_43 ?_
      refine j_ladd (pc := 44) hX dX9_lay_44 ?_
      refine j_callV (pc := 45) hX kX9_isPlace kVX9_isPlace l_RX9_260 (fun l => c_X9_isPlace G md W H t m k zc zr zb z1 z2 z3 z4 z5 zm zmr zmb mt zca zcw c zg zt zs zf zy zso zsf zsm nt nsh ztp zrw zpp tn pn rdw rdh zsz zit zk itk sz li (i.toInt64 + ((nI y).toInt64)) (i.toInt + ((y : Nat) : Int)) (by omega) (by first | assumption | omega) (by rw [toL_add, nI_toInt (by omega)]) l) [0, 1] [] [] rfl 0 9 rfl rfl rfl rfl rfl rfl ⟨rfl, rfl, by decide⟩ rfl rfl (Nat.le_of_ble_eq_true rfl) dX9_lay_45 (fun v w hq => ?_)
      obtain ⟨rfl, rfl⟩ := hq
      refine j_ws [0, 1] (ws' := [(md, .inr (9, [.int (nI W), .int (nI H), .int t, .int (nI m), .int (nI k), .ref zc, .ref zr, .ref zb, .ref z1, .ref z2, .ref z3, .ref z4, .ref z5, .ref zm, .ref zmr, .ref zmb, .int mt, .ref zca, .ref zcw, .int (nI c), .ref zg, .ref zt, .ref zs, .ref zf, .ref zy, .ref zso, .ref zsf, .ref zsm, .int nt, .int nsh, .ref ztp, .ref zrw, .ref zpp, .int (nI tn), .int (nI pn), .int rdw, .int rdh, .ref zsz, .ref zit, .ref zk, .int (bI itk)])), (zsz, ia G 4 sz)]) rfl rfl ?_
      refine j_ifB_ne (pc := 48) (tgt := 54) hX dX9_lay_48 (by decide) (fun c48 => by exfalso; have := of_decide_eq_true c48; omega) (fun c48 => ?_)
      refine j_bipush (pc := 51) (v := (-13)) hX dX9_lay_51 (by decide) ?_
      exact j_iret (pc := 53) hX hR dX9_lay_53 ⟨rfl, rfl⟩
  refine j_lv [1, 2, 3, 0] (lv' := [(0, .ref md), (1, .int (nI li)), (2, .int i), (3, .int (nI 0))]) rfl ?_
  exact L30 (0 + 1) 0 (rfl) (Nat.lt_succ_self _)
set_option maxHeartbeats 4000000 in
set_option maxRecDepth 100000 in
theorem c_X9_lay_fit (G : GT) (md : Nat) (W : Nat) (H : Nat) (t : Int32) (m : Nat) (k : Nat) (zc : Nat) (zr : Nat) (zb : Nat) (z1 : Nat) (z2 : Nat) (z3 : Nat) (z4 : Nat) (z5 : Nat) (zm : Nat) (zmr : Nat) (zmb : Nat) (mt : Int32) (zca : Nat) (zcw : Nat) (c : Nat) (zg : Nat) (zt : Nat) (zs : Nat) (zf : Nat) (zy : Nat) (zso : Nat) (zsf : Nat) (zsm : Nat) (nt : Int32) (nsh : Int32) (ztp : Nat) (zrw : Nat) (zpp : Nat) (tn : Nat) (pn : Nat) (rdw : Int32) (rdh : Int32) (zsz : Nat) (zit : Nat) (zk : Nat) (itk : Bool) (f : Nat → Int32) (sz : Nat → Int32) (II : Nat → Nat → Int64) (li : Nat) (mm i : Nat) (hW1 : 2 ≤ W) (hW2 : W ≤ 16) (hH1 : 2 ≤ H) (hH2 : H ≤ 16) (hl : li < 4) (hsz : sz li = nI mm) (hmm : mm ≤ 20) (hi : i + H ≤ mm) (l : Launch) : CT l G yX9_lay cX9_lay 4 (some .int) { frames := 2, cells := 0, slots := 0, locals := 48 } [.ref md, .int (nI li), .int (nI i)] [(md, .inr (9, [.int (nI W), .int (nI H), .int t, .int (nI m), .int (nI k), .ref zc, .ref zr, .ref zb, .ref z1, .ref z2, .ref z3, .ref z4, .ref z5, .ref zm, .ref zmr, .ref zmb, .int mt, .ref zca, .ref zcw, .int (nI c), .ref zg, .ref zt, .ref zs, .ref zf, .ref zy, .ref zso, .ref zsf, .ref zsm, .int nt, .int nsh, .ref ztp, .ref zrw, .ref zpp, .int (nI tn), .int (nI pn), .int rdw, .int rdh, .ref zsz, .ref zit, .ref zk, .int (bI itk)])), (zc, ia G 16 f), (zsz, ia G 4 sz), (zit, la G 80 (itF II))] (fun vv ww => vv = some (.int (nI H)) ∧ ww = [(md, .inr (9, [.int (nI W), .int (nI H), .int t, .int (nI m), .int (nI k), .ref zc, .ref zr, .ref zb, .ref z1, .ref z2, .ref z3, .ref z4, .ref z5, .ref zm, .ref zmr, .ref zmb, .int mt, .ref zca, .ref zcw, .int (nI c), .ref zg, .ref zt, .ref zs, .ref zf, .ref zy, .ref zso, .ref zsf, .ref zsm, .int nt, .int nsh, .ref ztp, .ref zrw, .ref zpp, .int (nI tn), .int (nI pn), .int rdw, .int rdh, .ref zsz, .ref zit, .ref zk, .int (bI itk)])), (zc, ia G 16 f), (zsz, ia G 4 sz), (zit, la G 80 (itF (updA II li (layF f i (II li) H))))]) := by
  refine CT.of (lv := [(0, .ref md), (1, .int (nI li)), (2, .int (nI i))]) RX9 "lay" rfl rfl (by decide +kernel) (Nat.le_of_ble_eq_true rfl) rfl (fun X hX hR => ?_)
  have hsz2 : (sz li).toInt = mm := by rw [hsz, nI_toInt (by omega)]
  refine j_iload_n (pc := 0) hX dX9_lay_0 1 rfl ?_
  refine j_callS (pc := 1) hX kX9_isList kSX9_isList l_RX9_257 (fun l => c_X9_isList G (nI li)  l) [] [0, 1, 2, 3] [] rfl rfl rfl rfl ⟨rfl, rfl, by decide⟩ rfl rfl (Nat.le_of_ble_eq_true rfl) dX9_lay_1 (fun v w hq => ?_)
  obtain ⟨rfl, rfl⟩ := hq
  refine j_ws [0, 1, 2, 3] (ws' := [(md, .inr (9, [.int (nI W), .int (nI H), .int t, .int (nI m), .int (nI k), .ref zc, .ref zr, .ref zb, .ref z1, .ref z2, .ref z3, .ref z4, .ref z5, .ref zm, .ref zmr, .ref zmb, .int mt, .ref zca, .ref zcw, .int (nI c), .ref zg, .ref zt, .ref zs, .ref zf, .ref zy, .ref zso, .ref zsf, .ref zsm, .int nt, .int nsh, .ref ztp, .ref zrw, .ref zpp, .int (nI tn), .int (nI pn), .int rdw, .int rdh, .ref zsz, .ref zit, .ref zk, .int (bI itk)])), (zc, ia G 16 f), (zsz, ia G 4 sz), (zit, la G 80 (itF II))]) rfl rfl ?_
  refine j_ifB_ne (pc := 4) (tgt := 9) hX dX9_lay_4 (by decide) (fun c4 => ?_) (fun c4 => by rw [rng_t (x := nI li) (A := 0) (B := 3) (by rw [nI_toInt (by omega)]; omega)] at c4; cases c4)
  refine j_aload_n (pc := 9) hX dX9_lay_9 0 rfl ?_
  refine j_get (pc := 10) hX f_RX9_91 0 rfl rfl dX9_lay_10 ?_
  refine j_iload_n (pc := 13) hX dX9_lay_13 1 rfl ?_
  refine j_ialdN (pc := 14) (j := li) hX 2 rfl (by omega) (by omega) dX9_lay_14 ?_
  refine j_if_ge (pc := 15) (tgt := 21) hX dX9_lay_15 (by decide) rfl (fun c15 => ?_) (fun c15 => by exfalso; omega)
  refine j_iload_n (pc := 21) hX dX9_lay_21 2 rfl ?_
  refine j_if_ge (pc := 22) (tgt := 28) hX dX9_lay_22 (by decide) (nI_toInt (n := i) (by omega)) (fun c22 => ?_) (fun c22 => by exfalso; omega)
  refine j_iconstN (pc := 28) (j := 0) hX dX9_lay_28 rfl ?_
  refine j_istore_n (pc := 29) (lv' := [(3, .int (nI 0)), (0, .ref md), (1, .int (nI li)), (2, .int (nI i))]) hX dX9_lay_29 (by decide) rfl ?_
  have L30 : ∀ (m30 : Nat) (y : Nat) (its3 : Nat → Int64) (hy : y ≤ H) (hym : i + y ≤ mm ∨ y = 0) (h3 : its3 = itF (updA II li (layF f i (II li) y))), H - y < m30 → J X G 4 0 0 [(md, .inr (9, [.int (nI W), .int (nI H), .int t, .int (nI m), .int (nI k), .ref zc, .ref zr, .ref zb, .ref z1, .ref z2, .ref z3, .ref z4, .ref z5, .ref zm, .ref zmr, .ref zmb, .int mt, .ref zca, .ref zcw, .int (nI c), .ref zg, .ref zt, .ref zs, .ref zf, .ref zy, .ref zso, .ref zsf, .ref zsm, .int nt, .int nsh, .ref ztp, .ref zrw, .ref zpp, .int (nI tn), .int (nI pn), .int rdw, .int rdh, .ref zsz, .ref zit, .ref zk, .int (bI itk)])), (zc, ia G 16 f), (zsz, ia G 4 sz), (zit, la G 80 its3)] [(0, .ref md), (1, .int (nI li)), (2, .int (nI i)), (3, .int (nI y))] 30 [] := by
    intro m30
    induction m30 with
    | zero => intro y its3 hy hym h3 hm30; exact absurd hm30 (Nat.not_lt_zero _)
    | succ m30 ih30 =>
      intro y its3 hy hym h3 hm30
      refine j_iload_n (pc := 30) hX dX9_lay_30 3 rfl ?_
      refine j_aload_n (pc := 31) hX dX9_lay_31 0 rfl ?_
      refine j_get (pc := 32) hX f_RX9_15 0 rfl rfl dX9_lay_32 ?_
      refine j_icmp_ge (pc := 35) (tgt := 80) hX dX9_lay_35 (by decide) (nI_toInt (n := y) (by omega)) (nI_toInt (n := H) (by omega)) (fun c35 => ?_) (fun c35 => ?_)
      · skip
        refine j_aload_n (pc := 80) hX dX9_lay_80 0 rfl ?_
        refine j_get (pc := 81) hX f_RX9_15 0 rfl rfl dX9_lay_81 ?_
        refine j_la (q0 := 3) (f := its3) (g := itF (updA II li (layF f i (II li) H))) rfl (fun z hz => by rw [h3, show y = H from by omega]) (ws' := [(md, .inr (9, [.int (nI W), .int (nI H), .int t, .int (nI m), .int (nI k), .ref zc, .ref zr, .ref zb, .ref z1, .ref z2, .ref z3, .ref z4, .ref z5, .ref zm, .ref zmr, .ref zmb, .int mt, .ref zca, .ref zcw, .int (nI c), .ref zg, .ref zt, .ref zs, .ref zf, .ref zy, .ref zso, .ref zsf, .ref zsm, .int nt, .int nsh, .ref ztp, .ref zrw, .ref zpp, .int (nI tn), .int (nI pn), .int rdw, .int rdh, .ref zsz, .ref zit, .ref zk, .int (bI itk)])), (zc, ia G 16 f), (zsz, ia G 4 sz), (zit, la G 80 (itF (updA II li (layF f i (II li) H))))]) rfl ?_
        exact j_iret (pc := 84) hX hR dX9_lay_84 ⟨rfl, rfl⟩
      · skip
        refine j_aload_n (pc := 38) hX dX9_lay_38 0 rfl ?_
        refine j_iload_n (pc := 39) hX dX9_lay_39 1 rfl ?_
        refine j_iload_n (pc := 40) hX dX9_lay_40 2 rfl ?_
        refine j_i2l (pc := 41) hX dX9_lay_41 ?_
        refine j_iload_n (pc := 42) hX dX9_lay_42 3 rfl ?_
        refine j_i2l (pc := 43) hX dX9_lay_43 ?_
        refine j_ladd (pc := 44) hX dX9_lay_44 ?_
        refine j_callV (pc := 45) hX kX9_isPlace kVX9_isPlace l_RX9_260 (fun l => c_X9_isPlace G md W H t m k zc zr zb z1 z2 z3 z4 z5 zm zmr zmb mt zca zcw c zg zt zs zf zy zso zsf zsm nt nsh ztp zrw zpp tn pn rdw rdh zsz zit zk itk sz li (((nI i).toInt64) + ((nI y).toInt64)) (((i : Nat) : Int) + ((y : Nat) : Int)) (by omega) (by first | assumption | omega) (by rw [toL_add, nI_toInt (by omega), nI_toInt (by omega)]) l) [0, 2] [1, 3] [] rfl 0 9 rfl rfl rfl rfl rfl rfl ⟨rfl, rfl, by decide⟩ rfl rfl (Nat.le_of_ble_eq_true rfl) dX9_lay_45 (fun v w hq => ?_)
        obtain ⟨rfl, rfl⟩ := hq
        refine j_ws [2, 0, 3, 1] (ws' := [(md, .inr (9, [.int (nI W), .int (nI H), .int t, .int (nI m), .int (nI k), .ref zc, .ref zr, .ref zb, .ref z1, .ref z2, .ref z3, .ref z4, .ref z5, .ref zm, .ref zmr, .ref zmb, .int mt, .ref zca, .ref zcw, .int (nI c), .ref zg, .ref zt, .ref zs, .ref zf, .ref zy, .ref zso, .ref zsf, .ref zsm, .int nt, .int nsh, .ref ztp, .ref zrw, .ref zpp, .int (nI tn), .int (nI pn), .int rdw, .int rdh, .ref zsz, .ref zit, .ref zk, .int (bI itk)])), (zc, ia G 16 f), (zsz, ia G 4 sz), (zit, la G 80 its3)]) rfl rfl ?_
        refine j_ifB_ne (pc := 48) (tgt := 54) hX dX9_lay_48 (by decide) (fun c48 => ?_) (fun c48 => by exfalso; have := of_decide_eq_false c48; omega)
        refine j_aload_n (pc := 54) hX dX9_lay_54 0 rfl ?_
        refine j_get (pc := 55) hX f_RX9_94 0 rfl rfl dX9_lay_55 ?_
        refine j_bipush (pc := 58) (v := nI 20) hX dX9_lay_58 (by decide) ?_
        refine j_iload_n (pc := 60) hX dX9_lay_60 1 rfl ?_
        refine j_imul (pc := 61) hX dX9_lay_61 ?_
        refine j_topi (y := nI (20 * li)) (pk_mul _ _) ?_
        refine j_iload_n (pc := 62) hX dX9_lay_62 2 rfl ?_
        refine j_iadd (pc := 63) hX dX9_lay_63 ?_
        refine j_topi (y := nI (20 * li + i)) (nI_add _ _) ?_
        refine j_iload_n (pc := 64) hX dX9_lay_64 3 rfl ?_
        refine j_iadd (pc := 65) hX dX9_lay_65 ?_
        refine j_topi (y := nI (20 * li + i + y)) (nI_add _ _) ?_
        refine j_aload_n (pc := 66) hX dX9_lay_66 0 rfl ?_
        refine j_get (pc := 67) hX f_RX9_18 0 rfl rfl dX9_lay_67 ?_
        refine j_iload_n (pc := 70) hX dX9_lay_70 3 rfl ?_
        refine j_ialdN (pc := 71) (j := y) hX 1 rfl (by omega) (by omega) dX9_lay_71 ?_
        refine j_i2l (pc := 72) hX dX9_lay_72 ?_
        refine j_last (pc := 73) (j := 20 * li + i + y) (ws' := [(md, .inr (9, [.int (nI W), .int (nI H), .int t, .int (nI m), .int (nI k), .ref zc, .ref zr, .ref zb, .ref z1, .ref z2, .ref z3, .ref z4, .ref z5, .ref zm, .ref zmr, .ref zmb, .int mt, .ref zca, .ref zcw, .int (nI c), .ref zg, .ref zt, .ref zs, .ref zf, .ref zy, .ref zso, .ref zsf, .ref zsm, .int nt, .int nsh, .ref ztp, .ref zrw, .ref zpp, .int (nI tn), .int (nI pn), .int rdw, .int rdh, .ref zsz, .ref zit, .ref zk, .int (bI itk)])), (zc, ia G 16 f), (zsz, ia G 4 sz), (zit, la G 80 (vp_updL its3 (20 * li + i + y) ((f y).toInt64)))]) hX 3 rfl (by omega) (by omega) rfl dX9_lay_73 ?_
        refine j_iinc (pc := 74) (q := 3) (v := nI (y + 1)) (lv' := [(3, .int (nI (y + 1))), (0, .ref md), (1, .int (nI li)), (2, .int (nI i))]) hX dX9_lay_74 rfl (nI_inc _ 1) (by decide) rfl ?_
        refine j_goto (pc := 77) (tgt := 30) hX dX9_lay_77 (by decide) ?_
        refine j_lv [1, 2, 3, 0] (lv' := [(0, .ref md), (1, .int (nI li)), (2, .int (nI i)), (3, .int (nI (y + 1)))]) rfl ?_
        exact ih30 (y + 1) (vp_updL its3 (20 * li + i + y) ((f y).toInt64)) (by omega) (by omega) (by rw [h3, Nat.add_assoc]; funext w; rw [itF_set (by omega), updA_at, updA_2]; rfl) (by omega)
  refine j_lv [1, 2, 3, 0] (lv' := [(0, .ref md), (1, .int (nI li)), (2, .int (nI i)), (3, .int (nI 0))]) rfl ?_
  exact L30 ((H - 0) + 1) 0 (itF II) (by omega) (by omega) (by show _ = itF (updA II li (II li)); rw [updA_id]) (Nat.lt_succ_self _)
set_option maxHeartbeats 4000000 in
set_option maxRecDepth 100000 in
theorem c_X9_lay_cut (G : GT) (md : Nat) (W : Nat) (H : Nat) (t : Int32) (m : Nat) (k : Nat) (zc : Nat) (zr : Nat) (zb : Nat) (z1 : Nat) (z2 : Nat) (z3 : Nat) (z4 : Nat) (z5 : Nat) (zm : Nat) (zmr : Nat) (zmb : Nat) (mt : Int32) (zca : Nat) (zcw : Nat) (c : Nat) (zg : Nat) (zt : Nat) (zs : Nat) (zf : Nat) (zy : Nat) (zso : Nat) (zsf : Nat) (zsm : Nat) (nt : Int32) (nsh : Int32) (ztp : Nat) (zrw : Nat) (zpp : Nat) (tn : Nat) (pn : Nat) (rdw : Int32) (rdh : Int32) (zsz : Nat) (zit : Nat) (zk : Nat) (itk : Bool) (f : Nat → Int32) (sz : Nat → Int32) (II : Nat → Nat → Int64) (li : Nat) (mm i : Nat) (hW1 : 2 ≤ W) (hW2 : W ≤ 16) (hH1 : 2 ≤ H) (hH2 : H ≤ 16) (hl : li < 4) (hsz : sz li = nI mm) (hmm : mm ≤ 20) (hi : mm < i + H) (hi2 : i < 20) (l : Launch) : CT l G yX9_lay cX9_lay 4 (some .int) { frames := 2, cells := 0, slots := 0, locals := 48 } [.ref md, .int (nI li), .int (nI i)] [(md, .inr (9, [.int (nI W), .int (nI H), .int t, .int (nI m), .int (nI k), .ref zc, .ref zr, .ref zb, .ref z1, .ref z2, .ref z3, .ref z4, .ref z5, .ref zm, .ref zmr, .ref zmb, .int mt, .ref zca, .ref zcw, .int (nI c), .ref zg, .ref zt, .ref zs, .ref zf, .ref zy, .ref zso, .ref zsf, .ref zsm, .int nt, .int nsh, .ref ztp, .ref zrw, .ref zpp, .int (nI tn), .int (nI pn), .int rdw, .int rdh, .ref zsz, .ref zit, .ref zk, .int (bI itk)])), (zc, ia G 16 f), (zsz, ia G 4 sz), (zit, la G 80 (itF II))] (fun vv ww => vv = some (.int (-13)) ∧ ww = [(md, .inr (9, [.int (nI W), .int (nI H), .int t, .int (nI m), .int (nI k), .ref zc, .ref zr, .ref zb, .ref z1, .ref z2, .ref z3, .ref z4, .ref z5, .ref zm, .ref zmr, .ref zmb, .int mt, .ref zca, .ref zcw, .int (nI c), .ref zg, .ref zt, .ref zs, .ref zf, .ref zy, .ref zso, .ref zsf, .ref zsm, .int nt, .int nsh, .ref ztp, .ref zrw, .ref zpp, .int (nI tn), .int (nI pn), .int rdw, .int rdh, .ref zsz, .ref zit, .ref zk, .int (bI itk)])), (zc, ia G 16 f), (zsz, ia G 4 sz), (zit, la G 80 (itF (updA II li (layF f i (II li) (mm - i)))))]) := by
  refine CT.of (lv := [(0, .ref md), (1, .int (nI li)), (2, .int (nI i))]) RX9 "lay" rfl rfl (by decide +kernel) (Nat.le_of_ble_eq_true rfl) rfl (fun X hX hR => ?_)
  have hsz2 : (sz li).toInt = mm := by rw [hsz, nI_toInt (by omega)]
  refine j_iload_n (pc := 0) hX dX9_lay_0 1 rfl ?_
  refine j_callS (pc := 1) hX kX9_isList kSX9_isList l_RX9_257 (fun l => c_X9_isList G (nI li)  l) [] [0, 1, 2, 3] [] rfl rfl rfl rfl ⟨rfl, rfl, by decide⟩ rfl rfl (Nat.le_of_ble_eq_true rfl) dX9_lay_1 (fun v w hq => ?_)
  obtain ⟨rfl, rfl⟩ := hq
  refine j_ws [0, 1, 2, 3] (ws' := [(md, .inr (9, [.int (nI W), .int (nI H), .int t, .int (nI m), .int (nI k), .ref zc, .ref zr, .ref zb, .ref z1, .ref z2, .ref z3, .ref z4, .ref z5, .ref zm, .ref zmr, .ref zmb, .int mt, .ref zca, .ref zcw, .int (nI c), .ref zg, .ref zt, .ref zs, .ref zf, .ref zy, .ref zso, .ref zsf, .ref zsm, .int nt, .int nsh, .ref ztp, .ref zrw, .ref zpp, .int (nI tn), .int (nI pn), .int rdw, .int rdh, .ref zsz, .ref zit, .ref zk, .int (bI itk)])), (zc, ia G 16 f), (zsz, ia G 4 sz), (zit, la G 80 (itF II))]) rfl rfl ?_
  refine j_ifB_ne (pc := 4) (tgt := 9) hX dX9_lay_4 (by decide) (fun c4 => ?_) (fun c4 => by rw [rng_t (x := nI li) (A := 0) (B := 3) (by rw [nI_toInt (by omega)]; omega)] at c4; cases c4)
  refine j_aload_n (pc := 9) hX dX9_lay_9 0 rfl ?_
  refine j_get (pc := 10) hX f_RX9_91 0 rfl rfl dX9_lay_10 ?_
  refine j_iload_n (pc := 13) hX dX9_lay_13 1 rfl ?_
  refine j_ialdN (pc := 14) (j := li) hX 2 rfl (by omega) (by omega) dX9_lay_14 ?_
  refine j_if_ge (pc := 15) (tgt := 21) hX dX9_lay_15 (by decide) rfl (fun c15 => ?_) (fun c15 => by exfalso; omega)
  refine j_iload_n (pc := 21) hX dX9_lay_21 2 rfl ?_
  refine j_if_ge (pc := 22) (tgt := 28) hX dX9_lay_22 (by decide) (nI_toInt (n := i) (by omega)) (fun c22 => ?_) (fun c22 => by exfalso; omega)
  refine j_iconstN (pc := 28) (j := 0) hX dX9_lay_28 rfl ?_
  refine j_istore_n (pc := 29) (lv' := [(3, .int (nI 0)), (0, .ref md), (1, .int (nI li)), (2, .int (nI i))]) hX dX9_lay_29 (by decide) rfl ?_
  have L30 : ∀ (m30 : Nat) (y : Nat) (its3 : Nat → Int64) (hy : y ≤ H) (hym : i + y ≤ mm ∨ y = 0) (h3 : its3 = itF (updA II li (layF f i (II li) y))), H - y < m30 → J X G 4 0 0 [(md, .inr (9, [.int (nI W), .int (nI H), .int t, .int (nI m), .int (nI k), .ref zc, .ref zr, .ref zb, .ref z1, .ref z2, .ref z3, .ref z4, .ref z5, .ref zm, .ref zmr, .ref zmb, .int mt, .ref zca, .ref zcw, .int (nI c), .ref zg, .ref zt, .ref zs, .ref zf, .ref zy, .ref zso, .ref zsf, .ref zsm, .int nt, .int nsh, .ref ztp, .ref zrw, .ref zpp, .int (nI tn), .int (nI pn), .int rdw, .int rdh, .ref zsz, .ref zit, .ref zk, .int (bI itk)])), (zc, ia G 16 f), (zsz, ia G 4 sz), (zit, la G 80 its3)] [(0, .ref md), (1, .int (nI li)), (2, .int (nI i)), (3, .int (nI y))] 30 [] := by
    intro m30
    induction m30 with
    | zero => intro y its3 hy hym h3 hm30; exact absurd hm30 (Nat.not_lt_zero _)
    | succ m30 ih30 =>
      intro y its3 hy hym h3 hm30
      refine j_iload_n (pc := 30) hX dX9_lay_30 3 rfl ?_
      refine j_aload_n (pc := 31) hX dX9_lay_31 0 rfl ?_
      refine j_get (pc := 32) hX f_RX9_15 0 rfl rfl dX9_lay_32 ?_
      refine j_icmp_ge (pc := 35) (tgt := 80) hX dX9_lay_35 (by decide) (nI_toInt (n := y) (by omega)) (nI_toInt (n := H) (by omega)) (fun c35 => by exfalso; omega) (fun c35 => ?_)
      refine j_aload_n (pc := 38) hX dX9_lay_38 0 rfl ?_
      refine j_iload_n (pc := 39) hX dX9_lay_39 1 rfl ?_
      refine j_iload_n (pc := 40) hX dX9_lay_40 2 rfl ?_
      refine j_i2l (pc := 41) hX dX9_lay_41 ?_
      refine j_iload_n (pc := 42) hX dX9_lay_42 3 rfl ?_
      refine j_i2l (pc := 43) hX dX9_lay_43 ?_
      refine j_ladd (pc := 44) hX dX9_lay_44 ?_
      refine j_callV (pc := 45) hX kX9_isPlace kVX9_isPlace l_RX9_260 (fun l => c_X9_isPlace G md W H t m k zc zr zb z1 z2 z3 z4 z5 zm zmr zmb mt zca zcw c zg zt zs zf zy zso zsf zsm nt nsh ztp zrw zpp tn pn rdw rdh zsz zit zk itk sz li (((nI i).toInt64) + ((nI y).toInt64)) (((i : Nat) : Int) + ((y : Nat) : Int)) (by omega) (by first | assumption | omega) (by rw [toL_add, nI_toInt (by omega), nI_toInt (by omega)]) l) [0, 2] [1, 3] [] rfl 0 9 rfl rfl rfl rfl rfl rfl ⟨rfl, rfl, by decide⟩ rfl rfl (Nat.le_of_ble_eq_true rfl) dX9_lay_45 (fun v w hq => ?_)
      obtain ⟨rfl, rfl⟩ := hq
      refine j_ws [2, 0, 3, 1] (ws' := [(md, .inr (9, [.int (nI W), .int (nI H), .int t, .int (nI m), .int (nI k), .ref zc, .ref zr, .ref zb, .ref z1, .ref z2, .ref z3, .ref z4, .ref z5, .ref zm, .ref zmr, .ref zmb, .int mt, .ref zca, .ref zcw, .int (nI c), .ref zg, .ref zt, .ref zs, .ref zf, .ref zy, .ref zso, .ref zsf, .ref zsm, .int nt, .int nsh, .ref ztp, .ref zrw, .ref zpp, .int (nI tn), .int (nI pn), .int rdw, .int rdh, .ref zsz, .ref zit, .ref zk, .int (bI itk)])), (zc, ia G 16 f), (zsz, ia G 4 sz), (zit, la G 80 its3)]) rfl rfl ?_
      refine j_ifB_ne (pc := 48) (tgt := 54) hX dX9_lay_48 (by decide) (fun c48 => ?_) (fun c48 => ?_)
      · skip
        have c48 := of_decide_eq_true c48
        refine j_aload_n (pc := 54) hX dX9_lay_54 0 rfl ?_
        refine j_get (pc := 55) hX f_RX9_94 0 rfl rfl dX9_lay_55 ?_
        refine j_bipush (pc := 58) (v := nI 20) hX dX9_lay_58 (by decide) ?_
        refine j_iload_n (pc := 60) hX dX9_lay_60 1 rfl ?_
        refine j_imul (pc := 61) hX dX9_lay_61 ?_
        refine j_topi (y := nI (20 * li)) (pk_mul _ _) ?_
        refine j_iload_n (pc := 62) hX dX9_lay_62 2 rfl ?_
        refine j_iadd (pc := 63) hX dX9_lay_63 ?_
        refine j_topi (y := nI (20 * li + i)) (nI_add _ _) ?_
        refine j_iload_n (pc := 64) hX dX9_lay_64 3 rfl ?_
        refine j_iadd (pc := 65) hX dX9_lay_65 ?_
        refine j_topi (y := nI (20 * li + i + y)) (nI_add _ _) ?_
        refine j_aload_n (pc := 66) hX dX9_lay_66 0 rfl ?_
        refine j_get (pc := 67) hX f_RX9_18 0 rfl rfl dX9_lay_67 ?_
        refine j_iload_n (pc := 70) hX dX9_lay_70 3 rfl ?_
        refine j_ialdN (pc := 71) (j := y) hX 1 rfl (by omega) (by omega) dX9_lay_71 ?_
        refine j_i2l (pc := 72) hX dX9_lay_72 ?_
        refine j_last (pc := 73) (j := 20 * li + i + y) (ws' := [(md, .inr (9, [.int (nI W), .int (nI H), .int t, .int (nI m), .int (nI k), .ref zc, .ref zr, .ref zb, .ref z1, .ref z2, .ref z3, .ref z4, .ref z5, .ref zm, .ref zmr, .ref zmb, .int mt, .ref zca, .ref zcw, .int (nI c), .ref zg, .ref zt, .ref zs, .ref zf, .ref zy, .ref zso, .ref zsf, .ref zsm, .int nt, .int nsh, .ref ztp, .ref zrw, .ref zpp, .int (nI tn), .int (nI pn), .int rdw, .int rdh, .ref zsz, .ref zit, .ref zk, .int (bI itk)])), (zc, ia G 16 f), (zsz, ia G 4 sz), (zit, la G 80 (vp_updL its3 (20 * li + i + y) ((f y).toInt64)))]) hX 3 rfl (by omega) (by omega) rfl dX9_lay_73 ?_
        refine j_iinc (pc := 74) (q := 3) (v := nI (y + 1)) (lv' := [(3, .int (nI (y + 1))), (0, .ref md), (1, .int (nI li)), (2, .int (nI i))]) hX dX9_lay_74 rfl (nI_inc _ 1) (by decide) rfl ?_
        refine j_goto (pc := 77) (tgt := 30) hX dX9_lay_77 (by decide) ?_
        refine j_lv [1, 2, 3, 0] (lv' := [(0, .ref md), (1, .int (nI li)), (2, .int (nI i)), (3, .int (nI (y + 1)))]) rfl ?_
        exact ih30 (y + 1) (vp_updL its3 (20 * li + i + y) ((f y).toInt64)) (by omega) (by omega) (by rw [h3, Nat.add_assoc]; funext w; rw [itF_set (by omega), updA_at, updA_2]; rfl) (by omega)
      · skip
        have c48 := of_decide_eq_false c48
        refine j_bipush (pc := 51) (v := (-13)) hX dX9_lay_51 (by decide) ?_
        refine j_la (q0 := 3) (f := its3) (g := itF (updA II li (layF f i (II li) (mm - i)))) rfl (fun z hz => by rw [h3, show y = mm - i from by omega]) (ws' := [(md, .inr (9, [.int (nI W), .int (nI H), .int t, .int (nI m), .int (nI k), .ref zc, .ref zr, .ref zb, .ref z1, .ref z2, .ref z3, .ref z4, .ref z5, .ref zm, .ref zmr, .ref zmb, .int mt, .ref zca, .ref zcw, .int (nI c), .ref zg, .ref zt, .ref zs, .ref zf, .ref zy, .ref zso, .ref zsf, .ref zsm, .int nt, .int nsh, .ref ztp, .ref zrw, .ref zpp, .int (nI tn), .int (nI pn), .int rdw, .int rdh, .ref zsz, .ref zit, .ref zk, .int (bI itk)])), (zc, ia G 16 f), (zsz, ia G 4 sz), (zit, la G 80 (itF (updA II li (layF f i (II li) (mm - i)))))]) rfl ?_
        exact j_iret (pc := 53) hX hR dX9_lay_53 ⟨rfl, rfl⟩
  refine j_lv [1, 2, 3, 0] (lv' := [(0, .ref md), (1, .int (nI li)), (2, .int (nI i)), (3, .int (nI 0))]) rfl ?_
  exact L30 ((H - 0) + 1) 0 (itF II) (by omega) (by omega) (by show _ = itF (updA II li (II li)); rw [updA_id]) (Nat.lt_succ_self _)
set_option maxHeartbeats 4000000 in
set_option maxRecDepth 100000 in
theorem c_X9_load_none (G : GT) (md : Nat) (W : Nat) (H : Nat) (t : Int32) (m : Nat) (k : Nat) (zc : Nat) (zr : Nat) (zb : Nat) (z1 : Nat) (z2 : Nat) (z3 : Nat) (z4 : Nat) (z5 : Nat) (zm : Nat) (zmr : Nat) (zmb : Nat) (mt : Int32) (zca : Nat) (zcw : Nat) (c : Nat) (zg : Nat) (zt : Nat) (zs : Nat) (zf : Nat) (zy : Nat) (zso : Nat) (zsf : Nat) (zsm : Nat) (nt : Int32) (nsh : Int32) (ztp : Nat) (zrw : Nat) (zpp : Nat) (tn : Nat) (pn : Nat) (rdw : Int32) (rdh : Int32) (zsz : Nat) (zit : Nat) (zk : Nat) (itk : Bool) (li i : Int32) (hl : li.toInt < 0 ∨ 4 ≤ li.toInt) (l : Launch) : CT l G yX9_load cX9_load 4 (some .int) { frames := 2, cells := 0, slots := 0, locals := 45 } [.ref md, .int li, .int i] [(md, .inr (9, [.int (nI W), .int (nI H), .int t, .int (nI m), .int (nI k), .ref zc, .ref zr, .ref zb, .ref z1, .ref z2, .ref z3, .ref z4, .ref z5, .ref zm, .ref zmr, .ref zmb, .int mt, .ref zca, .ref zcw, .int (nI c), .ref zg, .ref zt, .ref zs, .ref zf, .ref zy, .ref zso, .ref zsf, .ref zsm, .int nt, .int nsh, .ref ztp, .ref zrw, .ref zpp, .int (nI tn), .int (nI pn), .int rdw, .int rdh, .ref zsz, .ref zit, .ref zk, .int (bI itk)]))] (fun vv ww => vv = some (.int (-1)) ∧ ww = [(md, .inr (9, [.int (nI W), .int (nI H), .int t, .int (nI m), .int (nI k), .ref zc, .ref zr, .ref zb, .ref z1, .ref z2, .ref z3, .ref z4, .ref z5, .ref zm, .ref zmr, .ref zmb, .int mt, .ref zca, .ref zcw, .int (nI c), .ref zg, .ref zt, .ref zs, .ref zf, .ref zy, .ref zso, .ref zsf, .ref zsm, .int nt, .int nsh, .ref ztp, .ref zrw, .ref zpp, .int (nI tn), .int (nI pn), .int rdw, .int rdh, .ref zsz, .ref zit, .ref zk, .int (bI itk)]))]) := by
  refine CT.of (lv := [(0, .ref md), (1, .int li), (2, .int i)]) RX9 "load" rfl rfl (by decide +kernel) (Nat.le_of_ble_eq_true rfl) rfl (fun X hX hR => ?_)
  refine j_iload_n (pc := 0) hX dX9_load_0 1 rfl ?_
  refine j_callS (pc := 1) hX kX9_isList kSX9_isList l_RX9_257 (fun l => c_X9_isList G li  l) [] [0] [] rfl rfl rfl rfl ⟨rfl, rfl, by decide⟩ rfl rfl (Nat.le_of_ble_eq_true rfl) dX9_load_1 (fun v w hq => ?_)
  obtain ⟨rfl, rfl⟩ := hq
  refine j_ws [0] (ws' := [(md, .inr (9, [.int (nI W), .int (nI H), .int t, .int (nI m), .int (nI k), .ref zc, .ref zr, .ref zb, .ref z1, .ref z2, .ref z3, .ref z4, .ref z5, .ref zm, .ref zmr, .ref zmb, .int mt, .ref zca, .ref zcw, .int (nI c), .ref zg, .ref zt, .ref zs, .ref zf, .ref zy, .ref zso, .ref zsf, .ref zsm, .int nt, .int nsh, .ref ztp, .ref zrw, .ref zpp, .int (nI tn), .int (nI pn), .int rdw, .int rdh, .ref zsz, .ref zit, .ref zk, .int (bI itk)]))]) rfl rfl ?_
  refine j_ifB_ne (pc := 4) (tgt := 9) hX dX9_load_4 (by decide) (fun c4 => by exfalso; have := of_decide_eq_true c4; omega) (fun c4 => ?_)
  refine j_iconst (pc := 7) (v := (-1)) hX dX9_load_7 (by decide) ?_
  exact j_iret (pc := 8) hX hR dX9_load_8 ⟨rfl, rfl⟩
set_option maxHeartbeats 4000000 in
set_option maxRecDepth 100000 in
theorem c_X9_load_nothing (G : GT) (md : Nat) (W : Nat) (H : Nat) (t : Int32) (m : Nat) (k : Nat) (zc : Nat) (zr : Nat) (zb : Nat) (z1 : Nat) (z2 : Nat) (z3 : Nat) (z4 : Nat) (z5 : Nat) (zm : Nat) (zmr : Nat) (zmb : Nat) (mt : Int32) (zca : Nat) (zcw : Nat) (c : Nat) (zg : Nat) (zt : Nat) (zs : Nat) (zf : Nat) (zy : Nat) (zso : Nat) (zsf : Nat) (zsm : Nat) (nt : Int32) (nsh : Int32) (ztp : Nat) (zrw : Nat) (zpp : Nat) (tn : Nat) (pn : Nat) (rdw : Int32) (rdh : Int32) (zsz : Nat) (zit : Nat) (zk : Nat) (itk : Bool) (sz : Nat → Int32) (li : Nat) (i : Int32) (hl : li < 4) (hm : (sz li).toInt < 0) (l : Launch) : CT l G yX9_load cX9_load 4 (some .int) { frames := 2, cells := 0, slots := 0, locals := 45 } [.ref md, .int (nI li), .int i] [(md, .inr (9, [.int (nI W), .int (nI H), .int t, .int (nI m), .int (nI k), .ref zc, .ref zr, .ref zb, .ref z1, .ref z2, .ref z3, .ref z4, .ref z5, .ref zm, .ref zmr, .ref zmb, .int mt, .ref zca, .ref zcw, .int (nI c), .ref zg, .ref zt, .ref zs, .ref zf, .ref zy, .ref zso, .ref zsf, .ref zsm, .int nt, .int nsh, .ref ztp, .ref zrw, .ref zpp, .int (nI tn), .int (nI pn), .int rdw, .int rdh, .ref zsz, .ref zit, .ref zk, .int (bI itk)])), (zsz, ia G 4 sz)] (fun vv ww => vv = some (.int (-11)) ∧ ww = [(md, .inr (9, [.int (nI W), .int (nI H), .int t, .int (nI m), .int (nI k), .ref zc, .ref zr, .ref zb, .ref z1, .ref z2, .ref z3, .ref z4, .ref z5, .ref zm, .ref zmr, .ref zmb, .int mt, .ref zca, .ref zcw, .int (nI c), .ref zg, .ref zt, .ref zs, .ref zf, .ref zy, .ref zso, .ref zsf, .ref zsm, .int nt, .int nsh, .ref ztp, .ref zrw, .ref zpp, .int (nI tn), .int (nI pn), .int rdw, .int rdh, .ref zsz, .ref zit, .ref zk, .int (bI itk)])), (zsz, ia G 4 sz)]) := by
  refine CT.of (lv := [(0, .ref md), (1, .int (nI li)), (2, .int i)]) RX9 "load" rfl rfl (by decide +kernel) (Nat.le_of_ble_eq_true rfl) rfl (fun X hX hR => ?_)
  refine j_iload_n (pc := 0) hX dX9_load_0 1 rfl ?_
  refine j_callS (pc := 1) hX kX9_isList kSX9_isList l_RX9_257 (fun l => c_X9_isList G (nI li)  l) [] [0, 1] [] rfl rfl rfl rfl ⟨rfl, rfl, by decide⟩ rfl rfl (Nat.le_of_ble_eq_true rfl) dX9_load_1 (fun v w hq => ?_)
  obtain ⟨rfl, rfl⟩ := hq
  refine j_ws [0, 1] (ws' := [(md, .inr (9, [.int (nI W), .int (nI H), .int t, .int (nI m), .int (nI k), .ref zc, .ref zr, .ref zb, .ref z1, .ref z2, .ref z3, .ref z4, .ref z5, .ref zm, .ref zmr, .ref zmb, .int mt, .ref zca, .ref zcw, .int (nI c), .ref zg, .ref zt, .ref zs, .ref zf, .ref zy, .ref zso, .ref zsf, .ref zsm, .int nt, .int nsh, .ref ztp, .ref zrw, .ref zpp, .int (nI tn), .int (nI pn), .int rdw, .int rdh, .ref zsz, .ref zit, .ref zk, .int (bI itk)])), (zsz, ia G 4 sz)]) rfl rfl ?_
  refine j_ifB_ne (pc := 4) (tgt := 9) hX dX9_load_4 (by decide) (fun c4 => ?_) (fun c4 => by rw [rng_t (x := nI li) (A := 0) (B := 3) (by rw [nI_toInt (by omega)]; omega)] at c4; cases c4)
  refine j_aload_n (pc := 9) hX dX9_load_9 0 rfl ?_
  refine j_get (pc := 10) hX f_RX9_91 0 rfl rfl dX9_load_10 ?_
  refine j_iload_n (pc := 13) hX dX9_load_13 1 rfl ?_
  refine j_ialdN (pc := 14) (j := li) hX 1 rfl (by omega) (by omega) dX9_load_14 ?_
  refine j_if_ge (pc := 15) (tgt := 21) hX dX9_load_15 (by decide) rfl (fun c15 => by exfalso; omega) (fun c15 => ?_)
  refine j_bipush (pc := 18) (v := (-11)) hX dX9_load_18 (by decide) ?_
  exact j_iret (pc := 20) hX hR dX9_load_20 ⟨rfl, rfl⟩
set_option maxHeartbeats 4000000 in
set_option maxRecDepth 100000 in
theorem c_X9_load_place (G : GT) (md : Nat) (W : Nat) (H : Nat) (t : Int32) (m : Nat) (k : Nat) (zc : Nat) (zr : Nat) (zb : Nat) (z1 : Nat) (z2 : Nat) (z3 : Nat) (z4 : Nat) (z5 : Nat) (zm : Nat) (zmr : Nat) (zmb : Nat) (mt : Int32) (zca : Nat) (zcw : Nat) (c : Nat) (zg : Nat) (zt : Nat) (zs : Nat) (zf : Nat) (zy : Nat) (zso : Nat) (zsf : Nat) (zsm : Nat) (nt : Int32) (nsh : Int32) (ztp : Nat) (zrw : Nat) (zpp : Nat) (tn : Nat) (pn : Nat) (rdw : Int32) (rdh : Int32) (zsz : Nat) (zit : Nat) (zk : Nat) (itk : Bool) (sz : Nat → Int32) (li : Nat) (mm : Nat) (i : Int32) (hW1 : 2 ≤ W) (hW2 : W ≤ 16) (hH1 : 2 ≤ H) (hH2 : H ≤ 16) (hl : li < 4) (hsz : sz li = nI mm) (hmm : mm ≤ 20) (hi : i.toInt < 0 ∨ (mm : Int) < i.toInt + H) (l : Launch) : CT l G yX9_load cX9_load 4 (some .int) { frames := 2, cells := 0, slots := 0, locals := 45 } [.ref md, .int (nI li), .int i] [(md, .inr (9, [.int (nI W), .int (nI H), .int t, .int (nI m), .int (nI k), .ref zc, .ref zr, .ref zb, .ref z1, .ref z2, .ref z3, .ref z4, .ref z5, .ref zm, .ref zmr, .ref zmb, .int mt, .ref zca, .ref zcw, .int (nI c), .ref zg, .ref zt, .ref zs, .ref zf, .ref zy, .ref zso, .ref zsf, .ref zsm, .int nt, .int nsh, .ref ztp, .ref zrw, .ref zpp, .int (nI tn), .int (nI pn), .int rdw, .int rdh, .ref zsz, .ref zit, .ref zk, .int (bI itk)])), (zsz, ia G 4 sz)] (fun vv ww => vv = some (.int (-13)) ∧ ww = [(md, .inr (9, [.int (nI W), .int (nI H), .int t, .int (nI m), .int (nI k), .ref zc, .ref zr, .ref zb, .ref z1, .ref z2, .ref z3, .ref z4, .ref z5, .ref zm, .ref zmr, .ref zmb, .int mt, .ref zca, .ref zcw, .int (nI c), .ref zg, .ref zt, .ref zs, .ref zf, .ref zy, .ref zso, .ref zsf, .ref zsm, .int nt, .int nsh, .ref ztp, .ref zrw, .ref zpp, .int (nI tn), .int (nI pn), .int rdw, .int rdh, .ref zsz, .ref zit, .ref zk, .int (bI itk)])), (zsz, ia G 4 sz)]) := by
  refine CT.of (lv := [(0, .ref md), (1, .int (nI li)), (2, .int i)]) RX9 "load" rfl rfl (by decide +kernel) (Nat.le_of_ble_eq_true rfl) rfl (fun X hX hR => ?_)
  have hsz2 : (sz li).toInt = mm := by rw [hsz, nI_toInt (by omega)]
  refine j_iload_n (pc := 0) hX dX9_load_0 1 rfl ?_
  refine j_callS (pc := 1) hX kX9_isList kSX9_isList l_RX9_257 (fun l => c_X9_isList G (nI li)  l) [] [0, 1] [] rfl rfl rfl rfl ⟨rfl, rfl, by decide⟩ rfl rfl (Nat.le_of_ble_eq_true rfl) dX9_load_1 (fun v w hq => ?_)
  obtain ⟨rfl, rfl⟩ := hq
  refine j_ws [0, 1] (ws' := [(md, .inr (9, [.int (nI W), .int (nI H), .int t, .int (nI m), .int (nI k), .ref zc, .ref zr, .ref zb, .ref z1, .ref z2, .ref z3, .ref z4, .ref z5, .ref zm, .ref zmr, .ref zmb, .int mt, .ref zca, .ref zcw, .int (nI c), .ref zg, .ref zt, .ref zs, .ref zf, .ref zy, .ref zso, .ref zsf, .ref zsm, .int nt, .int nsh, .ref ztp, .ref zrw, .ref zpp, .int (nI tn), .int (nI pn), .int rdw, .int rdh, .ref zsz, .ref zit, .ref zk, .int (bI itk)])), (zsz, ia G 4 sz)]) rfl rfl ?_
  refine j_ifB_ne (pc := 4) (tgt := 9) hX dX9_load_4 (by decide) (fun c4 => ?_) (fun c4 => by rw [rng_t (x := nI li) (A := 0) (B := 3) (by rw [nI_toInt (by omega)]; omega)] at c4; cases c4)
  refine j_aload_n (pc := 9) hX dX9_load_9 0 rfl ?_
  refine j_get (pc := 10) hX f_RX9_91 0 rfl rfl dX9_load_10 ?_
  refine j_iload_n (pc := 13) hX dX9_load_13 1 rfl ?_
  refine j_ialdN (pc := 14) (j := li) hX 1 rfl (by omega) (by omega) dX9_load_14 ?_
  refine j_if_ge (pc := 15) (tgt := 21) hX dX9_load_15 (by decide) rfl (fun c15 => ?_) (fun c15 => by exfalso; omega)
  refine j_iload_n (pc := 21) hX dX9_load_21 2 rfl ?_
  refine j_if_lt (pc := 22) (tgt := 44) hX dX9_load_22 (by decide) rfl (fun c22 => ?_) (fun c22 => ?_)
  · skip
    refine j_bipush (pc := 44) (v := (-13)) hX dX9_load_44 (by decide) ?_
    exact j_iret (pc := 46) hX hR dX9_load_46 ⟨rfl, rfl⟩
  · skip
    refine j_iload_n (pc := 25) hX dX9_load_25 2 rfl ?_
    refine j_i2l (pc := 26) hX dX9_load_26 ?_
    refine j_aload_n (pc := 27) hX dX9_load_27 0 rfl ?_
    refine j_get (pc := 28) hX f_RX9_15 0 rfl rfl dX9_load_28 ?_
    refine j_i2l (pc := 31) hX dX9_load_31 ?_
    refine j_ladd (pc := 32) hX dX9_load_32 ?_
    refine j_aload_n (pc := 33) hX dX9_load_33 0 rfl ?_
    refine j_get (pc := 34) hX f_RX9_91 0 rfl rfl dX9_load_34 ?_
    refine j_iload_n (pc := 37) hX dX9_load_37 1 rfl ?_
    refine j_ialdN (pc := 38) (j := li) hX 1 rfl (by omega) (by omega) dX9_load_38 ?_
    refine j_i2l (pc := 39) hX dX9_load_39 ?_
    refine j_lcmp (pc := 40) hX dX9_load_40 ?_
    refine j_if_le (pc := 41) (tgt := 47) hX dX9_load_41 (by decide) rfl (fun c41 => by exfalso; have := lg_ngt c41; rw [toL_add, toL, nI_toInt (by omega)] at this; omega) (fun c41 => ?_)
    refine j_bipush (pc := 44) (v := (-13)) hX dX9_load_44 (by decide) ?_
    exact j_iret (pc := 46) hX hR dX9_load_46 ⟨rfl, rfl⟩
set_option maxHeartbeats 4000000 in
set_option maxRecDepth 100000 in
theorem c_X9_load_ok (G : GT) (md : Nat) (W : Nat) (H : Nat) (t : Int32) (m : Nat) (k : Nat) (zc : Nat) (zr : Nat) (zb : Nat) (z1 : Nat) (z2 : Nat) (z3 : Nat) (z4 : Nat) (z5 : Nat) (zm : Nat) (zmr : Nat) (zmb : Nat) (mt : Int32) (zca : Nat) (zcw : Nat) (c : Nat) (zg : Nat) (zt : Nat) (zs : Nat) (zf : Nat) (zy : Nat) (zso : Nat) (zsf : Nat) (zsm : Nat) (nt : Int32) (nsh : Int32) (ztp : Nat) (zrw : Nat) (zpp : Nat) (tn : Nat) (pn : Nat) (rdw : Int32) (rdh : Int32) (zsz : Nat) (zit : Nat) (zk : Nat) (itk : Bool) (f : Nat → Int32) (sz : Nat → Int32) (II : Nat → Nat → Int64) (li : Nat) (mm i : Nat) (hW1 : 2 ≤ W) (hW2 : W ≤ 16) (hH1 : 2 ≤ H) (hH2 : H ≤ 16) (hl : li < 4) (hsz : sz li = nI mm) (hmm : mm ≤ 20) (hi : i + H ≤ mm) (hf : ∀ y, rN (f y) < 2 ^ W) (l : Launch) : CT l G yX9_load cX9_load 4 (some .int) { frames := 2, cells := 0, slots := 0, locals := 45 } [.ref md, .int (nI li), .int (nI i)] [(md, .inr (9, [.int (nI W), .int (nI H), .int t, .int (nI m), .int (nI k), .ref zc, .ref zr, .ref zb, .ref z1, .ref z2, .ref z3, .ref z4, .ref z5, .ref zm, .ref zmr, .ref zmb, .int mt, .ref zca, .ref zcw, .int (nI c), .ref zg, .ref zt, .ref zs, .ref zf, .ref zy, .ref zso, .ref zsf, .ref zsm, .int nt, .int nsh, .ref ztp, .ref zrw, .ref zpp, .int (nI tn), .int (nI pn), .int rdw, .int rdh, .ref zsz, .ref zit, .ref zk, .int (bI itk)])), (zc, ia G 16 f), (zsz, ia G 4 sz), (zit, la G 80 (itF II))] (fun vv ww => vv = some (.int (nI (cnt (ldF W (II li) i f H) H))) ∧ ww = [(md, .inr (9, [.int (nI W), .int (nI H), .int t, .int (nI m), .int (nI k), .ref zc, .ref zr, .ref zb, .ref z1, .ref z2, .ref z3, .ref z4, .ref z5, .ref zm, .ref zmr, .ref zmb, .int mt, .ref zca, .ref zcw, .int (nI 0), .ref zg, .ref zt, .ref zs, .ref zf, .ref zy, .ref zso, .ref zsf, .ref zsm, .int nt, .int nsh, .ref ztp, .ref zrw, .ref zpp, .int (nI tn), .int (nI pn), .int rdw, .int rdh, .ref zsz, .ref zit, .ref zk, .int (bI itk)])), (zc, ia G 16 (ldF W (II li) i f H)), (zsz, ia G 4 sz), (zit, la G 80 (itF II))]) := by
  refine CT.of (lv := [(0, .ref md), (1, .int (nI li)), (2, .int (nI i))]) RX9 "load" rfl rfl (by decide +kernel) (Nat.le_of_ble_eq_true rfl) rfl (fun X hX hR => ?_)
  have hsz2 : (sz li).toInt = mm := by rw [hsz, nI_toInt (by omega)]
  refine j_iload_n (pc := 0) hX dX9_load_0 1 rfl ?_
  refine j_callS (pc := 1) hX kX9_isList kSX9_isList l_RX9_257 (fun l => c_X9_isList G (nI li)  l) [] [0, 1, 2, 3] [] rfl rfl rfl rfl ⟨rfl, rfl, by decide⟩ rfl rfl (Nat.le_of_ble_eq_true rfl) dX9_load_1 (fun v w hq => ?_)
  obtain ⟨rfl, rfl⟩ := hq
  refine j_ws [0, 1, 2, 3] (ws' := [(md, .inr (9, [.int (nI W), .int (nI H), .int t, .int (nI m), .int (nI k), .ref zc, .ref zr, .ref zb, .ref z1, .ref z2, .ref z3, .ref z4, .ref z5, .ref zm, .ref zmr, .ref zmb, .int mt, .ref zca, .ref zcw, .int (nI c), .ref zg, .ref zt, .ref zs, .ref zf, .ref zy, .ref zso, .ref zsf, .ref zsm, .int nt, .int nsh, .ref ztp, .ref zrw, .ref zpp, .int (nI tn), .int (nI pn), .int rdw, .int rdh, .ref zsz, .ref zit, .ref zk, .int (bI itk)])), (zc, ia G 16 f), (zsz, ia G 4 sz), (zit, la G 80 (itF II))]) rfl rfl ?_
  refine j_ifB_ne (pc := 4) (tgt := 9) hX dX9_load_4 (by decide) (fun c4 => ?_) (fun c4 => by rw [rng_t (x := nI li) (A := 0) (B := 3) (by rw [nI_toInt (by omega)]; omega)] at c4; cases c4)
  refine j_aload_n (pc := 9) hX dX9_load_9 0 rfl ?_
  refine j_get (pc := 10) hX f_RX9_91 0 rfl rfl dX9_load_10 ?_
  refine j_iload_n (pc := 13) hX dX9_load_13 1 rfl ?_
  refine j_ialdN (pc := 14) (j := li) hX 2 rfl (by omega) (by omega) dX9_load_14 ?_
  refine j_if_ge (pc := 15) (tgt := 21) hX dX9_load_15 (by decide) rfl (fun c15 => ?_) (fun c15 => by exfalso; omega)
  refine j_iload_n (pc := 21) hX dX9_load_21 2 rfl ?_
  refine j_if_lt (pc := 22) (tgt := 44) hX dX9_load_22 (by decide) (nI_toInt (n := i) (by omega)) (fun c22 => by exfalso; omega) (fun c22 => ?_)
  refine j_iload_n (pc := 25) hX dX9_load_25 2 rfl ?_
  refine j_i2l (pc := 26) hX dX9_load_26 ?_
  refine j_aload_n (pc := 27) hX dX9_load_27 0 rfl ?_
  refine j_get (pc := 28) hX f_RX9_15 0 rfl rfl dX9_load_28 ?_
  refine j_i2l (pc := 31) hX dX9_load_31 ?_
  refine j_ladd (pc := 32) hX dX9_load_32 ?_
  refine j_aload_n (pc := 33) hX dX9_load_33 0 rfl ?_
  refine j_get (pc := 34) hX f_RX9_91 0 rfl rfl dX9_load_34 ?_
  refine j_iload_n (pc := 37) hX dX9_load_37 1 rfl ?_
  refine j_ialdN (pc := 38) (j := li) hX 2 rfl (by omega) (by omega) dX9_load_38 ?_
  refine j_i2l (pc := 39) hX dX9_load_39 ?_
  refine j_lcmp (pc := 40) hX dX9_load_40 ?_
  refine j_if_le (pc := 41) (tgt := 47) hX dX9_load_41 (by decide) rfl (fun c41 => ?_) (fun c41 => by exfalso; have := lg_gt c41; rw [toL_add, toL, nI_toInt (by omega), nI_toInt (by omega)] at this; omega)
  refine j_iconstN (pc := 47) (j := 0) hX dX9_load_47 rfl ?_
  refine j_istore_n (pc := 48) (lv' := [(3, .int (nI 0)), (0, .ref md), (1, .int (nI li)), (2, .int (nI i))]) hX dX9_load_48 (by decide) rfl ?_
  have L49 : ∀ (m49 : Nat) (y : Nat) (f3 : Nat → Int32) (hy : y ≤ H) (h3 : f3 = ldF W (II li) i f y), H - y < m49 → J X G 4 0 0 [(md, .inr (9, [.int (nI W), .int (nI H), .int t, .int (nI m), .int (nI k), .ref zc, .ref zr, .ref zb, .ref z1, .ref z2, .ref z3, .ref z4, .ref z5, .ref zm, .ref zmr, .ref zmb, .int mt, .ref zca, .ref zcw, .int (nI c), .ref zg, .ref zt, .ref zs, .ref zf, .ref zy, .ref zso, .ref zsf, .ref zsm, .int nt, .int nsh, .ref ztp, .ref zrw, .ref zpp, .int (nI tn), .int (nI pn), .int rdw, .int rdh, .ref zsz, .ref zit, .ref zk, .int (bI itk)])), (zc, ia G 16 f3), (zsz, ia G 4 sz), (zit, la G 80 (itF II))] [(0, .ref md), (1, .int (nI li)), (2, .int (nI i)), (3, .int (nI y))] 49 [] := by
    intro m49
    induction m49 with
    | zero => intro y f3 hy h3 hm49; exact absurd hm49 (Nat.not_lt_zero _)
    | succ m49 ih49 =>
      intro y f3 hy h3 hm49
      refine j_iload_n (pc := 49) hX dX9_load_49 3 rfl ?_
      refine j_aload_n (pc := 50) hX dX9_load_50 0 rfl ?_
      refine j_get (pc := 51) hX f_RX9_15 0 rfl rfl dX9_load_51 ?_
      refine j_icmp_ge (pc := 54) (tgt := 92) hX dX9_load_54 (by decide) (nI_toInt (n := y) (by omega)) (nI_toInt (n := H) (by omega)) (fun c54 => ?_) (fun c54 => ?_)
      · skip
        have hyH : y = H := by omega
        refine j_ia (q0 := 1) (f := f3) (g := ldF W (II li) i f H) rfl (fun z hz => by rw [h3, hyH]) (ws' := [(md, .inr (9, [.int (nI W), .int (nI H), .int t, .int (nI m), .int (nI k), .ref zc, .ref zr, .ref zb, .ref z1, .ref z2, .ref z3, .ref z4, .ref z5, .ref zm, .ref zmr, .ref zmb, .int mt, .ref zca, .ref zcw, .int (nI c), .ref zg, .ref zt, .ref zs, .ref zf, .ref zy, .ref zso, .ref zsf, .ref zsm, .int nt, .int nsh, .ref ztp, .ref zrw, .ref zpp, .int (nI tn), .int (nI pn), .int rdw, .int rdh, .ref zsz, .ref zit, .ref zk, .int (bI itk)])), (zc, ia G 16 (ldF W (II li) i f H)), (zsz, ia G 4 sz), (zit, la G 80 (itF II))]) rfl ?_
        refine j_aload_n (pc := 92) hX dX9_load_92 0 rfl ?_
        refine j_iconstN (pc := 93) (j := 0) hX dX9_load_93 rfl ?_
        refine j_put (pc := 94) (ws' := [(md, .inr (9, [.int (nI W), .int (nI H), .int t, .int (nI m), .int (nI k), .ref zc, .ref zr, .ref zb, .ref z1, .ref z2, .ref z3, .ref z4, .ref z5, .ref zm, .ref zmr, .ref zmb, .int mt, .ref zca, .ref zcw, .int (nI 0), .ref zg, .ref zt, .ref zs, .ref zf, .ref zy, .ref zso, .ref zsf, .ref zsm, .int nt, .int nsh, .ref ztp, .ref zrw, .ref zpp, .int (nI tn), .int (nI pn), .int rdw, .int rdh, .ref zsz, .ref zit, .ref zk, .int (bI itk)])), (zc, ia G 16 (ldF W (II li) i f H)), (zsz, ia G 4 sz), (zit, la G 80 (itF II))]) hX f_RX9_156 0 rfl rfl rfl (Nat.le_of_ble_eq_true rfl) rfl dX9_load_94 ?_
        refine j_aload_n (pc := 97) hX dX9_load_97 0 rfl ?_
        refine j_aload_n (pc := 98) hX dX9_load_98 0 rfl ?_
        refine j_get (pc := 99) hX f_RX9_18 0 rfl rfl dX9_load_99 ?_
        refine j_callV (pc := 102) hX kX9_countOf kVX9_countOf l_RX9_163 (fun l => c_X9_countOf G md W H t m k zc zr zb z1 z2 z3 z4 z5 zm zmr zmb mt zca zcw 0 zg zt zs zf zy zso zsf zsm nt nsh ztp zrw zpp tn pn rdw rdh zsz zit zk itk (ldF W (II li) i f H) zc (ldF W (II li) i f H) (by omega) (by omega) (by omega) (by omega) (fun z => lt16 (by omega) (ldF_lt (by omega) hf H z)) l) [0, 1] [2, 3] [] rfl 0 9 rfl rfl rfl rfl rfl rfl ⟨rfl, rfl, by decide⟩ rfl rfl (Nat.le_of_ble_eq_true rfl) dX9_load_102 (fun v w hq => ?_)
        obtain ⟨rfl, rfl⟩ := hq
        refine j_ws [2, 3, 0, 1] (ws' := [(md, .inr (9, [.int (nI W), .int (nI H), .int t, .int (nI m), .int (nI k), .ref zc, .ref zr, .ref zb, .ref z1, .ref z2, .ref z3, .ref z4, .ref z5, .ref zm, .ref zmr, .ref zmb, .int mt, .ref zca, .ref zcw, .int (nI 0), .ref zg, .ref zt, .ref zs, .ref zf, .ref zy, .ref zso, .ref zsf, .ref zsm, .int nt, .int nsh, .ref ztp, .ref zrw, .ref zpp, .int (nI tn), .int (nI pn), .int rdw, .int rdh, .ref zsz, .ref zit, .ref zk, .int (bI itk)])), (zc, ia G 16 (ldF W (II li) i f H)), (zsz, ia G 4 sz), (zit, la G 80 (itF II))]) rfl rfl ?_
        exact j_iret (pc := 105) hX hR dX9_load_105 ⟨rfl, rfl⟩
      · skip
        refine j_aload_n (pc := 57) hX dX9_load_57 0 rfl ?_
        refine j_get (pc := 58) hX f_RX9_18 0 rfl rfl dX9_load_58 ?_
        refine j_iload_n (pc := 61) hX dX9_load_61 3 rfl ?_
        refine j_aload_n (pc := 62) hX dX9_load_62 0 rfl ?_
        refine j_get (pc := 63) hX f_RX9_94 0 rfl rfl dX9_load_63 ?_
        refine j_bipush (pc := 66) (v := nI 20) hX dX9_load_66 (by decide) ?_
        refine j_iload_n (pc := 68) hX dX9_load_68 1 rfl ?_
        refine j_imul (pc := 69) hX dX9_load_69 ?_
        refine j_topi (y := nI (20 * li)) (pk_mul _ _) ?_
        refine j_iload_n (pc := 70) hX dX9_load_70 2 rfl ?_
        refine j_iadd (pc := 71) hX dX9_load_71 ?_
        refine j_topi (y := nI (20 * li + i)) (nI_add _ _) ?_
        refine j_iload_n (pc := 72) hX dX9_load_72 3 rfl ?_
        refine j_iadd (pc := 73) hX dX9_load_73 ?_
        refine j_topi (y := nI (20 * li + i + y)) (nI_add _ _) ?_
        refine j_lald (pc := 74) (j := 20 * li + i + y) hX 3 rfl (by omega) (by omega) dX9_load_74 ?_
        refine j_lconst (pc := 75) (v := 1) hX dX9_load_75 (by decide) ?_
        refine j_aload_n (pc := 76) hX dX9_load_76 0 rfl ?_
        refine j_get (pc := 77) hX f_RX9_9 0 rfl rfl dX9_load_77 ?_
        refine j_lshl (pc := 80) hX dX9_load_80 ?_
        refine j_lconst (pc := 81) (v := 1) hX dX9_load_81 (by decide) ?_
        refine j_lsub (pc := 82) hX dX9_load_82 ?_
        refine j_land (pc := 83) hX dX9_load_83 ?_
        refine j_l2i (pc := 84) hX dX9_load_84 ?_
        refine j_iastN (pc := 85) (j := y) (ws' := [(md, .inr (9, [.int (nI W), .int (nI H), .int t, .int (nI m), .int (nI k), .ref zc, .ref zr, .ref zb, .ref z1, .ref z2, .ref z3, .ref z4, .ref z5, .ref zm, .ref zmr, .ref zmb, .int mt, .ref zca, .ref zcw, .int (nI c), .ref zg, .ref zt, .ref zs, .ref zf, .ref zy, .ref zso, .ref zsf, .ref zsm, .int nt, .int nsh, .ref ztp, .ref zrw, .ref zpp, .int (nI tn), .int (nI pn), .int rdw, .int rdh, .ref zsz, .ref zit, .ref zk, .int (bI itk)])), (zc, ia G 16 (upd f3 y ((((itF II) (20 * li + i + y)) &&& (((1 : Int64) <<< ((nI W).toInt64 &&& 63)) - 1)).toInt32))), (zsz, ia G 4 sz), (zit, la G 80 (itF II))]) hX 1 rfl (by omega) (by omega) rfl dX9_load_85 ?_
        refine j_iinc (pc := 86) (q := 3) (v := nI (y + 1)) (lv' := [(3, .int (nI (y + 1))), (0, .ref md), (1, .int (nI li)), (2, .int (nI i))]) hX dX9_load_86 rfl (nI_inc _ 1) (by decide) rfl ?_
        refine j_goto (pc := 89) (tgt := 49) hX dX9_load_89 (by decide) ?_
        refine j_lv [1, 2, 3, 0] (lv' := [(0, .ref md), (1, .int (nI li)), (2, .int (nI i)), (3, .int (nI (y + 1)))]) rfl ?_
        exact ih49 (y + 1) (upd f3 y ((((itF II) (20 * li + i + y)) &&& (((1 : Int64) <<< ((nI W).toInt64 &&& 63)) - 1)).toInt32)) (by omega) (by rw [h3, Nat.add_assoc, itF_at (by omega), ld_eq (by omega)]; rfl) (by omega)
  refine j_lv [1, 2, 3, 0] (lv' := [(0, .ref md), (1, .int (nI li)), (2, .int (nI i)), (3, .int (nI 0))]) rfl ?_
  exact L49 ((H - 0) + 1) 0 f (by omega) (rfl) (Nat.lt_succ_self _)
set_option maxHeartbeats 4000000 in
set_option maxRecDepth 100000 in
theorem c_X9_judge_none (G : GT) (md : Nat) (W : Nat) (H : Nat) (t : Int32) (m : Nat) (k : Nat) (zc : Nat) (zr : Nat) (zb : Nat) (z1 : Nat) (z2 : Nat) (z3 : Nat) (z4 : Nat) (z5 : Nat) (zm : Nat) (zmr : Nat) (zmb : Nat) (mt : Int32) (zca : Nat) (zcw : Nat) (c : Nat) (zg : Nat) (zt : Nat) (zs : Nat) (zf : Nat) (zy : Nat) (zso : Nat) (zsf : Nat) (zsm : Nat) (nt : Int32) (nsh : Int32) (ztp : Nat) (zrw : Nat) (zpp : Nat) (tn : Nat) (pn : Nat) (rdw : Int32) (rdh : Int32) (zsz : Nat) (zit : Nat) (zk : Nat) (itk : Bool) (li i : Int32) (hl : li.toInt < 0 ∨ 4 ≤ li.toInt) (l : Launch) : CT l G yX9_judge cX9_judge 4 (some .int) { frames := 2, cells := 0, slots := 0, locals := 48 } [.ref md, .int li, .int i] [(md, .inr (9, [.int (nI W), .int (nI H), .int t, .int (nI m), .int (nI k), .ref zc, .ref zr, .ref zb, .ref z1, .ref z2, .ref z3, .ref z4, .ref z5, .ref zm, .ref zmr, .ref zmb, .int mt, .ref zca, .ref zcw, .int (nI c), .ref zg, .ref zt, .ref zs, .ref zf, .ref zy, .ref zso, .ref zsf, .ref zsm, .int nt, .int nsh, .ref ztp, .ref zrw, .ref zpp, .int (nI tn), .int (nI pn), .int rdw, .int rdh, .ref zsz, .ref zit, .ref zk, .int (bI itk)]))] (fun vv ww => vv = some (.int (-1)) ∧ ww = [(md, .inr (9, [.int (nI W), .int (nI H), .int t, .int (nI m), .int (nI k), .ref zc, .ref zr, .ref zb, .ref z1, .ref z2, .ref z3, .ref z4, .ref z5, .ref zm, .ref zmr, .ref zmb, .int mt, .ref zca, .ref zcw, .int (nI c), .ref zg, .ref zt, .ref zs, .ref zf, .ref zy, .ref zso, .ref zsf, .ref zsm, .int nt, .int nsh, .ref ztp, .ref zrw, .ref zpp, .int (nI tn), .int (nI pn), .int rdw, .int rdh, .ref zsz, .ref zit, .ref zk, .int (bI itk)]))]) := by
  refine CT.of (lv := [(0, .ref md), (1, .int li), (2, .int i)]) RX9 "judge" rfl rfl (by decide +kernel) (Nat.le_of_ble_eq_true rfl) rfl (fun X hX hR => ?_)
  refine j_iload_n (pc := 0) hX dX9_judge_0 1 rfl ?_
  refine j_callS (pc := 1) hX kX9_isList kSX9_isList l_RX9_257 (fun l => c_X9_isList G li  l) [] [0] [] rfl rfl rfl rfl ⟨rfl, rfl, by decide⟩ rfl rfl (Nat.le_of_ble_eq_true rfl) dX9_judge_1 (fun v w hq => ?_)
  obtain ⟨rfl, rfl⟩ := hq
  refine j_ws [0] (ws' := [(md, .inr (9, [.int (nI W), .int (nI H), .int t, .int (nI m), .int (nI k), .ref zc, .ref zr, .ref zb, .ref z1, .ref z2, .ref z3, .ref z4, .ref z5, .ref zm, .ref zmr, .ref zmb, .int mt, .ref zca, .ref zcw, .int (nI c), .ref zg, .ref zt, .ref zs, .ref zf, .ref zy, .ref zso, .ref zsf, .ref zsm, .int nt, .int nsh, .ref ztp, .ref zrw, .ref zpp, .int (nI tn), .int (nI pn), .int rdw, .int rdh, .ref zsz, .ref zit, .ref zk, .int (bI itk)]))]) rfl rfl ?_
  refine j_ifB_ne (pc := 4) (tgt := 9) hX dX9_judge_4 (by decide) (fun c4 => by exfalso; have := of_decide_eq_true c4; omega) (fun c4 => ?_)
  refine j_iconst (pc := 7) (v := (-1)) hX dX9_judge_7 (by decide) ?_
  exact j_iret (pc := 8) hX hR dX9_judge_8 ⟨rfl, rfl⟩
set_option maxHeartbeats 4000000 in
set_option maxRecDepth 100000 in
theorem c_X9_judge_far (G : GT) (md : Nat) (W : Nat) (H : Nat) (t : Int32) (m : Nat) (k : Nat) (zc : Nat) (zr : Nat) (zb : Nat) (z1 : Nat) (z2 : Nat) (z3 : Nat) (z4 : Nat) (z5 : Nat) (zm : Nat) (zmr : Nat) (zmb : Nat) (mt : Int32) (zca : Nat) (zcw : Nat) (c : Nat) (zg : Nat) (zt : Nat) (zs : Nat) (zf : Nat) (zy : Nat) (zso : Nat) (zsf : Nat) (zsm : Nat) (nt : Int32) (nsh : Int32) (ztp : Nat) (zrw : Nat) (zpp : Nat) (tn : Nat) (pn : Nat) (rdw : Int32) (rdh : Int32) (zsz : Nat) (zit : Nat) (zk : Nat) (itk : Bool) (sz : Nat → Int32) (li : Nat) (i : Int32) (hW1 : 2 ≤ W) (hW2 : W ≤ 16) (hH1 : 2 ≤ H) (hH2 : H ≤ 16) (hl : li < 4) (hs : -1 ≤ (sz li).toInt ∧ (sz li).toInt ≤ 20) (hi : i.toInt < 0 ∨ 20 ≤ i.toInt) (l : Launch) : CT l G yX9_judge cX9_judge 4 (some .int) { frames := 2, cells := 0, slots := 0, locals := 48 } [.ref md, .int (nI li), .int i] [(md, .inr (9, [.int (nI W), .int (nI H), .int t, .int (nI m), .int (nI k), .ref zc, .ref zr, .ref zb, .ref z1, .ref z2, .ref z3, .ref z4, .ref z5, .ref zm, .ref zmr, .ref zmb, .int mt, .ref zca, .ref zcw, .int (nI c), .ref zg, .ref zt, .ref zs, .ref zf, .ref zy, .ref zso, .ref zsf, .ref zsm, .int nt, .int nsh, .ref ztp, .ref zrw, .ref zpp, .int (nI tn), .int (nI pn), .int rdw, .int rdh, .ref zsz, .ref zit, .ref zk, .int (bI itk)])), (zsz, ia G 4 sz)] (fun vv ww => vv = some (.int (nI 100)) ∧ ww = [(md, .inr (9, [.int (nI W), .int (nI H), .int t, .int (nI m), .int (nI k), .ref zc, .ref zr, .ref zb, .ref z1, .ref z2, .ref z3, .ref z4, .ref z5, .ref zm, .ref zmr, .ref zmb, .int mt, .ref zca, .ref zcw, .int (nI c), .ref zg, .ref zt, .ref zs, .ref zf, .ref zy, .ref zso, .ref zsf, .ref zsm, .int nt, .int nsh, .ref ztp, .ref zrw, .ref zpp, .int (nI tn), .int (nI pn), .int rdw, .int rdh, .ref zsz, .ref zit, .ref zk, .int (bI itk)])), (zsz, ia G 4 sz)]) := by
  refine CT.of (lv := [(0, .ref md), (1, .int (nI li)), (2, .int i)]) RX9 "judge" rfl rfl (by decide +kernel) (Nat.le_of_ble_eq_true rfl) rfl (fun X hX hR => ?_)
  refine j_iload_n (pc := 0) hX dX9_judge_0 1 rfl ?_
  refine j_callS (pc := 1) hX kX9_isList kSX9_isList l_RX9_257 (fun l => c_X9_isList G (nI li)  l) [] [0, 1] [] rfl rfl rfl rfl ⟨rfl, rfl, by decide⟩ rfl rfl (Nat.le_of_ble_eq_true rfl) dX9_judge_1 (fun v w hq => ?_)
  obtain ⟨rfl, rfl⟩ := hq
  refine j_ws [0, 1] (ws' := [(md, .inr (9, [.int (nI W), .int (nI H), .int t, .int (nI m), .int (nI k), .ref zc, .ref zr, .ref zb, .ref z1, .ref z2, .ref z3, .ref z4, .ref z5, .ref zm, .ref zmr, .ref zmb, .int mt, .ref zca, .ref zcw, .int (nI c), .ref zg, .ref zt, .ref zs, .ref zf, .ref zy, .ref zso, .ref zsf, .ref zsm, .int nt, .int nsh, .ref ztp, .ref zrw, .ref zpp, .int (nI tn), .int (nI pn), .int rdw, .int rdh, .ref zsz, .ref zit, .ref zk, .int (bI itk)])), (zsz, ia G 4 sz)]) rfl rfl ?_
  refine j_ifB_ne (pc := 4) (tgt := 9) hX dX9_judge_4 (by decide) (fun c4 => ?_) (fun c4 => by rw [rng_t (x := nI li) (A := 0) (B := 3) (by rw [nI_toInt (by omega)]; omega)] at c4; cases c4)
  refine j_iconstN (pc := 9) (j := 0) hX dX9_judge_9 rfl ?_
  refine j_istore_n (pc := 10) (lv' := [(3, .int (nI 0)), (0, .ref md), (1, .int (nI li)), (2, .int i)]) hX dX9_judge_10 (by decide) rfl ?_
  have L11 : ∀ (m11 : Nat) (y : Nat) (hy : y = 0), 0 < m11 → J X G 4 0 0 [(md, .inr (9, [.int (nI W), .int (nI H), .int t, .int (nI m), .int (nI k), .ref zc, .ref zr, .ref zb, .ref z1, .ref z2, .ref z3, .ref z4, .ref z5, .ref zm, .ref zmr, .ref zmb, .int mt, .ref zca, .ref zcw, .int (nI c), .ref zg, .ref zt, .ref zs, .ref zf, .ref zy, .ref zso, .ref zsf, .ref zsm, .int nt, .int nsh, .ref ztp, .ref zrw, .ref zpp, .int (nI tn), .int (nI pn), .int rdw, .int rdh, .ref zsz, .ref zit, .ref zk, .int (bI itk)])), (zsz, ia G 4 sz)] [(0, .ref md), (1, .int (nI li)), (2, .int i), (3, .int (nI y))] 11 [] := by
    intro m11
    induction m11 with
    | zero => intro y hy hm11; exact absurd hm11 (Nat.not_lt_zero _)
    | succ m11 ih11 =>
      intro y hy hm11
      refine j_iload_n (pc := 11) hX dX9_judge_11 3 rfl ?_
      refine j_aload_n (pc := 12) hX dX9_judge_12 0 rfl ?_
      refine j_get (pc := 13) hX f_RX9_15 0 rfl rfl dX9_judge_13 ?_
      refine j_icmp_ge (pc := 16) (tgt := 73) hX dX9_judge_16 (by decide) (nI_toInt (n := y) (by omega)) (nI_toInt (n := H) (by omega)) (fun c16 => by exfalso; omega) (fun c16 => ?_)
      refine j_iload_n (pc := 19) hX dX9_judge_19 2 rfl ?_
      refine j_if_lt (pc := 20) (tgt := 36) hX dX9_judge_20 (by decide) rfl (fun c20 => ?_) (fun c20 => ?_)
      · skip
        refine j_bipush (pc := 36) (v := nI 100) hX dX9_judge_36 (by decide) ?_
        refine j_iload_n (pc := 38) hX dX9_judge_38 3 rfl ?_
        refine j_iadd (pc := 39) hX dX9_judge_39 ?_
        refine j_topi (y := nI (100 + y)) (nI_add _ _) ?_
        exact j_iret (pc := 40) hX hR dX9_judge_40 ⟨congrArg some (show Value.int (nI (100 + y)) = Value.int (nI 100) from by rw [hy]), rfl⟩
      · skip
        refine j_aload_n (pc := 23) hX dX9_judge_23 0 rfl ?_
        refine j_iload_n (pc := 24) hX dX9_judge_24 1 rfl ?_
        refine j_iload_n (pc := 25) hX dX9_judge_25 2 rfl ?_
        refine j_i2l (pc := 26) hX dX9_judge_26 ?_
        refine j_iload_n (pc := 27) hX dX9_judge_27 3 rfl ?_
        refine j_i2l (pc := 28) hX dX9_judge_28 ?_
        refine j_ladd (pc := 29) hX dX9_judge_29 ?_
        refine j_callV (pc := 30) hX kX9_isPlace kVX9_isPlace l_RX9_260 (fun l => c_X9_isPlace G md W H t m k zc zr zb z1 z2 z3 z4 z5 zm zmr zmb mt zca zcw c zg zt zs zf zy zso zsf zsm nt nsh ztp zrw zpp tn pn rdw rdh zsz zit zk itk sz li (i.toInt64 + ((nI y).toInt64)) (i.toInt + ((y : Nat) : Int)) (by omega) (by first | assumption | omega) (by rw [toL_add, nI_toInt (by omega)]) l) [0, 1] [] [] rfl 0 9 rfl rfl rfl rfl rfl rfl ⟨rfl, rfl, by decide⟩ rfl rfl (Nat.le_of_ble_eq_true rfl) dX9_judge_30 (fun v w hq => ?_)
        obtain ⟨rfl, rfl⟩ := hq
        refine j_ws [0, 1] (ws' := [(md, .inr (9, [.int (nI W), .int (nI H), .int t, .int (nI m), .int (nI k), .ref zc, .ref zr, .ref zb, .ref z1, .ref z2, .ref z3, .ref z4, .ref z5, .ref zm, .ref zmr, .ref zmb, .int mt, .ref zca, .ref zcw, .int (nI c), .ref zg, .ref zt, .ref zs, .ref zf, .ref zy, .ref zso, .ref zsf, .ref zsm, .int nt, .int nsh, .ref ztp, .ref zrw, .ref zpp, .int (nI tn), .int (nI pn), .int rdw, .int rdh, .ref zsz, .ref zit, .ref zk, .int (bI itk)])), (zsz, ia G 4 sz)]) rfl rfl ?_
        refine j_ifB_ne (pc := 33) (tgt := 41) hX dX9_judge_33 (by decide) (fun c33 => by exfalso; have := of_decide_eq_true c33; omega) (fun c33 => ?_)
        refine j_bipush (pc := 36) (v := nI 100) hX dX9_judge_36 (by decide) ?_
        refine j_iload_n (pc := 38) hX dX9_judge_38 3 rfl ?_
        refine j_iadd (pc := 39) hX dX9_judge_39 ?_
        refine j_topi (y := nI (100 + y)) (nI_add _ _) ?_
        exact j_iret (pc := 40) hX hR dX9_judge_40 ⟨congrArg some (show Value.int (nI (100 + y)) = Value.int (nI 100) from by rw [hy]), rfl⟩
  refine j_lv [1, 2, 3, 0] (lv' := [(0, .ref md), (1, .int (nI li)), (2, .int i), (3, .int (nI 0))]) rfl ?_
  exact L11 (0 + 1) 0 (rfl) (Nat.lt_succ_self _)
set_option maxHeartbeats 4000000 in
set_option maxRecDepth 100000 in
theorem c_X9_judge_ok (G : GT) (md : Nat) (W : Nat) (H : Nat) (t : Int32) (m : Nat) (k : Nat) (zc : Nat) (zr : Nat) (zb : Nat) (z1 : Nat) (z2 : Nat) (z3 : Nat) (z4 : Nat) (z5 : Nat) (zm : Nat) (zmr : Nat) (zmb : Nat) (mt : Int32) (zca : Nat) (zcw : Nat) (c : Nat) (zg : Nat) (zt : Nat) (zs : Nat) (zf : Nat) (zy : Nat) (zso : Nat) (zsf : Nat) (zsm : Nat) (nt : Int32) (nsh : Int32) (ztp : Nat) (zrw : Nat) (zpp : Nat) (tn : Nat) (pn : Nat) (rdw : Int32) (rdh : Int32) (zsz : Nat) (zit : Nat) (zk : Nat) (itk : Bool) (f : Nat → Int32) (sz : Nat → Int32) (II : Nat → Nat → Int64) (li : Nat) (i : Nat) (hW1 : 2 ≤ W) (hW2 : W ≤ 16) (hH1 : 2 ≤ H) (hH2 : H ≤ 16) (hl : li < 4) (hs : -1 ≤ (sz li).toInt ∧ (sz li).toInt ≤ 20) (hi : i < 20) (l : Launch) : CT l G yX9_judge cX9_judge 4 (some .int) { frames := 2, cells := 0, slots := 0, locals := 48 } [.ref md, .int (nI li), .int (nI i)] [(md, .inr (9, [.int (nI W), .int (nI H), .int t, .int (nI m), .int (nI k), .ref zc, .ref zr, .ref zb, .ref z1, .ref z2, .ref z3, .ref z4, .ref z5, .ref zm, .ref zmr, .ref zmb, .int mt, .ref zca, .ref zcw, .int (nI c), .ref zg, .ref zt, .ref zs, .ref zf, .ref zy, .ref zso, .ref zsf, .ref zsm, .int nt, .int nsh, .ref ztp, .ref zrw, .ref zpp, .int (nI tn), .int (nI pn), .int rdw, .int rdh, .ref zsz, .ref zit, .ref zk, .int (bI itk)])), (zc, ia G 16 f), (zsz, ia G 4 sz), (zit, la G 80 (itF II))] (fun vv ww => vv = some (.int (jdR H (sz li) i (II li) f)) ∧ ww = [(md, .inr (9, [.int (nI W), .int (nI H), .int t, .int (nI m), .int (nI k), .ref zc, .ref zr, .ref zb, .ref z1, .ref z2, .ref z3, .ref z4, .ref z5, .ref zm, .ref zmr, .ref zmb, .int mt, .ref zca, .ref zcw, .int (nI c), .ref zg, .ref zt, .ref zs, .ref zf, .ref zy, .ref zso, .ref zsf, .ref zsm, .int nt, .int nsh, .ref ztp, .ref zrw, .ref zpp, .int (nI tn), .int (nI pn), .int rdw, .int rdh, .ref zsz, .ref zit, .ref zk, .int (bI itk)])), (zc, ia G 16 f), (zsz, ia G 4 sz), (zit, la G 80 (itF II))]) := by
  refine CT.of (lv := [(0, .ref md), (1, .int (nI li)), (2, .int (nI i))]) RX9 "judge" rfl rfl (by decide +kernel) (Nat.le_of_ble_eq_true rfl) rfl (fun X hX hR => ?_)
  refine j_iload_n (pc := 0) hX dX9_judge_0 1 rfl ?_
  refine j_callS (pc := 1) hX kX9_isList kSX9_isList l_RX9_257 (fun l => c_X9_isList G (nI li)  l) [] [0, 1, 2, 3] [] rfl rfl rfl rfl ⟨rfl, rfl, by decide⟩ rfl rfl (Nat.le_of_ble_eq_true rfl) dX9_judge_1 (fun v w hq => ?_)
  obtain ⟨rfl, rfl⟩ := hq
  refine j_ws [0, 1, 2, 3] (ws' := [(md, .inr (9, [.int (nI W), .int (nI H), .int t, .int (nI m), .int (nI k), .ref zc, .ref zr, .ref zb, .ref z1, .ref z2, .ref z3, .ref z4, .ref z5, .ref zm, .ref zmr, .ref zmb, .int mt, .ref zca, .ref zcw, .int (nI c), .ref zg, .ref zt, .ref zs, .ref zf, .ref zy, .ref zso, .ref zsf, .ref zsm, .int nt, .int nsh, .ref ztp, .ref zrw, .ref zpp, .int (nI tn), .int (nI pn), .int rdw, .int rdh, .ref zsz, .ref zit, .ref zk, .int (bI itk)])), (zc, ia G 16 f), (zsz, ia G 4 sz), (zit, la G 80 (itF II))]) rfl rfl ?_
  refine j_ifB_ne (pc := 4) (tgt := 9) hX dX9_judge_4 (by decide) (fun c4 => ?_) (fun c4 => by rw [rng_t (x := nI li) (A := 0) (B := 3) (by rw [nI_toInt (by omega)]; omega)] at c4; cases c4)
  refine j_iconstN (pc := 9) (j := 0) hX dX9_judge_9 rfl ?_
  refine j_istore_n (pc := 10) (lv' := [(3, .int (nI 0)), (0, .ref md), (1, .int (nI li)), (2, .int (nI i))]) hX dX9_judge_10 (by decide) rfl ?_
  have L11 : ∀ (m11 : Nat) (y cc : Nat) (hy : y + cc = H) (hj : fst1 (jd1 (sz li) i (II li) f) 0 H = fst1 (jd1 (sz li) i (II li) f) y cc), cc < m11 → J X G 4 0 0 [(md, .inr (9, [.int (nI W), .int (nI H), .int t, .int (nI m), .int (nI k), .ref zc, .ref zr, .ref zb, .ref z1, .ref z2, .ref z3, .ref z4, .ref z5, .ref zm, .ref zmr, .ref zmb, .int mt, .ref zca, .ref zcw, .int (nI c), .ref zg, .ref zt, .ref zs, .ref zf, .ref zy, .ref zso, .ref zsf, .ref zsm, .int nt, .int nsh, .ref ztp, .ref zrw, .ref zpp, .int (nI tn), .int (nI pn), .int rdw, .int rdh, .ref zsz, .ref zit, .ref zk, .int (bI itk)])), (zc, ia G 16 f), (zsz, ia G 4 sz), (zit, la G 80 (itF II))] [(0, .ref md), (1, .int (nI li)), (2, .int (nI i)), (3, .int (nI y))] 11 [] := by
    intro m11
    induction m11 with
    | zero => intro y cc hy hj hm11; exact absurd hm11 (Nat.not_lt_zero _)
    | succ m11 ih11 =>
      intro y cc hy hj hm11
      refine j_iload_n (pc := 11) hX dX9_judge_11 3 rfl ?_
      refine j_aload_n (pc := 12) hX dX9_judge_12 0 rfl ?_
      refine j_get (pc := 13) hX f_RX9_15 0 rfl rfl dX9_judge_13 ?_
      refine j_icmp_ge (pc := 16) (tgt := 73) hX dX9_judge_16 (by decide) (nI_toInt (n := y) (by omega)) (nI_toInt (n := H) (by omega)) (fun c16 => ?_) (fun c16 => ?_)
      · skip
        refine j_bipush (pc := 73) (v := (-5)) hX dX9_judge_73 (by decide) ?_
        exact j_iret (pc := 75) hX hR dX9_judge_75 ⟨congrArg some (show Value.int (-5) = Value.int (jdR H (sz li) i (II li) f) from by rw [jdR, hj, show cc = 0 from by omega]; rfl), rfl⟩
      · skip
        refine j_iload_n (pc := 19) hX dX9_judge_19 2 rfl ?_
        refine j_if_lt (pc := 20) (tgt := 36) hX dX9_judge_20 (by decide) (nI_toInt (n := i) (by omega)) (fun c20 => by exfalso; omega) (fun c20 => ?_)
        refine j_aload_n (pc := 23) hX dX9_judge_23 0 rfl ?_
        refine j_iload_n (pc := 24) hX dX9_judge_24 1 rfl ?_
        refine j_iload_n (pc := 25) hX dX9_judge_25 2 rfl ?_
        refine j_i2l (pc := 26) hX dX9_judge_26 ?_
        refine j_iload_n (pc := 27) hX dX9_judge_27 3 rfl ?_
        refine j_i2l (pc := 28) hX dX9_judge_28 ?_
        refine j_ladd (pc := 29) hX dX9_judge_29 ?_
        refine j_callV (pc := 30) hX kX9_isPlace kVX9_isPlace l_RX9_260 (fun l => c_X9_isPlace G md W H t m k zc zr zb z1 z2 z3 z4 z5 zm zmr zmb mt zca zcw c zg zt zs zf zy zso zsf zsm nt nsh ztp zrw zpp tn pn rdw rdh zsz zit zk itk sz li (((nI i).toInt64) + ((nI y).toInt64)) (((i : Nat) : Int) + ((y : Nat) : Int)) (by omega) (by first | assumption | omega) (by rw [toL_add, nI_toInt (by omega), nI_toInt (by omega)]) l) [0, 2] [1, 3] [] rfl 0 9 rfl rfl rfl rfl rfl rfl ⟨rfl, rfl, by decide⟩ rfl rfl (Nat.le_of_ble_eq_true rfl) dX9_judge_30 (fun v w hq => ?_)
        obtain ⟨rfl, rfl⟩ := hq
        refine j_ws [2, 0, 3, 1] (ws' := [(md, .inr (9, [.int (nI W), .int (nI H), .int t, .int (nI m), .int (nI k), .ref zc, .ref zr, .ref zb, .ref z1, .ref z2, .ref z3, .ref z4, .ref z5, .ref zm, .ref zmr, .ref zmb, .int mt, .ref zca, .ref zcw, .int (nI c), .ref zg, .ref zt, .ref zs, .ref zf, .ref zy, .ref zso, .ref zsf, .ref zsm, .int nt, .int nsh, .ref ztp, .ref zrw, .ref zpp, .int (nI tn), .int (nI pn), .int rdw, .int rdh, .ref zsz, .ref zit, .ref zk, .int (bI itk)])), (zc, ia G 16 f), (zsz, ia G 4 sz), (zit, la G 80 (itF II))]) rfl rfl ?_
        refine j_ifB_ne (pc := 33) (tgt := 41) hX dX9_judge_33 (by decide) (fun c33 => ?_) (fun c33 => ?_)
        · skip
          have c33 := of_decide_eq_true c33
          refine j_aload_n (pc := 41) hX dX9_judge_41 0 rfl ?_
          refine j_get (pc := 42) hX f_RX9_94 0 rfl rfl dX9_judge_42 ?_
          refine j_bipush (pc := 45) (v := nI 20) hX dX9_judge_45 (by decide) ?_
          refine j_iload_n (pc := 47) hX dX9_judge_47 1 rfl ?_
          refine j_imul (pc := 48) hX dX9_judge_48 ?_
          refine j_topi (y := nI (20 * li)) (pk_mul _ _) ?_
          refine j_iload_n (pc := 49) hX dX9_judge_49 2 rfl ?_
          refine j_iadd (pc := 50) hX dX9_judge_50 ?_
          refine j_topi (y := nI (20 * li + i)) (nI_add _ _) ?_
          refine j_iload_n (pc := 51) hX dX9_judge_51 3 rfl ?_
          refine j_iadd (pc := 52) hX dX9_judge_52 ?_
          refine j_topi (y := nI (20 * li + i + y)) (nI_add _ _) ?_
          refine j_lald (pc := 53) (j := 20 * li + i + y) hX 3 rfl (by omega) (by omega) dX9_judge_53 ?_
          refine j_aload_n (pc := 54) hX dX9_judge_54 0 rfl ?_
          refine j_get (pc := 55) hX f_RX9_18 0 rfl rfl dX9_judge_55 ?_
          refine j_iload_n (pc := 58) hX dX9_judge_58 3 rfl ?_
          refine j_ialdN (pc := 59) (j := y) hX 1 rfl (by omega) (by omega) dX9_judge_59 ?_
          refine j_i2l (pc := 60) hX dX9_judge_60 ?_
          refine j_lcmp (pc := 61) hX dX9_judge_61 ?_
          refine j_if_eq (pc := 62) (tgt := 67) hX dX9_judge_62 (by decide) rfl (fun c62 => ?_) (fun c62 => ?_)
          · skip
            have he := lg_cmp0 c62
            rw [Nat.add_assoc, itF_at (by omega)] at he
            refine j_iinc (pc := 67) (q := 3) (v := nI (y + 1)) (lv' := [(3, .int (nI (y + 1))), (0, .ref md), (1, .int (nI li)), (2, .int (nI i))]) hX dX9_judge_67 rfl (nI_inc _ 1) (by decide) rfl ?_
            refine j_goto (pc := 70) (tgt := 11) hX dX9_judge_70 (by decide) ?_
            refine j_lv [1, 2, 3, 0] (lv' := [(0, .ref md), (1, .int (nI li)), (2, .int (nI i)), (3, .int (nI (y + 1)))]) rfl ?_
            exact ih11 (y + 1) (cc - 1) (by omega) (by rw [hj, fst1_n (by omega) (jd1_e (by omega) he)]) (by omega)
          · skip
            have he := lg_cmpn c62
            rw [Nat.add_assoc, itF_at (by omega)] at he
            refine j_iload_n (pc := 65) hX dX9_judge_65 3 rfl ?_
            exact j_iret (pc := 66) hX hR dX9_judge_66 ⟨congrArg some (show Value.int (nI y) = Value.int (jdR H (sz li) i (II li) f) from by rw [jdR, hj, fst1_s (by omega) (jd1_o (by omega) he)]; rfl), rfl⟩
        · skip
          have c33 := of_decide_eq_false c33
          refine j_bipush (pc := 36) (v := nI 100) hX dX9_judge_36 (by decide) ?_
          refine j_iload_n (pc := 38) hX dX9_judge_38 3 rfl ?_
          refine j_iadd (pc := 39) hX dX9_judge_39 ?_
          refine j_topi (y := nI (100 + y)) (nI_add _ _) ?_
          exact j_iret (pc := 40) hX hR dX9_judge_40 ⟨congrArg some (show Value.int (nI (100 + y)) = Value.int (jdR H (sz li) i (II li) f) from by rw [jdR, hj, fst1_s (by omega) (jd1_n (by omega))]; rfl), rfl⟩
  refine j_lv [1, 2, 3, 0] (lv' := [(0, .ref md), (1, .int (nI li)), (2, .int (nI i)), (3, .int (nI 0))]) rfl ?_
  exact L11 (H + 1) 0 H (by omega) (rfl) (Nat.lt_succ_self _)
