set_option maxHeartbeats 4000000 in
set_option maxRecDepth 100000 in
theorem c_X9_isTold (G : GT)  (cl : Int32)  (l : Launch) : CT l G yX9_isTold cX9_isTold 1 (some .boolean) { frames := 0, cells := 0, slots := 0, locals := 0 } [.int cl] [] (fun vv ww => vv = some (.int (bI (cellB cl))) ∧ ww = []) := by
  refine CT.of (lv := [(0, .int cl)]) RX9 "isTold" rfl rfl (by decide +kernel) (Nat.le_of_ble_eq_true rfl) rfl (fun X hX hR => ?_)
  have hcb := fb_rng cl
  refine j_iload_n (pc := 0) hX dX9_isTold_0 0 rfl ?_
  refine j_if_lt (pc := 1) (tgt := 26) hX dX9_isTold_1 (by decide) rfl (fun c1 => ?_) (fun c1 => ?_)
  · skip
    refine j_iconstN (pc := 26) (j := 0) hX dX9_isTold_26 rfl ?_
    exact j_zret (pc := 27) hX hR (by decide) dX9_isTold_27 ⟨congrArg some (show Value.int (nI 0) = Value.int (bI (cellB cl)) from by first | exact bI_t (by omega) | exact bI_f (by omega)), rfl⟩
  · skip
    refine j_iload_n (pc := 4) hX dX9_isTold_4 0 rfl ?_
    refine j_bipush (pc := 5) (v := nI 100) hX dX9_isTold_5 (by decide) ?_
    refine j_idiv (pc := 7) hX dX9_isTold_7 (by decide) ?_
    refine j_topi (y := nI ((cl.toInt / 100).toNat)) ((div_nI c1 100 (by decide) (by decide)).1) ?_
    refine j_bipush (pc := 8) (v := nI 16) hX dX9_isTold_8 (by decide) ?_
    refine j_icmp_ge (pc := 10) (tgt := 26) hX dX9_isTold_10 (by decide) (nI_toInt (n := (cl.toInt / 100).toNat) (by omega)) (nI_toInt (n := 16) (by decide)) (fun c10 => ?_) (fun c10 => ?_)
    · skip
      refine j_iconstN (pc := 26) (j := 0) hX dX9_isTold_26 rfl ?_
      exact j_zret (pc := 27) hX hR (by decide) dX9_isTold_27 ⟨congrArg some (show Value.int (nI 0) = Value.int (bI (cellB cl)) from by first | exact bI_t (by omega) | exact bI_f (by omega)), rfl⟩
    · skip
      refine j_iload_n (pc := 13) hX dX9_isTold_13 0 rfl ?_
      refine j_bipush (pc := 14) (v := nI 100) hX dX9_isTold_14 (by decide) ?_
      refine j_irem (pc := 16) hX dX9_isTold_16 (by decide) ?_
      refine j_topi (y := nI ((cl.toInt % 100).toNat)) ((div_nI c1 100 (by decide) (by decide)).2) ?_
      refine j_bipush (pc := 17) (v := nI 16) hX dX9_isTold_17 (by decide) ?_
      refine j_icmp_ge (pc := 19) (tgt := 26) hX dX9_isTold_19 (by decide) (nI_toInt (n := (cl.toInt % 100).toNat) (by omega)) (nI_toInt (n := 16) (by decide)) (fun c19 => ?_) (fun c19 => ?_)
      · skip
        refine j_iconstN (pc := 26) (j := 0) hX dX9_isTold_26 rfl ?_
        exact j_zret (pc := 27) hX hR (by decide) dX9_isTold_27 ⟨congrArg some (show Value.int (nI 0) = Value.int (bI (cellB cl)) from by first | exact bI_t (by omega) | exact bI_f (by omega)), rfl⟩
      · skip
        refine j_iconstN (pc := 22) (j := 1) hX dX9_isTold_22 rfl ?_
        refine j_goto (pc := 23) (tgt := 27) hX dX9_isTold_23 (by decide) ?_
        exact j_zret (pc := 27) hX hR (by decide) dX9_isTold_27 ⟨congrArg some (show Value.int (nI 1) = Value.int (bI (cellB cl)) from by first | exact bI_t (by omega) | exact bI_f (by omega)), rfl⟩
set_option maxHeartbeats 4000000 in
set_option maxRecDepth 100000 in
theorem c_X9_see_clear (G : GT) (md : Nat) (W : Nat) (H : Nat) (t : Int32) (m : Nat) (k : Nat) (zc : Nat) (zr : Nat) (zb : Nat) (z1 : Nat) (z2 : Nat) (z3 : Nat) (z4 : Nat) (z5 : Nat) (zm : Nat) (zmr : Nat) (zmb : Nat) (mt : Int32) (zca : Nat) (zcw : Nat) (c : Nat) (zg : Nat) (zt : Nat) (zs : Nat) (zf : Nat) (zy : Nat) (zso : Nat) (zsf : Nat) (zsm : Nat) (nt : Int32) (nsh : Int32) (ztp : Nat) (zrw : Nat) (zpp : Nat) (tn : Nat) (pn : Nat) (rdw : Int32) (rdh : Int32) (zsz : Nat) (zit : Nat) (zk : Nat) (itk : Bool) (n cl_ : Int32)  (l : Launch) : CT l G yX9_see cX9_see 4 (some .int) { frames := 1, cells := 0, slots := 0, locals := 25 } [.ref md, .int n, .int cl_, .int (-1)] [(md, .inr (9, [.int (nI W), .int (nI H), .int t, .int (nI m), .int (nI k), .ref zc, .ref zr, .ref zb, .ref z1, .ref z2, .ref z3, .ref z4, .ref z5, .ref zm, .ref zmr, .ref zmb, .int mt, .ref zca, .ref zcw, .int (nI c), .ref zg, .ref zt, .ref zs, .ref zf, .ref zy, .ref zso, .ref zsf, .ref zsm, .int nt, .int nsh, .ref ztp, .ref zrw, .ref zpp, .int (nI tn), .int (nI pn), .int rdw, .int rdh, .ref zsz, .ref zit, .ref zk, .int (bI itk)]))] (fun vv ww => vv = some (.int (nI 0)) ∧ ww = [(md, .inr (9, [.int (nI W), .int (nI H), .int t, .int (nI 0), .int (nI k), .ref zc, .ref zr, .ref zb, .ref z1, .ref z2, .ref z3, .ref z4, .ref z5, .ref zm, .ref zmr, .ref zmb, .int mt, .ref zca, .ref zcw, .int (nI c), .ref zg, .ref zt, .ref zs, .ref zf, .ref zy, .ref zso, .ref zsf, .ref zsm, .int nt, .int nsh, .ref ztp, .ref zrw, .ref zpp, .int (nI tn), .int (nI pn), .int rdw, .int rdh, .ref zsz, .ref zit, .ref zk, .int (bI itk)]))]) := by
  refine CT.of (lv := [(0, .ref md), (1, .int n), (2, .int cl_), (3, .int (-1))]) RX9 "see" rfl rfl (by decide +kernel) (Nat.le_of_ble_eq_true rfl) rfl (fun X hX hR => ?_)
  refine j_iload_n (pc := 0) hX dX9_see_0 3 rfl ?_
  refine j_iconst (pc := 1) (v := (-1)) hX dX9_see_1 (by decide) ?_
  refine j_icmp_ne (pc := 2) (tgt := 12) hX dX9_see_2 (by decide) (show ((-1) : Int32).toInt = -1 from by decide) (show ((-1) : Int32).toInt = -1 from by decide) (fun c2 => absurd c2 (by decide)) (fun c2 => ?_)
  refine j_aload_n (pc := 5) hX dX9_see_5 0 rfl ?_
  refine j_iconstN (pc := 6) (j := 0) hX dX9_see_6 rfl ?_
  refine j_put (pc := 7) (ws' := [(md, .inr (9, [.int (nI W), .int (nI H), .int t, .int (nI 0), .int (nI k), .ref zc, .ref zr, .ref zb, .ref z1, .ref z2, .ref z3, .ref z4, .ref z5, .ref zm, .ref zmr, .ref zmb, .int mt, .ref zca, .ref zcw, .int (nI c), .ref zg, .ref zt, .ref zs, .ref zf, .ref zy, .ref zso, .ref zsf, .ref zsm, .int nt, .int nsh, .ref ztp, .ref zrw, .ref zpp, .int (nI tn), .int (nI pn), .int rdw, .int rdh, .ref zsz, .ref zit, .ref zk, .int (bI itk)]))]) hX f_RX9_266 0 rfl rfl rfl (Nat.le_of_ble_eq_true rfl) rfl dX9_see_7 ?_
  refine j_iconstN (pc := 10) (j := 0) hX dX9_see_10 rfl ?_
  exact j_iret (pc := 11) hX hR dX9_see_11 ⟨rfl, rfl⟩
set_option maxHeartbeats 4000000 in
set_option maxRecDepth 100000 in
theorem c_X9_see_bad (G : GT) (md : Nat) (W : Nat) (H : Nat) (t : Int32) (m : Nat) (k : Nat) (zc : Nat) (zr : Nat) (zb : Nat) (z1 : Nat) (z2 : Nat) (z3 : Nat) (z4 : Nat) (z5 : Nat) (zm : Nat) (zmr : Nat) (zmb : Nat) (mt : Int32) (zca : Nat) (zcw : Nat) (c : Nat) (zg : Nat) (zt : Nat) (zs : Nat) (zf : Nat) (zy : Nat) (zso : Nat) (zsf : Nat) (zsm : Nat) (nt : Int32) (nsh : Int32) (ztp : Nat) (zrw : Nat) (zpp : Nat) (tn : Nat) (pn : Nat) (rdw : Int32) (rdh : Int32) (zsz : Nat) (zit : Nat) (zk : Nat) (itk : Bool) (n cl_ v : Int32) (hv : v.toInt ≠ -1) (hb : seeOK n cl_ v = false) (l : Launch) : CT l G yX9_see cX9_see 4 (some .int) { frames := 1, cells := 0, slots := 0, locals := 25 } [.ref md, .int n, .int cl_, .int v] [(md, .inr (9, [.int (nI W), .int (nI H), .int t, .int (nI m), .int (nI k), .ref zc, .ref zr, .ref zb, .ref z1, .ref z2, .ref z3, .ref z4, .ref z5, .ref zm, .ref zmr, .ref zmb, .int mt, .ref zca, .ref zcw, .int (nI c), .ref zg, .ref zt, .ref zs, .ref zf, .ref zy, .ref zso, .ref zsf, .ref zsm, .int nt, .int nsh, .ref ztp, .ref zrw, .ref zpp, .int (nI tn), .int (nI pn), .int rdw, .int rdh, .ref zsz, .ref zit, .ref zk, .int (bI itk)]))] (fun vv ww => vv = some (.int (-2)) ∧ ww = [(md, .inr (9, [.int (nI W), .int (nI H), .int t, .int (nI m), .int (nI k), .ref zc, .ref zr, .ref zb, .ref z1, .ref z2, .ref z3, .ref z4, .ref z5, .ref zm, .ref zmr, .ref zmb, .int mt, .ref zca, .ref zcw, .int (nI c), .ref zg, .ref zt, .ref zs, .ref zf, .ref zy, .ref zso, .ref zsf, .ref zsm, .int nt, .int nsh, .ref ztp, .ref zrw, .ref zpp, .int (nI tn), .int (nI pn), .int rdw, .int rdh, .ref zsz, .ref zit, .ref zk, .int (bI itk)]))]) := by
  refine CT.of (lv := [(0, .ref md), (1, .int n), (2, .int cl_), (3, .int v)]) RX9 "see" rfl rfl (by decide +kernel) (Nat.le_of_ble_eq_true rfl) rfl (fun X hX hR => ?_)
  refine j_iload_n (pc := 0) hX dX9_see_0 3 rfl ?_
  refine j_iconst (pc := 1) (v := (-1)) hX dX9_see_1 (by decide) ?_
  refine j_icmp_ne (pc := 2) (tgt := 12) hX dX9_see_2 (by decide) rfl (show ((-1) : Int32).toInt = -1 from by decide) (fun c2 => ?_) (fun c2 => by exfalso; omega)
  refine j_iload_n (pc := 12) hX dX9_see_12 1 rfl ?_
  refine j_i2l (pc := 13) hX dX9_see_13 ?_
  refine j_ldc2 (pc := 14) (v := (-12)) hX k_RX9_269 dX9_see_14 ?_
  refine j_ldc2 (pc := 17) (v := (12)) hX k_RX9_271 dX9_see_17 ?_
  refine j_callS (pc := 20) hX kX9_isIn kSX9_isIn l_RX9_105 (fun l => c_X9_isIn G n.toInt64 (-12) (12) (rngB n (-12) (12)) (inL_of (toL _) (show ((-12) : Int64).toInt = -12 from by decide) (show ((12) : Int64).toInt = 12 from by decide)) l) [] [0] [] rfl rfl rfl rfl ⟨rfl, rfl, by decide⟩ rfl rfl (Nat.le_of_ble_eq_true rfl) dX9_see_20 (fun v w hq => ?_)
  obtain ⟨rfl, rfl⟩ := hq
  refine j_ws [0] (ws' := [(md, .inr (9, [.int (nI W), .int (nI H), .int t, .int (nI m), .int (nI k), .ref zc, .ref zr, .ref zb, .ref z1, .ref z2, .ref z3, .ref z4, .ref z5, .ref zm, .ref zmr, .ref zmb, .int mt, .ref zca, .ref zcw, .int (nI c), .ref zg, .ref zt, .ref zs, .ref zf, .ref zy, .ref zso, .ref zsf, .ref zsm, .int nt, .int nsh, .ref ztp, .ref zrw, .ref zpp, .int (nI tn), .int (nI pn), .int rdw, .int rdh, .ref zsz, .ref zit, .ref zk, .int (bI itk)]))]) rfl rfl ?_
  refine j_ifB_eq (pc := 23) (tgt := 43) hX dX9_see_23 (by decide) (fun c23 => ?_) (fun c23 => ?_)
  · skip
    refine j_bipush (pc := 43) (v := (-2)) hX dX9_see_43 (by decide) ?_
    exact j_iret (pc := 45) hX hR dX9_see_45 ⟨rfl, rfl⟩
  · skip
    refine j_iload_n (pc := 26) hX dX9_see_26 2 rfl ?_
    refine j_callS (pc := 27) hX kX9_isTold kSX9_isTold l_RX9_273 (fun l => c_X9_isTold G cl_  l) [] [0] [] rfl rfl rfl rfl ⟨rfl, rfl, by decide⟩ rfl rfl (Nat.le_of_ble_eq_true rfl) dX9_see_27 (fun v w hq => ?_)
    obtain ⟨rfl, rfl⟩ := hq
    refine j_ws [0] (ws' := [(md, .inr (9, [.int (nI W), .int (nI H), .int t, .int (nI m), .int (nI k), .ref zc, .ref zr, .ref zb, .ref z1, .ref z2, .ref z3, .ref z4, .ref z5, .ref zm, .ref zmr, .ref zmb, .int mt, .ref zca, .ref zcw, .int (nI c), .ref zg, .ref zt, .ref zs, .ref zf, .ref zy, .ref zso, .ref zsf, .ref zsm, .int nt, .int nsh, .ref ztp, .ref zrw, .ref zpp, .int (nI tn), .int (nI pn), .int rdw, .int rdh, .ref zsz, .ref zit, .ref zk, .int (bI itk)]))]) rfl rfl ?_
    refine j_ifB_eq (pc := 30) (tgt := 43) hX dX9_see_30 (by decide) (fun c30 => ?_) (fun c30 => ?_)
    · skip
      refine j_bipush (pc := 43) (v := (-2)) hX dX9_see_43 (by decide) ?_
      exact j_iret (pc := 45) hX hR dX9_see_45 ⟨rfl, rfl⟩
    · skip
      refine j_iload_n (pc := 33) hX dX9_see_33 3 rfl ?_
      refine j_i2l (pc := 34) hX dX9_see_34 ?_
      refine j_lconst (pc := 35) (v := 0) hX dX9_see_35 (by decide) ?_
      refine j_lconst (pc := 36) (v := 1) hX dX9_see_36 (by decide) ?_
      refine j_callS (pc := 37) hX kX9_isIn kSX9_isIn l_RX9_105 (fun l => c_X9_isIn G v.toInt64 0 1 (rngB v (0) (1)) (inL_of (toL _) (show ((0) : Int64).toInt = 0 from by decide) (show ((1) : Int64).toInt = 1 from by decide)) l) [] [0] [] rfl rfl rfl rfl ⟨rfl, rfl, by decide⟩ rfl rfl (Nat.le_of_ble_eq_true rfl) dX9_see_37 (fun v w hq => ?_)
      obtain ⟨rfl, rfl⟩ := hq
      refine j_ws [0] (ws' := [(md, .inr (9, [.int (nI W), .int (nI H), .int t, .int (nI m), .int (nI k), .ref zc, .ref zr, .ref zb, .ref z1, .ref z2, .ref z3, .ref z4, .ref z5, .ref zm, .ref zmr, .ref zmb, .int mt, .ref zca, .ref zcw, .int (nI c), .ref zg, .ref zt, .ref zs, .ref zf, .ref zy, .ref zso, .ref zsf, .ref zsm, .int nt, .int nsh, .ref ztp, .ref zrw, .ref zpp, .int (nI tn), .int (nI pn), .int rdw, .int rdh, .ref zsz, .ref zit, .ref zk, .int (bI itk)]))]) rfl rfl ?_
      refine j_ifB_ne (pc := 40) (tgt := 46) hX dX9_see_40 (by decide) (fun c40 => by exfalso; unfold seeOK at hb; rw [c23, c30, c40] at hb; cases hb) (fun c40 => ?_)
      refine j_bipush (pc := 43) (v := (-2)) hX dX9_see_43 (by decide) ?_
      exact j_iret (pc := 45) hX hR dX9_see_45 ⟨rfl, rfl⟩
set_option maxHeartbeats 4000000 in
set_option maxRecDepth 100000 in
theorem c_X9_see_full (G : GT) (md : Nat) (W : Nat) (H : Nat) (t : Int32) (k : Nat) (zc : Nat) (zr : Nat) (zb : Nat) (z1 : Nat) (z2 : Nat) (z3 : Nat) (z4 : Nat) (z5 : Nat) (zm : Nat) (zmr : Nat) (zmb : Nat) (mt : Int32) (zca : Nat) (zcw : Nat) (c : Nat) (zg : Nat) (zt : Nat) (zs : Nat) (zf : Nat) (zy : Nat) (zso : Nat) (zsf : Nat) (zsm : Nat) (nt : Int32) (nsh : Int32) (ztp : Nat) (zrw : Nat) (zpp : Nat) (tn : Nat) (pn : Nat) (rdw : Int32) (rdh : Int32) (zsz : Nat) (zit : Nat) (zk : Nat) (itk : Bool) (n : Int32) (cl : Nat) (v : Int32) (hn : -12 ≤ n.toInt ∧ n.toInt ≤ 12) (hcl : cellB (nI cl) = true) (hv : 0 ≤ v.toInt ∧ v.toInt ≤ 1) (l : Launch) : CT l G yX9_see cX9_see 4 (some .int) { frames := 1, cells := 0, slots := 0, locals := 25 } [.ref md, .int n, .int (nI cl), .int v] [(md, .inr (9, [.int (nI W), .int (nI H), .int t, .int (nI 5), .int (nI k), .ref zc, .ref zr, .ref zb, .ref z1, .ref z2, .ref z3, .ref z4, .ref z5, .ref zm, .ref zmr, .ref zmb, .int mt, .ref zca, .ref zcw, .int (nI c), .ref zg, .ref zt, .ref zs, .ref zf, .ref zy, .ref zso, .ref zsf, .ref zsm, .int nt, .int nsh, .ref ztp, .ref zrw, .ref zpp, .int (nI tn), .int (nI pn), .int rdw, .int rdh, .ref zsz, .ref zit, .ref zk, .int (bI itk)]))] (fun vv ww => vv = some (.int (-4)) ∧ ww = [(md, .inr (9, [.int (nI W), .int (nI H), .int t, .int (nI 5), .int (nI k), .ref zc, .ref zr, .ref zb, .ref z1, .ref z2, .ref z3, .ref z4, .ref z5, .ref zm, .ref zmr, .ref zmb, .int mt, .ref zca, .ref zcw, .int (nI c), .ref zg, .ref zt, .ref zs, .ref zf, .ref zy, .ref zso, .ref zsf, .ref zsm, .int nt, .int nsh, .ref ztp, .ref zrw, .ref zpp, .int (nI tn), .int (nI pn), .int rdw, .int rdh, .ref zsz, .ref zit, .ref zk, .int (bI itk)]))]) := by
  refine CT.of (lv := [(0, .ref md), (1, .int n), (2, .int (nI cl)), (3, .int v)]) RX9 "see" rfl rfl (by decide +kernel) (Nat.le_of_ble_eq_true rfl) rfl (fun X hX hR => ?_)
  refine j_iload_n (pc := 0) hX dX9_see_0 3 rfl ?_
  refine j_iconst (pc := 1) (v := (-1)) hX dX9_see_1 (by decide) ?_
  refine j_icmp_ne (pc := 2) (tgt := 12) hX dX9_see_2 (by decide) rfl (show ((-1) : Int32).toInt = -1 from by decide) (fun c2 => ?_) (fun c2 => by exfalso; omega)
  refine j_iload_n (pc := 12) hX dX9_see_12 1 rfl ?_
  refine j_i2l (pc := 13) hX dX9_see_13 ?_
  refine j_ldc2 (pc := 14) (v := (-12)) hX k_RX9_269 dX9_see_14 ?_
  refine j_ldc2 (pc := 17) (v := (12)) hX k_RX9_271 dX9_see_17 ?_
  refine j_callS (pc := 20) hX kX9_isIn kSX9_isIn l_RX9_105 (fun l => c_X9_isIn G n.toInt64 (-12) (12) (rngB n (-12) (12)) (inL_of (toL _) (show ((-12) : Int64).toInt = -12 from by decide) (show ((12) : Int64).toInt = 12 from by decide)) l) [] [0] [] rfl rfl rfl rfl ⟨rfl, rfl, by decide⟩ rfl rfl (Nat.le_of_ble_eq_true rfl) dX9_see_20 (fun v w hq => ?_)
  obtain ⟨rfl, rfl⟩ := hq
  refine j_ws [0] (ws' := [(md, .inr (9, [.int (nI W), .int (nI H), .int t, .int (nI 5), .int (nI k), .ref zc, .ref zr, .ref zb, .ref z1, .ref z2, .ref z3, .ref z4, .ref z5, .ref zm, .ref zmr, .ref zmb, .int mt, .ref zca, .ref zcw, .int (nI c), .ref zg, .ref zt, .ref zs, .ref zf, .ref zy, .ref zso, .ref zsf, .ref zsm, .int nt, .int nsh, .ref ztp, .ref zrw, .ref zpp, .int (nI tn), .int (nI pn), .int rdw, .int rdh, .ref zsz, .ref zit, .ref zk, .int (bI itk)]))]) rfl rfl ?_
  refine j_ifB_eq (pc := 23) (tgt := 43) hX dX9_see_23 (by decide) (fun c23 => by rw [rng_t (x := n) (A := -12) (B := 12) hn] at c23; cases c23) (fun c23 => ?_)
  refine j_iload_n (pc := 26) hX dX9_see_26 2 rfl ?_
  refine j_callS (pc := 27) hX kX9_isTold kSX9_isTold l_RX9_273 (fun l => c_X9_isTold G (nI cl)  l) [] [0] [] rfl rfl rfl rfl ⟨rfl, rfl, by decide⟩ rfl rfl (Nat.le_of_ble_eq_true rfl) dX9_see_27 (fun v w hq => ?_)
  obtain ⟨rfl, rfl⟩ := hq
  refine j_ws [0] (ws' := [(md, .inr (9, [.int (nI W), .int (nI H), .int t, .int (nI 5), .int (nI k), .ref zc, .ref zr, .ref zb, .ref z1, .ref z2, .ref z3, .ref z4, .ref z5, .ref zm, .ref zmr, .ref zmb, .int mt, .ref zca, .ref zcw, .int (nI c), .ref zg, .ref zt, .ref zs, .ref zf, .ref zy, .ref zso, .ref zsf, .ref zsm, .int nt, .int nsh, .ref ztp, .ref zrw, .ref zpp, .int (nI tn), .int (nI pn), .int rdw, .int rdh, .ref zsz, .ref zit, .ref zk, .int (bI itk)]))]) rfl rfl ?_
  refine j_ifB_eq (pc := 30) (tgt := 43) hX dX9_see_30 (by decide) (fun c30 => by rw [hcl] at c30; cases c30) (fun c30 => ?_)
  refine j_iload_n (pc := 33) hX dX9_see_33 3 rfl ?_
  refine j_i2l (pc := 34) hX dX9_see_34 ?_
  refine j_lconst (pc := 35) (v := 0) hX dX9_see_35 (by decide) ?_
  refine j_lconst (pc := 36) (v := 1) hX dX9_see_36 (by decide) ?_
  refine j_callS (pc := 37) hX kX9_isIn kSX9_isIn l_RX9_105 (fun l => c_X9_isIn G v.toInt64 0 1 (rngB v (0) (1)) (inL_of (toL _) (show ((0) : Int64).toInt = 0 from by decide) (show ((1) : Int64).toInt = 1 from by decide)) l) [] [0] [] rfl rfl rfl rfl ⟨rfl, rfl, by decide⟩ rfl rfl (Nat.le_of_ble_eq_true rfl) dX9_see_37 (fun v w hq => ?_)
  obtain ⟨rfl, rfl⟩ := hq
  refine j_ws [0] (ws' := [(md, .inr (9, [.int (nI W), .int (nI H), .int t, .int (nI 5), .int (nI k), .ref zc, .ref zr, .ref zb, .ref z1, .ref z2, .ref z3, .ref z4, .ref z5, .ref zm, .ref zmr, .ref zmb, .int mt, .ref zca, .ref zcw, .int (nI c), .ref zg, .ref zt, .ref zs, .ref zf, .ref zy, .ref zso, .ref zsf, .ref zsm, .int nt, .int nsh, .ref ztp, .ref zrw, .ref zpp, .int (nI tn), .int (nI pn), .int rdw, .int rdh, .ref zsz, .ref zit, .ref zk, .int (bI itk)]))]) rfl rfl ?_
  refine j_ifB_ne (pc := 40) (tgt := 46) hX dX9_see_40 (by decide) (fun c40 => ?_) (fun c40 => by rw [rng_t (x := v) (A := 0) (B := 1) hv] at c40; cases c40)
  refine j_aload_n (pc := 46) hX dX9_see_46 0 rfl ?_
  refine j_get (pc := 47) hX f_RX9_266 0 rfl rfl dX9_see_47 ?_
  refine j_iconstN (pc := 50) (j := 5) hX dX9_see_50 rfl ?_
  refine j_icmp_ne (pc := 51) (tgt := 57) hX dX9_see_51 (by decide) (nI_toInt (n := 5) (by decide)) (nI_toInt (n := 5) (by decide)) (fun c51 => absurd c51 (by decide)) (fun c51 => ?_)
  refine j_bipush (pc := 54) (v := (-4)) hX dX9_see_54 (by decide) ?_
  exact j_iret (pc := 56) hX hR dX9_see_56 ⟨rfl, rfl⟩
set_option maxHeartbeats 4000000 in
set_option maxRecDepth 100000 in
theorem c_X9_see_ok (G : GT) (md : Nat) (W : Nat) (H : Nat) (t : Int32) (m : Nat) (k : Nat) (zc : Nat) (zr : Nat) (zb : Nat) (z1 : Nat) (z2 : Nat) (z3 : Nat) (z4 : Nat) (z5 : Nat) (zm : Nat) (zmr : Nat) (zmb : Nat) (mt : Int32) (zca : Nat) (zcw : Nat) (c : Nat) (zg : Nat) (zt : Nat) (zs : Nat) (zf : Nat) (zy : Nat) (zso : Nat) (zsf : Nat) (zsm : Nat) (nt : Int32) (nsh : Int32) (ztp : Nat) (zrw : Nat) (zpp : Nat) (tn : Nat) (pn : Nat) (rdw : Int32) (rdh : Int32) (zsz : Nat) (zit : Nat) (zk : Nat) (itk : Bool) (s0 : Nat → Int32) (s1 : Nat → Nat) (s2 : Nat → Int32) (n : Int32) (cl : Nat) (v : Int32) (hn : -12 ≤ n.toInt ∧ n.toInt ≤ 12) (hcl : cellB (nI cl) = true) (hv : 0 ≤ v.toInt ∧ v.toInt ≤ 1) (hm : m < 5) (l : Launch) : CT l G yX9_see cX9_see 4 (some .int) { frames := 1, cells := 0, slots := 0, locals := 25 } [.ref md, .int n, .int (nI cl), .int v] [(md, .inr (9, [.int (nI W), .int (nI H), .int t, .int (nI m), .int (nI k), .ref zc, .ref zr, .ref zb, .ref z1, .ref z2, .ref z3, .ref z4, .ref z5, .ref zm, .ref zmr, .ref zmb, .int mt, .ref zca, .ref zcw, .int (nI c), .ref zg, .ref zt, .ref zs, .ref zf, .ref zy, .ref zso, .ref zsf, .ref zsm, .int nt, .int nsh, .ref ztp, .ref zrw, .ref zpp, .int (nI tn), .int (nI pn), .int rdw, .int rdh, .ref zsz, .ref zit, .ref zk, .int (bI itk)])), (z1, ia G 5 s0), (z2, ia G 5 (fun ι => nI (s1 ι))), (z3, ia G 5 s2)] (fun vv ww => vv = some (.int (nI (m + 1))) ∧ ww = [(md, .inr (9, [.int (nI W), .int (nI H), .int t, .int (nI (m + 1)), .int (nI k), .ref zc, .ref zr, .ref zb, .ref z1, .ref z2, .ref z3, .ref z4, .ref z5, .ref zm, .ref zmr, .ref zmb, .int mt, .ref zca, .ref zcw, .int (nI c), .ref zg, .ref zt, .ref zs, .ref zf, .ref zy, .ref zso, .ref zsf, .ref zsm, .int nt, .int nsh, .ref ztp, .ref zrw, .ref zpp, .int (nI tn), .int (nI pn), .int rdw, .int rdh, .ref zsz, .ref zit, .ref zk, .int (bI itk)])), (z1, ia G 5 (upd s0 m n)), (z2, ia G 5 (fun ι => nI (updN s1 m cl ι))), (z3, ia G 5 (upd s2 m v))]) := by
  refine CT.of (lv := [(0, .ref md), (1, .int n), (2, .int (nI cl)), (3, .int v)]) RX9 "see" rfl rfl (by decide +kernel) (Nat.le_of_ble_eq_true rfl) rfl (fun X hX hR => ?_)
  refine j_iload_n (pc := 0) hX dX9_see_0 3 rfl ?_
  refine j_iconst (pc := 1) (v := (-1)) hX dX9_see_1 (by decide) ?_
  refine j_icmp_ne (pc := 2) (tgt := 12) hX dX9_see_2 (by decide) rfl (show ((-1) : Int32).toInt = -1 from by decide) (fun c2 => ?_) (fun c2 => by exfalso; omega)
  refine j_iload_n (pc := 12) hX dX9_see_12 1 rfl ?_
  refine j_i2l (pc := 13) hX dX9_see_13 ?_
  refine j_ldc2 (pc := 14) (v := (-12)) hX k_RX9_269 dX9_see_14 ?_
  refine j_ldc2 (pc := 17) (v := (12)) hX k_RX9_271 dX9_see_17 ?_
  refine j_callS (pc := 20) hX kX9_isIn kSX9_isIn l_RX9_105 (fun l => c_X9_isIn G n.toInt64 (-12) (12) (rngB n (-12) (12)) (inL_of (toL _) (show ((-12) : Int64).toInt = -12 from by decide) (show ((12) : Int64).toInt = 12 from by decide)) l) [] [0, 1, 2, 3] [] rfl rfl rfl rfl ⟨rfl, rfl, by decide⟩ rfl rfl (Nat.le_of_ble_eq_true rfl) dX9_see_20 (fun v w hq => ?_)
  obtain ⟨rfl, rfl⟩ := hq
  refine j_ws [0, 1, 2, 3] (ws' := [(md, .inr (9, [.int (nI W), .int (nI H), .int t, .int (nI m), .int (nI k), .ref zc, .ref zr, .ref zb, .ref z1, .ref z2, .ref z3, .ref z4, .ref z5, .ref zm, .ref zmr, .ref zmb, .int mt, .ref zca, .ref zcw, .int (nI c), .ref zg, .ref zt, .ref zs, .ref zf, .ref zy, .ref zso, .ref zsf, .ref zsm, .int nt, .int nsh, .ref ztp, .ref zrw, .ref zpp, .int (nI tn), .int (nI pn), .int rdw, .int rdh, .ref zsz, .ref zit, .ref zk, .int (bI itk)])), (z1, ia G 5 s0), (z2, ia G 5 (fun ι => nI (s1 ι))), (z3, ia G 5 s2)]) rfl rfl ?_
  refine j_ifB_eq (pc := 23) (tgt := 43) hX dX9_see_23 (by decide) (fun c23 => by rw [rng_t (x := n) (A := -12) (B := 12) hn] at c23; cases c23) (fun c23 => ?_)
  refine j_iload_n (pc := 26) hX dX9_see_26 2 rfl ?_
  refine j_callS (pc := 27) hX kX9_isTold kSX9_isTold l_RX9_273 (fun l => c_X9_isTold G (nI cl)  l) [] [0, 1, 2, 3] [] rfl rfl rfl rfl ⟨rfl, rfl, by decide⟩ rfl rfl (Nat.le_of_ble_eq_true rfl) dX9_see_27 (fun v w hq => ?_)
  obtain ⟨rfl, rfl⟩ := hq
  refine j_ws [0, 1, 2, 3] (ws' := [(md, .inr (9, [.int (nI W), .int (nI H), .int t, .int (nI m), .int (nI k), .ref zc, .ref zr, .ref zb, .ref z1, .ref z2, .ref z3, .ref z4, .ref z5, .ref zm, .ref zmr, .ref zmb, .int mt, .ref zca, .ref zcw, .int (nI c), .ref zg, .ref zt, .ref zs, .ref zf, .ref zy, .ref zso, .ref zsf, .ref zsm, .int nt, .int nsh, .ref ztp, .ref zrw, .ref zpp, .int (nI tn), .int (nI pn), .int rdw, .int rdh, .ref zsz, .ref zit, .ref zk, .int (bI itk)])), (z1, ia G 5 s0), (z2, ia G 5 (fun ι => nI (s1 ι))), (z3, ia G 5 s2)]) rfl rfl ?_
  refine j_ifB_eq (pc := 30) (tgt := 43) hX dX9_see_30 (by decide) (fun c30 => by rw [hcl] at c30; cases c30) (fun c30 => ?_)
  refine j_iload_n (pc := 33) hX dX9_see_33 3 rfl ?_
  refine j_i2l (pc := 34) hX dX9_see_34 ?_
  refine j_lconst (pc := 35) (v := 0) hX dX9_see_35 (by decide) ?_
  refine j_lconst (pc := 36) (v := 1) hX dX9_see_36 (by decide) ?_
  refine j_callS (pc := 37) hX kX9_isIn kSX9_isIn l_RX9_105 (fun l => c_X9_isIn G v.toInt64 0 1 (rngB v (0) (1)) (inL_of (toL _) (show ((0) : Int64).toInt = 0 from by decide) (show ((1) : Int64).toInt = 1 from by decide)) l) [] [0, 1, 2, 3] [] rfl rfl rfl rfl ⟨rfl, rfl, by decide⟩ rfl rfl (Nat.le_of_ble_eq_true rfl) dX9_see_37 (fun v w hq => ?_)
  obtain ⟨rfl, rfl⟩ := hq
  refine j_ws [0, 1, 2, 3] (ws' := [(md, .inr (9, [.int (nI W), .int (nI H), .int t, .int (nI m), .int (nI k), .ref zc, .ref zr, .ref zb, .ref z1, .ref z2, .ref z3, .ref z4, .ref z5, .ref zm, .ref zmr, .ref zmb, .int mt, .ref zca, .ref zcw, .int (nI c), .ref zg, .ref zt, .ref zs, .ref zf, .ref zy, .ref zso, .ref zsf, .ref zsm, .int nt, .int nsh, .ref ztp, .ref zrw, .ref zpp, .int (nI tn), .int (nI pn), .int rdw, .int rdh, .ref zsz, .ref zit, .ref zk, .int (bI itk)])), (z1, ia G 5 s0), (z2, ia G 5 (fun ι => nI (s1 ι))), (z3, ia G 5 s2)]) rfl rfl ?_
  refine j_ifB_ne (pc := 40) (tgt := 46) hX dX9_see_40 (by decide) (fun c40 => ?_) (fun c40 => by rw [rng_t (x := v) (A := 0) (B := 1) hv] at c40; cases c40)
  refine j_aload_n (pc := 46) hX dX9_see_46 0 rfl ?_
  refine j_get (pc := 47) hX f_RX9_266 0 rfl rfl dX9_see_47 ?_
  refine j_iconstN (pc := 50) (j := 5) hX dX9_see_50 rfl ?_
  refine j_icmp_ne (pc := 51) (tgt := 57) hX dX9_see_51 (by decide) (nI_toInt (n := m) (by omega)) (nI_toInt (n := 5) (by decide)) (fun c51 => ?_) (fun c51 => by exfalso; omega)
  refine j_aload_n (pc := 57) hX dX9_see_57 0 rfl ?_
  refine j_get (pc := 58) hX f_RX9_28 0 rfl rfl dX9_see_58 ?_
  refine j_aload_n (pc := 61) hX dX9_see_61 0 rfl ?_
  refine j_get (pc := 62) hX f_RX9_266 0 rfl rfl dX9_see_62 ?_
  refine j_iload_n (pc := 65) hX dX9_see_65 1 rfl ?_
  refine j_iastN (pc := 66) (j := m) (ws' := [(md, .inr (9, [.int (nI W), .int (nI H), .int t, .int (nI m), .int (nI k), .ref zc, .ref zr, .ref zb, .ref z1, .ref z2, .ref z3, .ref z4, .ref z5, .ref zm, .ref zmr, .ref zmb, .int mt, .ref zca, .ref zcw, .int (nI c), .ref zg, .ref zt, .ref zs, .ref zf, .ref zy, .ref zso, .ref zsf, .ref zsm, .int nt, .int nsh, .ref ztp, .ref zrw, .ref zpp, .int (nI tn), .int (nI pn), .int rdw, .int rdh, .ref zsz, .ref zit, .ref zk, .int (bI itk)])), (z1, ia G 5 (upd s0 m n)), (z2, ia G 5 (fun ι => nI (s1 ι))), (z3, ia G 5 s2)]) hX 1 rfl (by omega) (by omega) rfl dX9_see_66 ?_
  refine j_aload_n (pc := 67) hX dX9_see_67 0 rfl ?_
  refine j_get (pc := 68) hX f_RX9_31 0 rfl rfl dX9_see_68 ?_
  refine j_aload_n (pc := 71) hX dX9_see_71 0 rfl ?_
  refine j_get (pc := 72) hX f_RX9_266 0 rfl rfl dX9_see_72 ?_
  refine j_iload_n (pc := 75) hX dX9_see_75 2 rfl ?_
  refine j_iastN (pc := 76) (j := m) (ws' := [(md, .inr (9, [.int (nI W), .int (nI H), .int t, .int (nI m), .int (nI k), .ref zc, .ref zr, .ref zb, .ref z1, .ref z2, .ref z3, .ref z4, .ref z5, .ref zm, .ref zmr, .ref zmb, .int mt, .ref zca, .ref zcw, .int (nI c), .ref zg, .ref zt, .ref zs, .ref zf, .ref zy, .ref zso, .ref zsf, .ref zsm, .int nt, .int nsh, .ref ztp, .ref zrw, .ref zpp, .int (nI tn), .int (nI pn), .int rdw, .int rdh, .ref zsz, .ref zit, .ref zk, .int (bI itk)])), (z1, ia G 5 (upd s0 m n)), (z2, ia G 5 (upd (fun ι => nI (s1 ι)) m (nI cl))), (z3, ia G 5 s2)]) hX 2 rfl (by omega) (by omega) rfl dX9_see_76 ?_
  refine j_ia (q0 := 2) (f := upd (fun ι => nI (s1 ι)) m (nI cl)) (g := fun ι => nI (updN s1 m cl ι)) rfl (fun z hz => by exact updNI) (ws' := [(md, .inr (9, [.int (nI W), .int (nI H), .int t, .int (nI m), .int (nI k), .ref zc, .ref zr, .ref zb, .ref z1, .ref z2, .ref z3, .ref z4, .ref z5, .ref zm, .ref zmr, .ref zmb, .int mt, .ref zca, .ref zcw, .int (nI c), .ref zg, .ref zt, .ref zs, .ref zf, .ref zy, .ref zso, .ref zsf, .ref zsm, .int nt, .int nsh, .ref ztp, .ref zrw, .ref zpp, .int (nI tn), .int (nI pn), .int rdw, .int rdh, .ref zsz, .ref zit, .ref zk, .int (bI itk)])), (z1, ia G 5 (upd s0 m n)), (z2, ia G 5 (fun ι => nI (updN s1 m cl ι))), (z3, ia G 5 s2)]) rfl ?_
  refine j_aload_n (pc := 77) hX dX9_see_77 0 rfl ?_
  refine j_get (pc := 78) hX f_RX9_34 0 rfl rfl dX9_see_78 ?_
  refine j_aload_n (pc := 81) hX dX9_see_81 0 rfl ?_
  refine j_get (pc := 82) hX f_RX9_266 0 rfl rfl dX9_see_82 ?_
  refine j_iload_n (pc := 85) hX dX9_see_85 3 rfl ?_
  refine j_iastN (pc := 86) (j := m) (ws' := [(md, .inr (9, [.int (nI W), .int (nI H), .int t, .int (nI m), .int (nI k), .ref zc, .ref zr, .ref zb, .ref z1, .ref z2, .ref z3, .ref z4, .ref z5, .ref zm, .ref zmr, .ref zmb, .int mt, .ref zca, .ref zcw, .int (nI c), .ref zg, .ref zt, .ref zs, .ref zf, .ref zy, .ref zso, .ref zsf, .ref zsm, .int nt, .int nsh, .ref ztp, .ref zrw, .ref zpp, .int (nI tn), .int (nI pn), .int rdw, .int rdh, .ref zsz, .ref zit, .ref zk, .int (bI itk)])), (z1, ia G 5 (upd s0 m n)), (z2, ia G 5 (fun ι => nI (updN s1 m cl ι))), (z3, ia G 5 (upd s2 m v))]) hX 3 rfl (by omega) (by omega) rfl dX9_see_86 ?_
  refine j_aload_n (pc := 87) hX dX9_see_87 0 rfl ?_
  refine j_dup (pc := 88) hX dX9_see_88 rfl ?_
  refine j_get (pc := 89) hX f_RX9_266 0 rfl rfl dX9_see_89 ?_
  refine j_iconstN (pc := 92) (j := 1) hX dX9_see_92 rfl ?_
  refine j_iadd (pc := 93) hX dX9_see_93 ?_
  refine j_topi (y := nI (m + 1)) (nI_add _ _) ?_
  refine j_put (pc := 94) (ws' := [(md, .inr (9, [.int (nI W), .int (nI H), .int t, .int (nI (m + 1)), .int (nI k), .ref zc, .ref zr, .ref zb, .ref z1, .ref z2, .ref z3, .ref z4, .ref z5, .ref zm, .ref zmr, .ref zmb, .int mt, .ref zca, .ref zcw, .int (nI c), .ref zg, .ref zt, .ref zs, .ref zf, .ref zy, .ref zso, .ref zsf, .ref zsm, .int nt, .int nsh, .ref ztp, .ref zrw, .ref zpp, .int (nI tn), .int (nI pn), .int rdw, .int rdh, .ref zsz, .ref zit, .ref zk, .int (bI itk)])), (z1, ia G 5 (upd s0 m n)), (z2, ia G 5 (fun ι => nI (updN s1 m cl ι))), (z3, ia G 5 (upd s2 m v))]) hX f_RX9_266 0 rfl rfl rfl (Nat.le_of_ble_eq_true rfl) rfl dX9_see_94 ?_
  refine j_aload_n (pc := 97) hX dX9_see_97 0 rfl ?_
  refine j_get (pc := 98) hX f_RX9_266 0 rfl rfl dX9_see_98 ?_
  exact j_iret (pc := 101) hX hR dX9_see_101 ⟨rfl, rfl⟩
set_option maxHeartbeats 4000000 in
set_option maxRecDepth 100000 in
theorem c_X9_isSo (G : GT) (md : Nat) (W : Nat) (H : Nat) (t : Int32) (m : Nat) (k : Nat) (zc : Nat) (zr : Nat) (zb : Nat) (z1 : Nat) (z2 : Nat) (z3 : Nat) (z4 : Nat) (z5 : Nat) (zm : Nat) (zmr : Nat) (zmb : Nat) (mt : Int32) (zca : Nat) (zcw : Nat) (c : Nat) (zg : Nat) (zt : Nat) (zs : Nat) (zf : Nat) (zy : Nat) (zso : Nat) (zsf : Nat) (zsm : Nat) (nt : Int32) (nsh : Int32) (ztp : Nat) (zrw : Nat) (zpp : Nat) (tn : Nat) (pn : Nat) (rdw : Int32) (rdh : Int32) (zsz : Nat) (zit : Nat) (zk : Nat) (itk : Bool) (f : Nat → Int32) (s0 : Nat → Int32) (s1 : Nat → Nat) (s2 : Nat → Int32) (mf : Nat → Int32) (mp : Nat → Nat) (mq : Nat → Nat) (i : Nat) (hW1 : 2 ≤ W) (hW2 : W ≤ 16) (hH1 : 2 ≤ H) (hH2 : H ≤ 16) (hW3 : W % 2 = 0) (hH3 : H % 2 = 0) (hi : i < 5) (hsi : (-12 ≤ (s0 i).toInt ∧ (s0 i).toInt ≤ 12) ∧ s1 i < 1600) (l : Launch) : CT l G yX9_isSo cX9_isSo 4 (some .boolean) { frames := 4, cells := 0, slots := 0, locals := 95 } [.ref md, .int (nI i)] [(md, .inr (9, [.int (nI W), .int (nI H), .int t, .int (nI m), .int (nI k), .ref zc, .ref zr, .ref zb, .ref z1, .ref z2, .ref z3, .ref z4, .ref z5, .ref zm, .ref zmr, .ref zmb, .int mt, .ref zca, .ref zcw, .int (nI c), .ref zg, .ref zt, .ref zs, .ref zf, .ref zy, .ref zso, .ref zsf, .ref zsm, .int nt, .int nsh, .ref ztp, .ref zrw, .ref zpp, .int (nI tn), .int (nI pn), .int rdw, .int rdh, .ref zsz, .ref zit, .ref zk, .int (bI itk)])), (zc, ia G 16 f), (z1, ia G 5 s0), (z2, ia G 5 (fun ι => nI (s1 ι))), (z3, ia G 5 s2), (zm, ia G 16 mf), (zmr, ia G 16 (fun ι => nI (mp ι))), (zmb, ia G 16 (fun ι => nI (mq ι)))] (fun vv ww => ∃ (mt2 : Int32) (mf2 : Nat → Int32), vv = some (.int (bI (decide ((s1 i / 100 < W ∧ s1 i % 100 < H) ∧ bI (bt (goF W H mp mq t (s0 i) f (s1 i % 100)) (s1 i / 100)) = s2 i)))) ∧ ww = [(md, .inr (9, [.int (nI W), .int (nI H), .int t, .int (nI m), .int (nI k), .ref zc, .ref zr, .ref zb, .ref z1, .ref z2, .ref z3, .ref z4, .ref z5, .ref zm, .ref zmr, .ref zmb, .int mt2, .ref zca, .ref zcw, .int (nI c), .ref zg, .ref zt, .ref zs, .ref zf, .ref zy, .ref zso, .ref zsf, .ref zsm, .int nt, .int nsh, .ref ztp, .ref zrw, .ref zpp, .int (nI tn), .int (nI pn), .int rdw, .int rdh, .ref zsz, .ref zit, .ref zk, .int (bI itk)])), (zc, ia G 16 f), (z1, ia G 5 s0), (z2, ia G 5 (fun ι => nI (s1 ι))), (z3, ia G 5 s2), (zm, ia G 16 mf2), (zmr, ia G 16 (fun ι => nI (mp ι))), (zmb, ia G 16 (fun ι => nI (mq ι)))]) := by
  refine CT.of (lv := [(0, .ref md), (1, .int (nI i))]) RX9 "isSo" rfl rfl (by decide +kernel) (Nat.le_of_ble_eq_true rfl) rfl (fun X hX hR => ?_)
  refine j_aload_n (pc := 0) hX dX9_isSo_0 0 rfl ?_
  refine j_get (pc := 1) hX f_RX9_31 0 rfl rfl dX9_isSo_1 ?_
  refine j_iload_n (pc := 4) hX dX9_isSo_4 1 rfl ?_
  refine j_ialdN (pc := 5) (j := i) hX 3 rfl (by omega) (by omega) dX9_isSo_5 ?_
  refine j_bipush (pc := 6) (v := nI 100) hX dX9_isSo_6 (by decide) ?_
  refine j_idiv (pc := 8) hX dX9_isSo_8 (by decide) ?_
  refine j_topi (y := nI ((s1 i) / 100)) (pk_div (by omega) (by omega) (by omega)) ?_
  refine j_istore_n (pc := 9) (lv' := [(2, .int (nI ((s1 i) / 100))), (0, .ref md), (1, .int (nI i))]) hX dX9_isSo_9 (by decide) rfl ?_
  refine j_aload_n (pc := 10) hX dX9_isSo_10 1 rfl ?_
  refine j_get (pc := 11) hX f_RX9_31 0 rfl rfl dX9_isSo_11 ?_
  refine j_iload_n (pc := 14) hX dX9_isSo_14 2 rfl ?_
  refine j_ialdN (pc := 15) (j := i) hX 3 rfl (by omega) (by omega) dX9_isSo_15 ?_
  refine j_bipush (pc := 16) (v := nI 100) hX dX9_isSo_16 (by decide) ?_
  refine j_irem (pc := 18) hX dX9_isSo_18 (by decide) ?_
  refine j_topi (y := nI ((s1 i) % 100)) (pk_rem (by omega) (by omega) (by omega)) ?_
  refine j_istore_n (pc := 19) (lv' := [(3, .int (nI ((s1 i) % 100))), (2, .int (nI ((s1 i) / 100))), (0, .ref md), (1, .int (nI i))]) hX dX9_isSo_19 (by decide) rfl ?_
  refine j_aload_n (pc := 20) hX dX9_isSo_20 2 rfl ?_
  refine j_iload_n (pc := 21) hX dX9_isSo_21 1 rfl ?_
  refine j_iload_n (pc := 22) hX dX9_isSo_22 0 rfl ?_
  refine j_callV (pc := 23) hX kX9_isCell kVX9_isCell l_RX9_159 (fun l => c_X9_isCell G md W H t m k zc zr zb z1 z2 z3 z4 z5 zm zmr zmb mt zca zcw c zg zt zs zf zy zso zsf zsm nt nsh ztp zrw zpp tn pn rdw rdh zsz zit zk itk (nI ((s1 i) / 100)) (nI ((s1 i) % 100)) (by omega) (by omega) (by omega) (by omega) l) [0] [1, 2, 3, 4, 5, 6, 7] [] rfl 0 9 rfl rfl rfl rfl rfl rfl ⟨rfl, rfl, by decide⟩ rfl rfl (Nat.le_of_ble_eq_true rfl) dX9_isSo_23 (fun v w hq => ?_)
  obtain ⟨rfl, rfl⟩ := hq
  refine j_ws [7, 0, 1, 2, 3, 4, 5, 6] (ws' := [(md, .inr (9, [.int (nI W), .int (nI H), .int t, .int (nI m), .int (nI k), .ref zc, .ref zr, .ref zb, .ref z1, .ref z2, .ref z3, .ref z4, .ref z5, .ref zm, .ref zmr, .ref zmb, .int mt, .ref zca, .ref zcw, .int (nI c), .ref zg, .ref zt, .ref zs, .ref zf, .ref zy, .ref zso, .ref zsf, .ref zsm, .int nt, .int nsh, .ref ztp, .ref zrw, .ref zpp, .int (nI tn), .int (nI pn), .int rdw, .int rdh, .ref zsz, .ref zit, .ref zk, .int (bI itk)])), (zc, ia G 16 f), (z1, ia G 5 s0), (z2, ia G 5 (fun ι => nI (s1 ι))), (z3, ia G 5 s2), (zm, ia G 16 mf), (zmr, ia G 16 (fun ι => nI (mp ι))), (zmb, ia G 16 (fun ι => nI (mq ι)))]) rfl rfl ?_
  rw [inG_nat (by omega) (by omega)]
  refine j_ifB_ne (pc := 26) (tgt := 31) hX dX9_isSo_26 (by decide) (fun c26 => ?_) (fun c26 => ?_)
  · skip
    have c26 := of_decide_eq_true c26
    refine j_aload_n (pc := 31) hX dX9_isSo_31 2 rfl ?_
    refine j_get (pc := 32) hX f_RX9_18 0 rfl rfl dX9_isSo_32 ?_
    refine j_aload_n (pc := 35) hX dX9_isSo_35 2 rfl ?_
    refine j_get (pc := 36) hX f_RX9_43 0 rfl rfl dX9_isSo_36 ?_
    refine j_callS (pc := 39) hX kX9_copies kSX9_copies l_RX9_139 (fun l => c_X9_copies G zc zm f mf  l) [1, 5] [0, 2, 3, 4, 6, 7] [] rfl rfl rfl rfl ⟨rfl, rfl, by decide⟩ rfl rfl (Nat.le_of_ble_eq_true rfl) dX9_isSo_39 (fun v w hq => ?_)
    obtain ⟨rfl, rfl⟩ := hq
    refine j_ws [0, 6, 1, 2, 3, 7, 4, 5] (ws' := [(md, .inr (9, [.int (nI W), .int (nI H), .int t, .int (nI m), .int (nI k), .ref zc, .ref zr, .ref zb, .ref z1, .ref z2, .ref z3, .ref z4, .ref z5, .ref zm, .ref zmr, .ref zmb, .int mt, .ref zca, .ref zcw, .int (nI c), .ref zg, .ref zt, .ref zs, .ref zf, .ref zy, .ref zso, .ref zsf, .ref zsm, .int nt, .int nsh, .ref ztp, .ref zrw, .ref zpp, .int (nI tn), .int (nI pn), .int rdw, .int rdh, .ref zsz, .ref zit, .ref zk, .int (bI itk)])), (zc, ia G 16 f), (z1, ia G 5 s0), (z2, ia G 5 (fun ι => nI (s1 ι))), (z3, ia G 5 s2), (zm, ia G 16 f), (zmr, ia G 16 (fun ι => nI (mp ι))), (zmb, ia G 16 (fun ι => nI (mq ι)))]) rfl rfl ?_
    refine j_aload_n (pc := 42) hX dX9_isSo_42 2 rfl ?_
    refine j_aload_n (pc := 43) hX dX9_isSo_43 2 rfl ?_
    refine j_get (pc := 44) hX f_RX9_142 0 rfl rfl dX9_isSo_44 ?_
    refine j_put (pc := 47) (ws' := [(md, .inr (9, [.int (nI W), .int (nI H), .int t, .int (nI m), .int (nI k), .ref zc, .ref zr, .ref zb, .ref z1, .ref z2, .ref z3, .ref z4, .ref z5, .ref zm, .ref zmr, .ref zmb, .int t, .ref zca, .ref zcw, .int (nI c), .ref zg, .ref zt, .ref zs, .ref zf, .ref zy, .ref zso, .ref zsf, .ref zsm, .int nt, .int nsh, .ref ztp, .ref zrw, .ref zpp, .int (nI tn), .int (nI pn), .int rdw, .int rdh, .ref zsz, .ref zit, .ref zk, .int (bI itk)])), (zc, ia G 16 f), (z1, ia G 5 s0), (z2, ia G 5 (fun ι => nI (s1 ι))), (z3, ia G 5 s2), (zm, ia G 16 f), (zmr, ia G 16 (fun ι => nI (mp ι))), (zmb, ia G 16 (fun ι => nI (mq ι)))]) hX f_RX9_145 0 rfl rfl rfl (Nat.le_of_ble_eq_true rfl) rfl dX9_isSo_47 ?_
    refine j_aload_n (pc := 50) hX dX9_isSo_50 2 rfl ?_
    refine j_aload_n (pc := 51) hX dX9_isSo_51 2 rfl ?_
    refine j_get (pc := 52) hX f_RX9_28 0 rfl rfl dX9_isSo_52 ?_
    refine j_iload_n (pc := 55) hX dX9_isSo_55 3 rfl ?_
    refine j_ialdN (pc := 56) (j := i) hX 2 rfl (by omega) (by omega) dX9_isSo_56 ?_
    refine j_callV (pc := 57) hX kX9_goes kVX9_goes l_RX9_192 (fun l => c_X9_goes G md W H t m k zc zr zb z1 z2 z3 z4 z5 zm zmr zmb t zca zcw c zg zt zs zf zy zso zsf zsm nt nsh ztp zrw zpp tn pn rdw rdh zsz zit zk itk f mp mq (s0 i) (by omega) (by omega) (by omega) (by omega) (by omega) (by omega) (by first | omega | (rw [nI_toInt (by omega)]; omega)) l) [0, 5, 6, 7] [1, 2, 3, 4] [] rfl 0 9 rfl rfl rfl rfl rfl rfl ⟨rfl, rfl, by decide⟩ rfl rfl (Nat.le_of_ble_eq_true rfl) dX9_isSo_57 (fun v w hq => ?_)
    obtain ⟨rfl, rfl⟩ := hq
    refine j_ws [4, 0, 1, 2, 3, 5, 6, 7] (ws' := [(md, .inr (9, [.int (nI W), .int (nI H), .int t, .int (nI m), .int (nI k), .ref zc, .ref zr, .ref zb, .ref z1, .ref z2, .ref z3, .ref z4, .ref z5, .ref zm, .ref zmr, .ref zmb, .int (t + (s0 i)), .ref zca, .ref zcw, .int (nI c), .ref zg, .ref zt, .ref zs, .ref zf, .ref zy, .ref zso, .ref zsf, .ref zsm, .int nt, .int nsh, .ref ztp, .ref zrw, .ref zpp, .int (nI tn), .int (nI pn), .int rdw, .int rdh, .ref zsz, .ref zit, .ref zk, .int (bI itk)])), (zc, ia G 16 f), (z1, ia G 5 s0), (z2, ia G 5 (fun ι => nI (s1 ι))), (z3, ia G 5 s2), (zm, ia G 16 (goF W H mp mq t (s0 i) f)), (zmr, ia G 16 (fun ι => nI (mp ι))), (zmb, ia G 16 (fun ι => nI (mq ι)))]) rfl rfl ?_
    refine j_aload_n (pc := 60) hX dX9_isSo_60 2 rfl ?_
    refine j_get (pc := 61) hX f_RX9_43 0 rfl rfl dX9_isSo_61 ?_
    refine j_iload_n (pc := 64) hX dX9_isSo_64 0 rfl ?_
    refine j_ialdN (pc := 65) (j := (s1 i) % 100) hX 5 rfl (by omega) (by omega) dX9_isSo_65 ?_
    refine j_iload_n (pc := 66) hX dX9_isSo_66 1 rfl ?_
    refine j_ishr (pc := 67) hX dX9_isSo_67 ?_
    refine j_iconstN (pc := 68) (j := 1) hX dX9_isSo_68 rfl ?_
    refine j_iand (pc := 69) hX dX9_isSo_69 ?_
    refine j_topi (y := bI (bt (goF W H mp mq t (s0 i) f (s1 i % 100)) (s1 i / 100))) (bt_raw _ (by omega)) ?_
    refine j_aload_n (pc := 70) hX dX9_isSo_70 2 rfl ?_
    refine j_get (pc := 71) hX f_RX9_34 0 rfl rfl dX9_isSo_71 ?_
    refine j_iload_n (pc := 74) hX dX9_isSo_74 3 rfl ?_
    refine j_ialdN (pc := 75) (j := i) hX 4 rfl (by omega) (by omega) dX9_isSo_75 ?_
    refine j_icmp_ne (pc := 76) (tgt := 83) hX dX9_isSo_76 (by decide) (bI_toInt (bt (goF W H mp mq t (s0 i) f (s1 i % 100)) (s1 i / 100))) rfl (fun c76 => ?_) (fun c76 => ?_)
    · skip
      have d76 : bI (bt (goF W H mp mq t (s0 i) f (s1 i % 100)) (s1 i / 100)) ≠ s2 i := fun e => c76 ((bI_toInt _).symm.trans (congrArg Int32.toInt e))
      refine j_iconstN (pc := 83) (j := 0) hX dX9_isSo_83 rfl ?_
      exact j_zret (pc := 84) hX hR (by decide) dX9_isSo_84 ⟨(t + (s0 i)), (goF W H mp mq t (s0 i) f), congrArg some (show Value.int (nI 0) = Value.int (bI (decide ((s1 i / 100 < W ∧ s1 i % 100 < H) ∧ bI (bt (goF W H mp mq t (s0 i) f (s1 i % 100)) (s1 i / 100)) = s2 i))) from by first | exact bI_t ⟨c26, d76⟩ | exact bI_f (fun h => d76 h.2)), rfl⟩
    · skip
      have d76 : bI (bt (goF W H mp mq t (s0 i) f (s1 i % 100)) (s1 i / 100)) = s2 i := Int32.toInt_inj.mp ((bI_toInt _).trans c76)
      refine j_iconstN (pc := 79) (j := 1) hX dX9_isSo_79 rfl ?_
      refine j_goto (pc := 80) (tgt := 84) hX dX9_isSo_80 (by decide) ?_
      exact j_zret (pc := 84) hX hR (by decide) dX9_isSo_84 ⟨(t + (s0 i)), (goF W H mp mq t (s0 i) f), congrArg some (show Value.int (nI 1) = Value.int (bI (decide ((s1 i / 100 < W ∧ s1 i % 100 < H) ∧ bI (bt (goF W H mp mq t (s0 i) f (s1 i % 100)) (s1 i / 100)) = s2 i))) from by first | exact bI_t ⟨c26, d76⟩ | exact bI_f (fun h => d76 h.2)), rfl⟩
  · skip
    have c26 := of_decide_eq_false c26
    refine j_iconstN (pc := 29) (j := 0) hX dX9_isSo_29 rfl ?_
    exact j_zret (pc := 30) hX hR (by decide) dX9_isSo_30 ⟨mt, mf, congrArg some (show Value.int (nI 0) = Value.int (bI (decide ((s1 i / 100 < W ∧ s1 i % 100 < H) ∧ bI (bt (goF W H mp mq t (s0 i) f (s1 i % 100)) (s1 i / 100)) = s2 i))) from bI_f (fun h => c26 h.1)), rfl⟩
set_option maxHeartbeats 4000000 in
set_option maxRecDepth 100000 in
theorem c_X9_fits (G : GT) (md : Nat) (W : Nat) (H : Nat) (t : Int32) (m : Nat) (k : Nat) (zc : Nat) (zr : Nat) (zb : Nat) (z1 : Nat) (z2 : Nat) (z3 : Nat) (z4 : Nat) (z5 : Nat) (zm : Nat) (zmr : Nat) (zmb : Nat) (mt : Int32) (zca : Nat) (zcw : Nat) (c : Nat) (zg : Nat) (zt : Nat) (zs : Nat) (zf : Nat) (zy : Nat) (zso : Nat) (zsf : Nat) (zsm : Nat) (nt : Int32) (nsh : Int32) (ztp : Nat) (zrw : Nat) (zpp : Nat) (tn : Nat) (pn : Nat) (rdw : Int32) (rdh : Int32) (zsz : Nat) (zit : Nat) (zk : Nat) (itk : Bool) (f : Nat → Int32) (s0 : Nat → Int32) (s1 : Nat → Nat) (s2 : Nat → Int32) (mf : Nat → Int32) (mrf : Nat → Int32) (mbf : Nat → Int32) (hW1 : 2 ≤ W) (hW2 : W ≤ 16) (hH1 : 2 ≤ H) (hH2 : H ≤ 16) (hW3 : W % 2 = 0) (hH3 : H % 2 = 0) (hm : m ≤ 5) (hs : ∀ i, i < m → (-12 ≤ (s0 i).toInt ∧ (s0 i).toInt ≤ 12) ∧ s1 i < 1600) (l : Launch) : CT l G yX9_fits cX9_fits 5 (some .int) { frames := 5, cells := 0, slots := 0, locals := 118 } [.ref md] [(md, .inr (9, [.int (nI W), .int (nI H), .int t, .int (nI m), .int (nI k), .ref zc, .ref zr, .ref zb, .ref z1, .ref z2, .ref z3, .ref z4, .ref z5, .ref zm, .ref zmr, .ref zmb, .int mt, .ref zca, .ref zcw, .int (nI c), .ref zg, .ref zt, .ref zs, .ref zf, .ref zy, .ref zso, .ref zsf, .ref zsm, .int nt, .int nsh, .ref ztp, .ref zrw, .ref zpp, .int (nI tn), .int (nI pn), .int rdw, .int rdh, .ref zsz, .ref zit, .ref zk, .int (bI itk)])), (zc, ia G 16 f), (z1, ia G 5 s0), (z2, ia G 5 (fun ι => nI (s1 ι))), (z3, ia G 5 s2), (zm, ia G 16 mf), (zmr, ia G 16 mrf), (zmb, ia G 16 mbf)] (fun vv ww => ∃ (mt2 : Int32) (mf2 : Nat → Int32) (mr2 mb2 : Nat → Int32), vv = some (.int (ftF (fun w => seenB W H (wrd w) (wrdI w) t f m s0 s1 s2) 5)) ∧ ww = [(md, .inr (9, [.int (nI W), .int (nI H), .int t, .int (nI m), .int (nI k), .ref zc, .ref zr, .ref zb, .ref z1, .ref z2, .ref z3, .ref z4, .ref z5, .ref zm, .ref zmr, .ref zmb, .int mt2, .ref zca, .ref zcw, .int (nI c), .ref zg, .ref zt, .ref zs, .ref zf, .ref zy, .ref zso, .ref zsf, .ref zsm, .int nt, .int nsh, .ref ztp, .ref zrw, .ref zpp, .int (nI tn), .int (nI pn), .int rdw, .int rdh, .ref zsz, .ref zit, .ref zk, .int (bI itk)])), (zc, ia G 16 f), (z1, ia G 5 s0), (z2, ia G 5 (fun ι => nI (s1 ι))), (z3, ia G 5 s2), (zm, ia G 16 mf2), (zmr, ia G 16 mr2), (zmb, ia G 16 mb2)]) := by
  refine CT.of (lv := [(0, .ref md)]) RX9 "fits" rfl rfl (by decide +kernel) (Nat.le_of_ble_eq_true rfl) rfl (fun X hX hR => ?_)
  refine j_iconstN (pc := 0) (j := 0) hX dX9_fits_0 rfl ?_
  refine j_istore_n (pc := 1) (lv' := [(1, .int (nI 0)), (0, .ref md)]) hX dX9_fits_1 (by decide) rfl ?_
  refine j_iconstN (pc := 2) (j := 0) hX dX9_fits_2 rfl ?_
  refine j_istore_n (pc := 3) (lv' := [(2, .int (nI 0)), (1, .int (nI 0)), (0, .ref md)]) hX dX9_fits_3 (by decide) rfl ?_
  have L4 : ∀ (m4 : Nat) (w : Nat) (st mt3 : Int32) (mf3 mr3 mb3 : Nat → Int32) (hw : w ≤ 5) (hst : st = ftF (fun w => seenB W H (wrd w) (wrdI w) t f m s0 s1 s2) w), 5 - w < m4 → J X G 5 0 0 [(md, .inr (9, [.int (nI W), .int (nI H), .int t, .int (nI m), .int (nI k), .ref zc, .ref zr, .ref zb, .ref z1, .ref z2, .ref z3, .ref z4, .ref z5, .ref zm, .ref zmr, .ref zmb, .int mt3, .ref zca, .ref zcw, .int (nI c), .ref zg, .ref zt, .ref zs, .ref zf, .ref zy, .ref zso, .ref zsf, .ref zsm, .int nt, .int nsh, .ref ztp, .ref zrw, .ref zpp, .int (nI tn), .int (nI pn), .int rdw, .int rdh, .ref zsz, .ref zit, .ref zk, .int (bI itk)])), (zc, ia G 16 f), (z1, ia G 5 s0), (z2, ia G 5 (fun ι => nI (s1 ι))), (z3, ia G 5 s2), (zm, ia G 16 mf3), (zmr, ia G 16 mr3), (zmb, ia G 16 mb3)] [(0, .ref md), (1, .int st), (2, .int (nI w))] 4 [] := by
    intro m4
    induction m4 with
    | zero => intro w st mt3 mf3 mr3 mb3 hw hst hm4; exact absurd hm4 (Nat.not_lt_zero _)
    | succ m4 ih4 =>
      intro w st mt3 mf3 mr3 mb3 hw hst hm4
      refine j_iload_n (pc := 4) hX dX9_fits_4 2 rfl ?_
      refine j_iconstN (pc := 5) (j := 5) hX dX9_fits_5 rfl ?_
      refine j_icmp_ge (pc := 6) (tgt := 79) hX dX9_fits_6 (by decide) (nI_toInt (n := w) (by omega)) (nI_toInt (n := 5) (by decide)) (fun c6 => ?_) (fun c6 => ?_)
      · skip
        refine j_iload_n (pc := 79) hX dX9_fits_79 1 rfl ?_
        exact j_iret (pc := 80) hX hR dX9_fits_80 ⟨mt3, mf3, mr3, mb3, congrArg some (show Value.int st = Value.int (ftF (fun w => seenB W H (wrd w) (wrdI w) t f m s0 s1 s2) 5) from by rw [hst, show w = 5 from by omega]), rfl⟩
      · skip
        refine j_iload_n (pc := 9) hX dX9_fits_9 2 rfl ?_
        refine j_aload_n (pc := 10) hX dX9_fits_10 0 rfl ?_
        refine j_get (pc := 11) hX f_RX9_46 0 rfl rfl dX9_fits_11 ?_
        refine j_callS (pc := 14) hX kX9_ruleOf kSX9_ruleOf l_RX9_101 (fun l => c_X9_ruleOf G w zmr mr3 (by omega) l) [6] [0, 1, 2, 3, 4, 5, 7] [] rfl rfl rfl rfl ⟨rfl, rfl, by decide⟩ rfl rfl (Nat.le_of_ble_eq_true rfl) dX9_fits_14 (fun v w hq => ?_)
        obtain ⟨rfl, rfl⟩ := hq
        refine j_ws [0, 1, 2, 3, 4, 5, 7, 6] (ws' := [(md, .inr (9, [.int (nI W), .int (nI H), .int t, .int (nI m), .int (nI k), .ref zc, .ref zr, .ref zb, .ref z1, .ref z2, .ref z3, .ref z4, .ref z5, .ref zm, .ref zmr, .ref zmb, .int mt3, .ref zca, .ref zcw, .int (nI c), .ref zg, .ref zt, .ref zs, .ref zf, .ref zy, .ref zso, .ref zsf, .ref zsm, .int nt, .int nsh, .ref ztp, .ref zrw, .ref zpp, .int (nI tn), .int (nI pn), .int rdw, .int rdh, .ref zsz, .ref zit, .ref zk, .int (bI itk)])), (zc, ia G 16 f), (z1, ia G 5 s0), (z2, ia G 5 (fun ι => nI (s1 ι))), (z3, ia G 5 s2), (zm, ia G 16 mf3), (zmr, ia G 16 (fun ι => nI (wrd w ι))), (zmb, ia G 16 mb3)]) rfl rfl ?_
        refine j_aload_n (pc := 17) hX dX9_fits_17 0 rfl ?_
        refine j_get (pc := 18) hX f_RX9_46 0 rfl rfl dX9_fits_18 ?_
        refine j_aload_n (pc := 21) hX dX9_fits_21 0 rfl ?_
        refine j_get (pc := 22) hX f_RX9_49 0 rfl rfl dX9_fits_22 ?_
        refine j_callS (pc := 25) hX kX9_inverse kSX9_inverse l_RX9_123 (fun l => c_X9_inverse G zmr zmb (wrd w) (wrdI w) mb3 (isP_wrd (by omega)) l) [6, 7] [0, 1, 2, 3, 4, 5] [] rfl rfl rfl rfl ⟨rfl, rfl, by decide⟩ rfl rfl (Nat.le_of_ble_eq_true rfl) dX9_fits_25 (fun v w hq => ?_)
        obtain ⟨rfl, rfl⟩ := hq
        refine j_ws [0, 1, 2, 3, 4, 5, 6, 7] (ws' := [(md, .inr (9, [.int (nI W), .int (nI H), .int t, .int (nI m), .int (nI k), .ref zc, .ref zr, .ref zb, .ref z1, .ref z2, .ref z3, .ref z4, .ref z5, .ref zm, .ref zmr, .ref zmb, .int mt3, .ref zca, .ref zcw, .int (nI c), .ref zg, .ref zt, .ref zs, .ref zf, .ref zy, .ref zso, .ref zsf, .ref zsm, .int nt, .int nsh, .ref ztp, .ref zrw, .ref zpp, .int (nI tn), .int (nI pn), .int rdw, .int rdh, .ref zsz, .ref zit, .ref zk, .int (bI itk)])), (zc, ia G 16 f), (z1, ia G 5 s0), (z2, ia G 5 (fun ι => nI (s1 ι))), (z3, ia G 5 s2), (zm, ia G 16 mf3), (zmr, ia G 16 (fun ι => nI ((wrd w) ι))), (zmb, ia G 16 (fun ι => nI ((wrdI w) ι)))]) rfl rfl ?_
        refine j_iconstN (pc := 28) (j := 1) hX dX9_fits_28 rfl ?_
        refine j_istore_n (pc := 29) (lv' := [(3, .int (nI 1)), (0, .ref md), (1, .int st), (2, .int (nI w))]) hX dX9_fits_29 (by decide) rfl ?_
        refine j_iconstN (pc := 30) (j := 0) hX dX9_fits_30 rfl ?_
        refine j_istore (pc := 31) (lv' := [(4, .int (nI 0)), (3, .int (nI 1)), (0, .ref md), (1, .int st), (2, .int (nI w))]) hX dX9_fits_31 (by decide) rfl ?_
        have L33 : ∀ (m33 : Nat) (i : Nat) (b_ : Bool) (mt4 : Int32) (mf4 : Nat → Int32) (hi : i ≤ m) (hb1 : b_ = true → ∀ z, z < i → decide ((s1 z / 100 < W ∧ s1 z % 100 < H) ∧ bI (bt (goF W H (wrd w) (wrdI w) t (s0 z) f (s1 z % 100)) (s1 z / 100)) = s2 z) = true) (hb2 : b_ = false → ∃ z, z < m ∧ decide ((s1 z / 100 < W ∧ s1 z % 100 < H) ∧ bI (bt (goF W H (wrd w) (wrdI w) t (s0 z) f (s1 z % 100)) (s1 z / 100)) = s2 z) = false), m - i < m33 → J X G 5 0 0 [(md, .inr (9, [.int (nI W), .int (nI H), .int t, .int (nI m), .int (nI k), .ref zc, .ref zr, .ref zb, .ref z1, .ref z2, .ref z3, .ref z4, .ref z5, .ref zm, .ref zmr, .ref zmb, .int mt4, .ref zca, .ref zcw, .int (nI c), .ref zg, .ref zt, .ref zs, .ref zf, .ref zy, .ref zso, .ref zsf, .ref zsm, .int nt, .int nsh, .ref ztp, .ref zrw, .ref zpp, .int (nI tn), .int (nI pn), .int rdw, .int rdh, .ref zsz, .ref zit, .ref zk, .int (bI itk)])), (zc, ia G 16 f), (z1, ia G 5 s0), (z2, ia G 5 (fun ι => nI (s1 ι))), (z3, ia G 5 s2), (zm, ia G 16 mf4), (zmr, ia G 16 (fun ι => nI ((wrd w) ι))), (zmb, ia G 16 (fun ι => nI ((wrdI w) ι)))] [(0, .ref md), (1, .int st), (2, .int (nI w)), (3, .int (bI b_)), (4, .int (nI i))] 33 [] := by
          intro m33
          induction m33 with
          | zero => intro i b_ mt4 mf4 hi hb1 hb2 hm33; exact absurd hm33 (Nat.not_lt_zero _)
          | succ m33 ih33 =>
            intro i b_ mt4 mf4 hi hb1 hb2 hm33
            refine j_iload (pc := 33) hX dX9_fits_33 4 rfl ?_
            refine j_aload_n (pc := 35) hX dX9_fits_35 0 rfl ?_
            refine j_get (pc := 36) hX f_RX9_266 0 rfl rfl dX9_fits_36 ?_
            refine j_icmp_ge (pc := 39) (tgt := 59) hX dX9_fits_39 (by decide) (nI_toInt (n := i) (by omega)) (nI_toInt (n := m) (by omega)) (fun c39 => ?_) (fun c39 => ?_)
            · skip
              refine j_iload_n (pc := 59) hX dX9_fits_59 1 rfl ?_
              refine j_iload_n (pc := 60) hX dX9_fits_60 3 rfl ?_
              refine j_ifB_eq (pc := 61) (tgt := 70) hX dX9_fits_61 (by decide) (fun c61 => ?_) (fun c61 => ?_)
              · skip
                have hsn : seenB W H (wrd w) (wrdI w) t f m s0 s1 s2 = false := by obtain ⟨z, hz, hP⟩ := hb2 c61; exact allB_f hz hP
                refine j_iconstN (pc := 70) (j := 0) hX dX9_fits_70 rfl ?_
                refine j_ior (pc := 71) hX dX9_fits_71 ?_
                refine j_topi (y := st) (Int32.or_zero) ?_
                refine j_istore_n (pc := 72) (lv' := [(1, .int st), (0, .ref md), (2, .int (nI w)), (3, .int (bI b_)), (4, .int (nI i))]) hX dX9_fits_72 (by decide) rfl ?_
                refine j_iinc (pc := 73) (q := 2) (v := nI (w + 1)) (lv' := [(2, .int (nI (w + 1))), (1, .int st), (0, .ref md), (3, .int (bI b_)), (4, .int (nI i))]) hX dX9_fits_73 rfl (nI_inc _ 1) (by decide) rfl ?_
                refine j_goto (pc := 76) (tgt := 4) hX dX9_fits_76 (by decide) ?_
                refine j_lv [2, 1, 0] (lv' := [(0, .ref md), (1, .int st), (2, .int (nI (w + 1)))]) rfl ?_
                exact ih4 (w + 1) st mt4 mf4 (fun ι => nI ((wrd w) ι)) (fun ι => nI ((wrdI w) ι)) (by omega) (by rw [hst]; show _ = (if seenB W H (wrd w) (wrdI w) t f m s0 s1 s2 then _ else _); rw [hsn]; rfl) (by omega)
              · skip
                have hsn : seenB W H (wrd w) (wrdI w) t f m s0 s1 s2 = true := by first | exact allB_t (fun z hz => hb1 c61 z (by omega)) | (rw [c43] at c61; cases c61)
                refine j_iconstN (pc := 64) (j := 1) hX dX9_fits_64 rfl ?_
                refine j_iload_n (pc := 65) hX dX9_fits_65 2 rfl ?_
                refine j_ishl (pc := 66) hX dX9_fits_66 ?_
                refine j_goto (pc := 67) (tgt := 71) hX dX9_fits_67 (by decide) ?_
                refine j_ior (pc := 71) hX dX9_fits_71 ?_
                refine j_topi (y := st ||| ((nI 1) <<< ((nI w) &&& 31))) (rfl) ?_
                refine j_istore_n (pc := 72) (lv' := [(1, .int (st ||| ((nI 1) <<< ((nI w) &&& 31)))), (0, .ref md), (2, .int (nI w)), (3, .int (bI b_)), (4, .int (nI i))]) hX dX9_fits_72 (by decide) rfl ?_
                refine j_iinc (pc := 73) (q := 2) (v := nI (w + 1)) (lv' := [(2, .int (nI (w + 1))), (1, .int (st ||| ((nI 1) <<< ((nI w) &&& 31)))), (0, .ref md), (3, .int (bI b_)), (4, .int (nI i))]) hX dX9_fits_73 rfl (nI_inc _ 1) (by decide) rfl ?_
                refine j_goto (pc := 76) (tgt := 4) hX dX9_fits_76 (by decide) ?_
                refine j_lv [2, 1, 0] (lv' := [(0, .ref md), (1, .int (st ||| ((nI 1) <<< ((nI w) &&& 31)))), (2, .int (nI (w + 1)))]) rfl ?_
                exact ih4 (w + 1) (st ||| ((nI 1) <<< ((nI w) &&& 31))) mt4 mf4 (fun ι => nI ((wrd w) ι)) (fun ι => nI ((wrdI w) ι)) (by omega) (by rw [hst]; show _ = (if seenB W H (wrd w) (wrdI w) t f m s0 s1 s2 then _ else _); rw [hsn]; rfl) (by omega)
            · skip
              refine j_iload_n (pc := 42) hX dX9_fits_42 3 rfl ?_
              refine j_ifB_eq (pc := 43) (tgt := 59) hX dX9_fits_43 (by decide) (fun c43 => ?_) (fun c43 => ?_)
              · skip
                refine j_iload_n (pc := 59) hX dX9_fits_59 1 rfl ?_
                refine j_iload_n (pc := 60) hX dX9_fits_60 3 rfl ?_
                refine j_ifB_eq (pc := 61) (tgt := 70) hX dX9_fits_61 (by decide) (fun c61 => ?_) (fun c61 => ?_)
                · skip
                  have hsn : seenB W H (wrd w) (wrdI w) t f m s0 s1 s2 = false := by obtain ⟨z, hz, hP⟩ := hb2 c61; exact allB_f hz hP
                  refine j_iconstN (pc := 70) (j := 0) hX dX9_fits_70 rfl ?_
                  refine j_ior (pc := 71) hX dX9_fits_71 ?_
                  refine j_topi (y := st) (Int32.or_zero) ?_
                  refine j_istore_n (pc := 72) (lv' := [(1, .int st), (0, .ref md), (2, .int (nI w)), (3, .int (bI b_)), (4, .int (nI i))]) hX dX9_fits_72 (by decide) rfl ?_
                  refine j_iinc (pc := 73) (q := 2) (v := nI (w + 1)) (lv' := [(2, .int (nI (w + 1))), (1, .int st), (0, .ref md), (3, .int (bI b_)), (4, .int (nI i))]) hX dX9_fits_73 rfl (nI_inc _ 1) (by decide) rfl ?_
                  refine j_goto (pc := 76) (tgt := 4) hX dX9_fits_76 (by decide) ?_
                  refine j_lv [2, 1, 0] (lv' := [(0, .ref md), (1, .int st), (2, .int (nI (w + 1)))]) rfl ?_
                  exact ih4 (w + 1) st mt4 mf4 (fun ι => nI ((wrd w) ι)) (fun ι => nI ((wrdI w) ι)) (by omega) (by rw [hst]; show _ = (if seenB W H (wrd w) (wrdI w) t f m s0 s1 s2 then _ else _); rw [hsn]; rfl) (by omega)
                · skip
                  have hsn : seenB W H (wrd w) (wrdI w) t f m s0 s1 s2 = true := by first | exact allB_t (fun z hz => hb1 c61 z (by omega)) | (rw [c43] at c61; cases c61)
                  refine j_iconstN (pc := 64) (j := 1) hX dX9_fits_64 rfl ?_
                  refine j_iload_n (pc := 65) hX dX9_fits_65 2 rfl ?_
                  refine j_ishl (pc := 66) hX dX9_fits_66 ?_
                  refine j_goto (pc := 67) (tgt := 71) hX dX9_fits_67 (by decide) ?_
                  refine j_ior (pc := 71) hX dX9_fits_71 ?_
                  refine j_topi (y := st ||| ((nI 1) <<< ((nI w) &&& 31))) (rfl) ?_
                  refine j_istore_n (pc := 72) (lv' := [(1, .int (st ||| ((nI 1) <<< ((nI w) &&& 31)))), (0, .ref md), (2, .int (nI w)), (3, .int (bI b_)), (4, .int (nI i))]) hX dX9_fits_72 (by decide) rfl ?_
                  refine j_iinc (pc := 73) (q := 2) (v := nI (w + 1)) (lv' := [(2, .int (nI (w + 1))), (1, .int (st ||| ((nI 1) <<< ((nI w) &&& 31)))), (0, .ref md), (3, .int (bI b_)), (4, .int (nI i))]) hX dX9_fits_73 rfl (nI_inc _ 1) (by decide) rfl ?_
                  refine j_goto (pc := 76) (tgt := 4) hX dX9_fits_76 (by decide) ?_
                  refine j_lv [2, 1, 0] (lv' := [(0, .ref md), (1, .int (st ||| ((nI 1) <<< ((nI w) &&& 31)))), (2, .int (nI (w + 1)))]) rfl ?_
                  exact ih4 (w + 1) (st ||| ((nI 1) <<< ((nI w) &&& 31))) mt4 mf4 (fun ι => nI ((wrd w) ι)) (fun ι => nI ((wrdI w) ι)) (by omega) (by rw [hst]; show _ = (if seenB W H (wrd w) (wrdI w) t f m s0 s1 s2 then _ else _); rw [hsn]; rfl) (by omega)
              · skip
                have hsi := hs i (by omega)
                refine j_aload_n (pc := 46) hX dX9_fits_46 0 rfl ?_
                refine j_iload (pc := 47) hX dX9_fits_47 4 rfl ?_
                refine j_callV (pc := 49) hX kX9_isSo kVX9_isSo l_RX9_276 (fun l => c_X9_isSo G md W H t m k zc zr zb z1 z2 z3 z4 z5 zm zmr zmb mt4 zca zcw c zg zt zs zf zy zso zsf zsm nt nsh ztp zrw zpp tn pn rdw rdh zsz zit zk itk f s0 s1 s2 mf4 (wrd w) (wrdI w) i (by omega) (by omega) (by omega) (by omega) (by omega) (by omega) (by omega) (by omega) l) [0, 1, 2, 3, 4, 5, 6, 7] [] [] rfl 0 9 rfl rfl rfl rfl rfl rfl ⟨rfl, rfl, by decide⟩ rfl rfl (Nat.le_of_ble_eq_true rfl) dX9_fits_49 (fun v w hq => ?_)
                obtain ⟨mt2_49, mf2_49, rfl, rfl⟩ := hq
                refine j_ws [0, 1, 2, 3, 4, 5, 6, 7] (ws' := [(md, .inr (9, [.int (nI W), .int (nI H), .int t, .int (nI m), .int (nI k), .ref zc, .ref zr, .ref zb, .ref z1, .ref z2, .ref z3, .ref z4, .ref z5, .ref zm, .ref zmr, .ref zmb, .int mt2_49, .ref zca, .ref zcw, .int (nI c), .ref zg, .ref zt, .ref zs, .ref zf, .ref zy, .ref zso, .ref zsf, .ref zsm, .int nt, .int nsh, .ref ztp, .ref zrw, .ref zpp, .int (nI tn), .int (nI pn), .int rdw, .int rdh, .ref zsz, .ref zit, .ref zk, .int (bI itk)])), (zc, ia G 16 f), (z1, ia G 5 s0), (z2, ia G 5 (fun ι => nI (s1 ι))), (z3, ia G 5 s2), (zm, ia G 16 mf2_49), (zmr, ia G 16 (fun ι => nI ((wrd w) ι))), (zmb, ia G 16 (fun ι => nI ((wrdI w) ι)))]) rfl rfl ?_
                refine j_istore_n (pc := 52) (lv' := [(3, .int (bI (decide ((s1 i / 100 < W ∧ s1 i % 100 < H) ∧ bI (bt (goF W H (wrd w) (wrdI w) t (s0 i) f (s1 i % 100)) (s1 i / 100)) = s2 i)))), (0, .ref md), (1, .int st), (2, .int (nI w)), (4, .int (nI i))]) hX dX9_fits_52 (by decide) rfl ?_
                refine j_iinc (pc := 53) (q := 4) (v := nI (i + 1)) (lv' := [(4, .int (nI (i + 1))), (3, .int (bI (decide ((s1 i / 100 < W ∧ s1 i % 100 < H) ∧ bI (bt (goF W H (wrd w) (wrdI w) t (s0 i) f (s1 i % 100)) (s1 i / 100)) = s2 i)))), (0, .ref md), (1, .int st), (2, .int (nI w))]) hX dX9_fits_53 rfl (nI_inc _ 1) (by decide) rfl ?_
                refine j_goto (pc := 56) (tgt := 33) hX dX9_fits_56 (by decide) ?_
                refine j_lv [2, 3, 4, 1, 0] (lv' := [(0, .ref md), (1, .int st), (2, .int (nI w)), (3, .int (bI (decide ((s1 i / 100 < W ∧ s1 i % 100 < H) ∧ bI (bt (goF W H (wrd w) (wrdI w) t (s0 i) f (s1 i % 100)) (s1 i / 100)) = s2 i)))), (4, .int (nI (i + 1)))]) rfl ?_
                exact ih33 (i + 1) (decide ((s1 i / 100 < W ∧ s1 i % 100 < H) ∧ bI (bt (goF W H (wrd w) (wrdI w) t (s0 i) f (s1 i % 100)) (s1 i / 100)) = s2 i)) mt2_49 mf2_49 (by omega) (fun e => lt_s (hb1 c43) e) (fun e => ⟨i, by omega, e⟩) (by omega)
        refine j_lv [2, 3, 4, 1, 0] (lv' := [(0, .ref md), (1, .int st), (2, .int (nI w)), (3, .int (bI true)), (4, .int (nI 0))]) rfl ?_
        exact L33 ((m - 0) + 1) 0 true mt3 mf3 (by omega) (fun _ z hz => absurd hz (Nat.not_lt_zero _)) (fun e => absurd e (by decide)) (Nat.lt_succ_self _)
  refine j_lv [2, 1, 0] (lv' := [(0, .ref md), (1, .int (nI 0)), (2, .int (nI 0))]) rfl ?_
  exact L4 ((5 - 0) + 1) 0 (nI 0) mt mf mrf mbf (by omega) (rfl) (Nat.lt_succ_self _)
set_option maxHeartbeats 4000000 in
set_option maxRecDepth 100000 in
theorem c_X9_event_clear (G : GT) (md : Nat) (W : Nat) (H : Nat) (t : Int32) (m : Nat) (k : Nat) (zc : Nat) (zr : Nat) (zb : Nat) (z1 : Nat) (z2 : Nat) (z3 : Nat) (z4 : Nat) (z5 : Nat) (zm : Nat) (zmr : Nat) (zmb : Nat) (mt : Int32) (zca : Nat) (zcw : Nat) (c : Nat) (zg : Nat) (zt : Nat) (zs : Nat) (zf : Nat) (zy : Nat) (zso : Nat) (zsf : Nat) (zsm : Nat) (nt : Int32) (nsh : Int32) (ztp : Nat) (zrw : Nat) (zpp : Nat) (tn : Nat) (pn : Nat) (rdw : Int32) (rdh : Int32) (zsz : Nat) (zit : Nat) (zk : Nat) (itk : Bool) (n : Int32)  (l : Launch) : CT l G yX9_event cX9_event 4 (some .int) { frames := 2, cells := 0, slots := 0, locals := 47 } [.ref md, .int (-1), .int n] [(md, .inr (9, [.int (nI W), .int (nI H), .int t, .int (nI m), .int (nI k), .ref zc, .ref zr, .ref zb, .ref z1, .ref z2, .ref z3, .ref z4, .ref z5, .ref zm, .ref zmr, .ref zmb, .int mt, .ref zca, .ref zcw, .int (nI c), .ref zg, .ref zt, .ref zs, .ref zf, .ref zy, .ref zso, .ref zsf, .ref zsm, .int nt, .int nsh, .ref ztp, .ref zrw, .ref zpp, .int (nI tn), .int (nI pn), .int rdw, .int rdh, .ref zsz, .ref zit, .ref zk, .int (bI itk)]))] (fun vv ww => vv = some (.int (nI 0)) ∧ ww = [(md, .inr (9, [.int (nI W), .int (nI H), .int t, .int (nI m), .int (nI 0), .ref zc, .ref zr, .ref zb, .ref z1, .ref z2, .ref z3, .ref z4, .ref z5, .ref zm, .ref zmr, .ref zmb, .int mt, .ref zca, .ref zcw, .int (nI c), .ref zg, .ref zt, .ref zs, .ref zf, .ref zy, .ref zso, .ref zsf, .ref zsm, .int nt, .int nsh, .ref ztp, .ref zrw, .ref zpp, .int (nI tn), .int (nI pn), .int rdw, .int rdh, .ref zsz, .ref zit, .ref zk, .int (bI itk)]))]) := by
  refine CT.of (lv := [(0, .ref md), (1, .int (-1)), (2, .int n)]) RX9 "event" rfl rfl (by decide +kernel) (Nat.le_of_ble_eq_true rfl) rfl (fun X hX hR => ?_)
  refine j_iload_n (pc := 0) hX dX9_event_0 1 rfl ?_
  refine j_iconst (pc := 1) (v := (-1)) hX dX9_event_1 (by decide) ?_
  refine j_icmp_ne (pc := 2) (tgt := 12) hX dX9_event_2 (by decide) (show ((-1) : Int32).toInt = -1 from by decide) (show ((-1) : Int32).toInt = -1 from by decide) (fun c2 => absurd c2 (by decide)) (fun c2 => ?_)
  refine j_aload_n (pc := 5) hX dX9_event_5 0 rfl ?_
  refine j_iconstN (pc := 6) (j := 0) hX dX9_event_6 rfl ?_
  refine j_put (pc := 7) (ws' := [(md, .inr (9, [.int (nI W), .int (nI H), .int t, .int (nI m), .int (nI 0), .ref zc, .ref zr, .ref zb, .ref z1, .ref z2, .ref z3, .ref z4, .ref z5, .ref zm, .ref zmr, .ref zmb, .int mt, .ref zca, .ref zcw, .int (nI c), .ref zg, .ref zt, .ref zs, .ref zf, .ref zy, .ref zso, .ref zsf, .ref zsm, .int nt, .int nsh, .ref ztp, .ref zrw, .ref zpp, .int (nI tn), .int (nI pn), .int rdw, .int rdh, .ref zsz, .ref zit, .ref zk, .int (bI itk)]))]) hX f_RX9_279 0 rfl rfl rfl (Nat.le_of_ble_eq_true rfl) rfl dX9_event_7 ?_
  refine j_iconstN (pc := 10) (j := 0) hX dX9_event_10 rfl ?_
  exact j_iret (pc := 11) hX hR dX9_event_11 ⟨rfl, rfl⟩
set_option maxHeartbeats 4000000 in
set_option maxRecDepth 100000 in
theorem c_X9_event_none (G : GT) (md : Nat) (W : Nat) (H : Nat) (t : Int32) (m : Nat) (k : Nat) (zc : Nat) (zr : Nat) (zb : Nat) (z1 : Nat) (z2 : Nat) (z3 : Nat) (z4 : Nat) (z5 : Nat) (zm : Nat) (zmr : Nat) (zmb : Nat) (mt : Int32) (zca : Nat) (zcw : Nat) (c : Nat) (zg : Nat) (zt : Nat) (zs : Nat) (zf : Nat) (zy : Nat) (zso : Nat) (zsf : Nat) (zsm : Nat) (nt : Int32) (nsh : Int32) (ztp : Nat) (zrw : Nat) (zpp : Nat) (tn : Nat) (pn : Nat) (rdw : Int32) (rdh : Int32) (zsz : Nat) (zit : Nat) (zk : Nat) (itk : Bool) (w n : Int32) (hb : w.toInt ≠ -1 ∧ (w.toInt < 0 ∨ 2 < w.toInt)) (l : Launch) : CT l G yX9_event cX9_event 4 (some .int) { frames := 2, cells := 0, slots := 0, locals := 47 } [.ref md, .int w, .int n] [(md, .inr (9, [.int (nI W), .int (nI H), .int t, .int (nI m), .int (nI k), .ref zc, .ref zr, .ref zb, .ref z1, .ref z2, .ref z3, .ref z4, .ref z5, .ref zm, .ref zmr, .ref zmb, .int mt, .ref zca, .ref zcw, .int (nI c), .ref zg, .ref zt, .ref zs, .ref zf, .ref zy, .ref zso, .ref zsf, .ref zsm, .int nt, .int nsh, .ref ztp, .ref zrw, .ref zpp, .int (nI tn), .int (nI pn), .int rdw, .int rdh, .ref zsz, .ref zit, .ref zk, .int (bI itk)]))] (fun vv ww => vv = some (.int (-1)) ∧ ww = [(md, .inr (9, [.int (nI W), .int (nI H), .int t, .int (nI m), .int (nI k), .ref zc, .ref zr, .ref zb, .ref z1, .ref z2, .ref z3, .ref z4, .ref z5, .ref zm, .ref zmr, .ref zmb, .int mt, .ref zca, .ref zcw, .int (nI c), .ref zg, .ref zt, .ref zs, .ref zf, .ref zy, .ref zso, .ref zsf, .ref zsm, .int nt, .int nsh, .ref ztp, .ref zrw, .ref zpp, .int (nI tn), .int (nI pn), .int rdw, .int rdh, .ref zsz, .ref zit, .ref zk, .int (bI itk)]))]) := by
  refine CT.of (lv := [(0, .ref md), (1, .int w), (2, .int n)]) RX9 "event" rfl rfl (by decide +kernel) (Nat.le_of_ble_eq_true rfl) rfl (fun X hX hR => ?_)
  refine j_iload_n (pc := 0) hX dX9_event_0 1 rfl ?_
  refine j_iconst (pc := 1) (v := (-1)) hX dX9_event_1 (by decide) ?_
  refine j_icmp_ne (pc := 2) (tgt := 12) hX dX9_event_2 (by decide) rfl (show ((-1) : Int32).toInt = -1 from by decide) (fun c2 => ?_) (fun c2 => by exfalso; omega)
  refine j_iload_n (pc := 12) hX dX9_event_12 1 rfl ?_
  refine j_i2l (pc := 13) hX dX9_event_13 ?_
  refine j_lconst (pc := 14) (v := 0) hX dX9_event_14 (by decide) ?_
  refine j_ldc2 (pc := 15) (v := (2)) hX k_RX9_152 dX9_event_15 ?_
  refine j_callS (pc := 18) hX kX9_isIn kSX9_isIn l_RX9_105 (fun l => c_X9_isIn G w.toInt64 0 (2) (rngB w (0) (2)) (inL_of (toL _) (show ((0) : Int64).toInt = 0 from by decide) (show ((2) : Int64).toInt = 2 from by decide)) l) [] [0] [] rfl rfl rfl rfl ⟨rfl, rfl, by decide⟩ rfl rfl (Nat.le_of_ble_eq_true rfl) dX9_event_18 (fun v w hq => ?_)
  obtain ⟨rfl, rfl⟩ := hq
  refine j_ws [0] (ws' := [(md, .inr (9, [.int (nI W), .int (nI H), .int t, .int (nI m), .int (nI k), .ref zc, .ref zr, .ref zb, .ref z1, .ref z2, .ref z3, .ref z4, .ref z5, .ref zm, .ref zmr, .ref zmb, .int mt, .ref zca, .ref zcw, .int (nI c), .ref zg, .ref zt, .ref zs, .ref zf, .ref zy, .ref zso, .ref zsf, .ref zsm, .int nt, .int nsh, .ref ztp, .ref zrw, .ref zpp, .int (nI tn), .int (nI pn), .int rdw, .int rdh, .ref zsz, .ref zit, .ref zk, .int (bI itk)]))]) rfl rfl ?_
  refine j_ifB_ne (pc := 21) (tgt := 26) hX dX9_event_21 (by decide) (fun c21 => by exfalso; have := of_decide_eq_true c21; omega) (fun c21 => ?_)
  refine j_iconst (pc := 24) (v := (-1)) hX dX9_event_24 (by decide) ?_
  exact j_iret (pc := 25) hX hR dX9_event_25 ⟨rfl, rfl⟩
set_option maxHeartbeats 4000000 in
set_option maxRecDepth 100000 in
theorem c_X9_event_bad (G : GT) (md : Nat) (W : Nat) (H : Nat) (t : Int32) (m : Nat) (k : Nat) (zc : Nat) (zr : Nat) (zb : Nat) (z1 : Nat) (z2 : Nat) (z3 : Nat) (z4 : Nat) (z5 : Nat) (zm : Nat) (zmr : Nat) (zmb : Nat) (mt : Int32) (zca : Nat) (zcw : Nat) (c : Nat) (zg : Nat) (zt : Nat) (zs : Nat) (zf : Nat) (zy : Nat) (zso : Nat) (zsf : Nat) (zsm : Nat) (nt : Int32) (nsh : Int32) (ztp : Nat) (zrw : Nat) (zpp : Nat) (tn : Nat) (pn : Nat) (rdw : Int32) (rdh : Int32) (zsz : Nat) (zit : Nat) (zk : Nat) (itk : Bool) (a0 : Nat) (n : Int32) (hW1 : 2 ≤ W) (hW2 : W ≤ 16) (hH1 : 2 ≤ H) (hH2 : H ≤ 16) (ha : a0 ≤ 2) (hb : canB W H a0 n = false) (l : Launch) : CT l G yX9_event cX9_event 4 (some .int) { frames := 2, cells := 0, slots := 0, locals := 47 } [.ref md, .int (nI a0), .int n] [(md, .inr (9, [.int (nI W), .int (nI H), .int t, .int (nI m), .int (nI k), .ref zc, .ref zr, .ref zb, .ref z1, .ref z2, .ref z3, .ref z4, .ref z5, .ref zm, .ref zmr, .ref zmb, .int mt, .ref zca, .ref zcw, .int (nI c), .ref zg, .ref zt, .ref zs, .ref zf, .ref zy, .ref zso, .ref zsf, .ref zsm, .int nt, .int nsh, .ref ztp, .ref zrw, .ref zpp, .int (nI tn), .int (nI pn), .int rdw, .int rdh, .ref zsz, .ref zit, .ref zk, .int (bI itk)]))] (fun vv ww => vv = some (.int (-2)) ∧ ww = [(md, .inr (9, [.int (nI W), .int (nI H), .int t, .int (nI m), .int (nI k), .ref zc, .ref zr, .ref zb, .ref z1, .ref z2, .ref z3, .ref z4, .ref z5, .ref zm, .ref zmr, .ref zmb, .int mt, .ref zca, .ref zcw, .int (nI c), .ref zg, .ref zt, .ref zs, .ref zf, .ref zy, .ref zso, .ref zsf, .ref zsm, .int nt, .int nsh, .ref ztp, .ref zrw, .ref zpp, .int (nI tn), .int (nI pn), .int rdw, .int rdh, .ref zsz, .ref zit, .ref zk, .int (bI itk)]))]) := by
  refine CT.of (lv := [(0, .ref md), (1, .int (nI a0)), (2, .int n)]) RX9 "event" rfl rfl (by decide +kernel) (Nat.le_of_ble_eq_true rfl) rfl (fun X hX hR => ?_)
  refine j_iload_n (pc := 0) hX dX9_event_0 1 rfl ?_
  refine j_iconst (pc := 1) (v := (-1)) hX dX9_event_1 (by decide) ?_
  refine j_icmp_ne (pc := 2) (tgt := 12) hX dX9_event_2 (by decide) (nI_toInt (n := a0) (by omega)) (show ((-1) : Int32).toInt = -1 from by decide) (fun c2 => ?_) (fun c2 => by exfalso; omega)
  refine j_iload_n (pc := 12) hX dX9_event_12 1 rfl ?_
  refine j_i2l (pc := 13) hX dX9_event_13 ?_
  refine j_lconst (pc := 14) (v := 0) hX dX9_event_14 (by decide) ?_
  refine j_ldc2 (pc := 15) (v := (2)) hX k_RX9_152 dX9_event_15 ?_
  refine j_callS (pc := 18) hX kX9_isIn kSX9_isIn l_RX9_105 (fun l => c_X9_isIn G ((nI a0).toInt64) 0 (2) (rngB (nI a0) (0) (2)) (inL_of (toL _) (show ((0) : Int64).toInt = 0 from by decide) (show ((2) : Int64).toInt = 2 from by decide)) l) [] [0] [] rfl rfl rfl rfl ⟨rfl, rfl, by decide⟩ rfl rfl (Nat.le_of_ble_eq_true rfl) dX9_event_18 (fun v w hq => ?_)
  obtain ⟨rfl, rfl⟩ := hq
  refine j_ws [0] (ws' := [(md, .inr (9, [.int (nI W), .int (nI H), .int t, .int (nI m), .int (nI k), .ref zc, .ref zr, .ref zb, .ref z1, .ref z2, .ref z3, .ref z4, .ref z5, .ref zm, .ref zmr, .ref zmb, .int mt, .ref zca, .ref zcw, .int (nI c), .ref zg, .ref zt, .ref zs, .ref zf, .ref zy, .ref zso, .ref zsf, .ref zsm, .int nt, .int nsh, .ref ztp, .ref zrw, .ref zpp, .int (nI tn), .int (nI pn), .int rdw, .int rdh, .ref zsz, .ref zit, .ref zk, .int (bI itk)]))]) rfl rfl ?_
  refine j_ifB_ne (pc := 21) (tgt := 26) hX dX9_event_21 (by decide) (fun c21 => ?_) (fun c21 => by rw [rng_t (x := nI a0) (A := 0) (B := 2) (by rw [nI_toInt (by omega)]; omega)] at c21; cases c21)
  refine j_iload_n (pc := 26) hX dX9_event_26 1 rfl ?_
  refine j_if_ne (pc := 27) (tgt := 42) hX dX9_event_27 (by decide) (nI_toInt (n := a0) (by omega)) (fun c27 => ?_) (fun c27 => ?_)
  · skip
    refine j_iload_n (pc := 42) hX dX9_event_42 1 rfl ?_
    refine j_iconstN (pc := 43) (j := 1) hX dX9_event_43 rfl ?_
    refine j_icmp_ne (pc := 44) (tgt := 59) hX dX9_event_44 (by decide) (nI_toInt (n := a0) (by omega)) (nI_toInt (n := 1) (by decide)) (fun c44 => ?_) (fun c44 => ?_)
    · skip
      refine j_iload_n (pc := 59) hX dX9_event_59 2 rfl ?_
      refine j_if_lt (pc := 60) (tgt := 82) hX dX9_event_60 (by decide) rfl (fun c60 => ?_) (fun c60 => ?_)
      · skip
        refine j_iconstN (pc := 82) (j := 0) hX dX9_event_82 rfl ?_
        refine j_istore_n (pc := 83) (lv' := [(3, .int (nI 0)), (0, .ref md), (1, .int (nI a0)), (2, .int n)]) hX dX9_event_83 (by decide) rfl ?_
        refine j_iload_n (pc := 84) hX dX9_event_84 0 rfl ?_
        refine j_if_ne (pc := 85) (tgt := 91) hX dX9_event_85 (by decide) (nI_toInt (n := 0) (by decide)) (fun c85 => absurd c85 (by decide)) (fun c85 => ?_)
        refine j_bipush (pc := 88) (v := (-2)) hX dX9_event_88 (by decide) ?_
        exact j_iret (pc := 90) hX hR dX9_event_90 ⟨rfl, rfl⟩
      · skip
        refine j_aload_n (pc := 63) hX dX9_event_63 0 rfl ?_
        refine j_iload_n (pc := 64) hX dX9_event_64 2 rfl ?_
        refine j_bipush (pc := 65) (v := nI 100) hX dX9_event_65 (by decide) ?_
        refine j_idiv (pc := 67) hX dX9_event_67 (by decide) ?_
        refine j_iload_n (pc := 68) hX dX9_event_68 2 rfl ?_
        refine j_bipush (pc := 69) (v := nI 100) hX dX9_event_69 (by decide) ?_
        refine j_irem (pc := 71) hX dX9_event_71 (by decide) ?_
        refine j_callV (pc := 72) hX kX9_isCell kVX9_isCell l_RX9_159 (fun l => c_X9_isCell G md W H t m k zc zr zb z1 z2 z3 z4 z5 zm zmr zmb mt zca zcw c zg zt zs zf zy zso zsf zsm nt nsh ztp zrw zpp tn pn rdw rdh zsz zit zk itk (n / (nI 100)) (n - n / (nI 100) * (nI 100)) (by omega) (by omega) (by omega) (by omega) l) [0] [] [] rfl 0 9 rfl rfl rfl rfl rfl rfl ⟨rfl, rfl, by decide⟩ rfl rfl (Nat.le_of_ble_eq_true rfl) dX9_event_72 (fun v w hq => ?_)
        obtain ⟨rfl, rfl⟩ := hq
        refine j_ws [0] (ws' := [(md, .inr (9, [.int (nI W), .int (nI H), .int t, .int (nI m), .int (nI k), .ref zc, .ref zr, .ref zb, .ref z1, .ref z2, .ref z3, .ref z4, .ref z5, .ref zm, .ref zmr, .ref zmb, .int mt, .ref zca, .ref zcw, .int (nI c), .ref zg, .ref zt, .ref zs, .ref zf, .ref zy, .ref zso, .ref zsf, .ref zsm, .int nt, .int nsh, .ref ztp, .ref zrw, .ref zpp, .int (nI tn), .int (nI pn), .int rdw, .int rdh, .ref zsz, .ref zit, .ref zk, .int (bI itk)]))]) rfl rfl ?_
        refine j_ifB_eq (pc := 75) (tgt := 82) hX dX9_event_75 (by decide) (fun c75 => ?_) (fun c75 => ?_)
        · skip
          refine j_iconstN (pc := 82) (j := 0) hX dX9_event_82 rfl ?_
          refine j_istore_n (pc := 83) (lv' := [(3, .int (nI 0)), (0, .ref md), (1, .int (nI a0)), (2, .int n)]) hX dX9_event_83 (by decide) rfl ?_
          refine j_iload_n (pc := 84) hX dX9_event_84 0 rfl ?_
          refine j_if_ne (pc := 85) (tgt := 91) hX dX9_event_85 (by decide) (nI_toInt (n := 0) (by decide)) (fun c85 => absurd c85 (by decide)) (fun c85 => ?_)
          refine j_bipush (pc := 88) (v := (-2)) hX dX9_event_88 (by decide) ?_
          exact j_iret (pc := 90) hX hR dX9_event_90 ⟨rfl, rfl⟩
        · skip
          refine j_iconstN (pc := 78) (j := 1) hX dX9_event_78 rfl ?_
          refine j_goto (pc := 79) (tgt := 83) hX dX9_event_79 (by decide) ?_
          refine j_istore_n (pc := 83) (lv' := [(3, .int (nI 1)), (0, .ref md), (1, .int (nI a0)), (2, .int n)]) hX dX9_event_83 (by decide) rfl ?_
          refine j_iload_n (pc := 84) hX dX9_event_84 0 rfl ?_
          refine j_if_ne (pc := 85) (tgt := 91) hX dX9_event_85 (by decide) (nI_toInt (n := 1) (by decide)) (fun c85 => by exfalso; have hb := of_decide_eq_false hb; (try have c85 := of_decide_eq_true c85); (try (rw [inG_raw] at c75; have c75 := of_decide_eq_true c75)); omega) (fun c85 => absurd c85 (by decide))
    · skip
      refine j_iload_n (pc := 47) hX dX9_event_47 2 rfl ?_
      refine j_i2l (pc := 48) hX dX9_event_48 ?_
      refine j_lconst (pc := 49) (v := 0) hX dX9_event_49 (by decide) ?_
      refine j_ldc2 (pc := 50) (v := (20)) hX k_RX9_282 dX9_event_50 ?_
      refine j_callS (pc := 53) hX kX9_isIn kSX9_isIn l_RX9_105 (fun l => c_X9_isIn G n.toInt64 0 (20) (rngB n (0) (20)) (inL_of (toL _) (show ((0) : Int64).toInt = 0 from by decide) (show ((20) : Int64).toInt = 20 from by decide)) l) [] [0] [] rfl rfl rfl rfl ⟨rfl, rfl, by decide⟩ rfl rfl (Nat.le_of_ble_eq_true rfl) dX9_event_53 (fun v w hq => ?_)
      obtain ⟨rfl, rfl⟩ := hq
      refine j_ws [0] (ws' := [(md, .inr (9, [.int (nI W), .int (nI H), .int t, .int (nI m), .int (nI k), .ref zc, .ref zr, .ref zb, .ref z1, .ref z2, .ref z3, .ref z4, .ref z5, .ref zm, .ref zmr, .ref zmb, .int mt, .ref zca, .ref zcw, .int (nI c), .ref zg, .ref zt, .ref zs, .ref zf, .ref zy, .ref zso, .ref zsf, .ref zsm, .int nt, .int nsh, .ref ztp, .ref zrw, .ref zpp, .int (nI tn), .int (nI pn), .int rdw, .int rdh, .ref zsz, .ref zit, .ref zk, .int (bI itk)]))]) rfl rfl ?_
      refine j_goto (pc := 56) (tgt := 83) hX dX9_event_56 (by decide) ?_
      refine j_istore_n (pc := 83) (lv' := [(3, .int (bI (rngB n (0) (20)))), (0, .ref md), (1, .int (nI a0)), (2, .int n)]) hX dX9_event_83 (by decide) rfl ?_
      refine j_iload_n (pc := 84) hX dX9_event_84 0 rfl ?_
      refine j_ifB_ne (pc := 85) (tgt := 91) hX dX9_event_85 (by decide) (fun c85 => by exfalso; have hb := of_decide_eq_false hb; (try have c85 := of_decide_eq_true c85); (try (rw [inG_raw] at c75; have c75 := of_decide_eq_true c75)); omega) (fun c85 => ?_)
      refine j_bipush (pc := 88) (v := (-2)) hX dX9_event_88 (by decide) ?_
      exact j_iret (pc := 90) hX hR dX9_event_90 ⟨rfl, rfl⟩
  · skip
    refine j_iload_n (pc := 30) hX dX9_event_30 2 rfl ?_
    refine j_i2l (pc := 31) hX dX9_event_31 ?_
    refine j_lconst (pc := 32) (v := 0) hX dX9_event_32 (by decide) ?_
    refine j_ldc2 (pc := 33) (v := (4)) hX k_RX9_119 dX9_event_33 ?_
    refine j_callS (pc := 36) hX kX9_isIn kSX9_isIn l_RX9_105 (fun l => c_X9_isIn G n.toInt64 0 (4) (rngB n (0) (4)) (inL_of (toL _) (show ((0) : Int64).toInt = 0 from by decide) (show ((4) : Int64).toInt = 4 from by decide)) l) [] [0] [] rfl rfl rfl rfl ⟨rfl, rfl, by decide⟩ rfl rfl (Nat.le_of_ble_eq_true rfl) dX9_event_36 (fun v w hq => ?_)
    obtain ⟨rfl, rfl⟩ := hq
    refine j_ws [0] (ws' := [(md, .inr (9, [.int (nI W), .int (nI H), .int t, .int (nI m), .int (nI k), .ref zc, .ref zr, .ref zb, .ref z1, .ref z2, .ref z3, .ref z4, .ref z5, .ref zm, .ref zmr, .ref zmb, .int mt, .ref zca, .ref zcw, .int (nI c), .ref zg, .ref zt, .ref zs, .ref zf, .ref zy, .ref zso, .ref zsf, .ref zsm, .int nt, .int nsh, .ref ztp, .ref zrw, .ref zpp, .int (nI tn), .int (nI pn), .int rdw, .int rdh, .ref zsz, .ref zit, .ref zk, .int (bI itk)]))]) rfl rfl ?_
    refine j_goto (pc := 39) (tgt := 83) hX dX9_event_39 (by decide) ?_
    refine j_istore_n (pc := 83) (lv' := [(3, .int (bI (rngB n (0) (4)))), (0, .ref md), (1, .int (nI a0)), (2, .int n)]) hX dX9_event_83 (by decide) rfl ?_
    refine j_iload_n (pc := 84) hX dX9_event_84 0 rfl ?_
    refine j_ifB_ne (pc := 85) (tgt := 91) hX dX9_event_85 (by decide) (fun c85 => by exfalso; have hb := of_decide_eq_false hb; (try have c85 := of_decide_eq_true c85); (try (rw [inG_raw] at c75; have c75 := of_decide_eq_true c75)); omega) (fun c85 => ?_)
    refine j_bipush (pc := 88) (v := (-2)) hX dX9_event_88 (by decide) ?_
    exact j_iret (pc := 90) hX hR dX9_event_90 ⟨rfl, rfl⟩
set_option maxHeartbeats 4000000 in
set_option maxRecDepth 100000 in
theorem c_X9_event_full (G : GT) (md : Nat) (W : Nat) (H : Nat) (t : Int32) (m : Nat) (zc : Nat) (zr : Nat) (zb : Nat) (z1 : Nat) (z2 : Nat) (z3 : Nat) (z4 : Nat) (z5 : Nat) (zm : Nat) (zmr : Nat) (zmb : Nat) (mt : Int32) (zca : Nat) (zcw : Nat) (c : Nat) (zg : Nat) (zt : Nat) (zs : Nat) (zf : Nat) (zy : Nat) (zso : Nat) (zsf : Nat) (zsm : Nat) (nt : Int32) (nsh : Int32) (ztp : Nat) (zrw : Nat) (zpp : Nat) (tn : Nat) (pn : Nat) (rdw : Int32) (rdh : Int32) (zsz : Nat) (zit : Nat) (zk : Nat) (itk : Bool) (a0 n : Nat) (hW1 : 2 ≤ W) (hW2 : W ≤ 16) (hH1 : 2 ≤ H) (hH2 : H ≤ 16) (ha : a0 ≤ 2) (hb : canB W H a0 (nI n) = true) (l : Launch) : CT l G yX9_event cX9_event 4 (some .int) { frames := 2, cells := 0, slots := 0, locals := 47 } [.ref md, .int (nI a0), .int (nI n)] [(md, .inr (9, [.int (nI W), .int (nI H), .int t, .int (nI m), .int (nI 8), .ref zc, .ref zr, .ref zb, .ref z1, .ref z2, .ref z3, .ref z4, .ref z5, .ref zm, .ref zmr, .ref zmb, .int mt, .ref zca, .ref zcw, .int (nI c), .ref zg, .ref zt, .ref zs, .ref zf, .ref zy, .ref zso, .ref zsf, .ref zsm, .int nt, .int nsh, .ref ztp, .ref zrw, .ref zpp, .int (nI tn), .int (nI pn), .int rdw, .int rdh, .ref zsz, .ref zit, .ref zk, .int (bI itk)]))] (fun vv ww => vv = some (.int (-4)) ∧ ww = [(md, .inr (9, [.int (nI W), .int (nI H), .int t, .int (nI m), .int (nI 8), .ref zc, .ref zr, .ref zb, .ref z1, .ref z2, .ref z3, .ref z4, .ref z5, .ref zm, .ref zmr, .ref zmb, .int mt, .ref zca, .ref zcw, .int (nI c), .ref zg, .ref zt, .ref zs, .ref zf, .ref zy, .ref zso, .ref zsf, .ref zsm, .int nt, .int nsh, .ref ztp, .ref zrw, .ref zpp, .int (nI tn), .int (nI pn), .int rdw, .int rdh, .ref zsz, .ref zit, .ref zk, .int (bI itk)]))]) := by
  refine CT.of (lv := [(0, .ref md), (1, .int (nI a0)), (2, .int (nI n))]) RX9 "event" rfl rfl (by decide +kernel) (Nat.le_of_ble_eq_true rfl) rfl (fun X hX hR => ?_)
  refine j_iload_n (pc := 0) hX dX9_event_0 1 rfl ?_
  refine j_iconst (pc := 1) (v := (-1)) hX dX9_event_1 (by decide) ?_
  refine j_icmp_ne (pc := 2) (tgt := 12) hX dX9_event_2 (by decide) (nI_toInt (n := a0) (by omega)) (show ((-1) : Int32).toInt = -1 from by decide) (fun c2 => ?_) (fun c2 => by exfalso; omega)
  refine j_iload_n (pc := 12) hX dX9_event_12 1 rfl ?_
  refine j_i2l (pc := 13) hX dX9_event_13 ?_
  refine j_lconst (pc := 14) (v := 0) hX dX9_event_14 (by decide) ?_
  refine j_ldc2 (pc := 15) (v := (2)) hX k_RX9_152 dX9_event_15 ?_
  refine j_callS (pc := 18) hX kX9_isIn kSX9_isIn l_RX9_105 (fun l => c_X9_isIn G ((nI a0).toInt64) 0 (2) (rngB (nI a0) (0) (2)) (inL_of (toL _) (show ((0) : Int64).toInt = 0 from by decide) (show ((2) : Int64).toInt = 2 from by decide)) l) [] [0] [] rfl rfl rfl rfl ⟨rfl, rfl, by decide⟩ rfl rfl (Nat.le_of_ble_eq_true rfl) dX9_event_18 (fun v w hq => ?_)
  obtain ⟨rfl, rfl⟩ := hq
  refine j_ws [0] (ws' := [(md, .inr (9, [.int (nI W), .int (nI H), .int t, .int (nI m), .int (nI 8), .ref zc, .ref zr, .ref zb, .ref z1, .ref z2, .ref z3, .ref z4, .ref z5, .ref zm, .ref zmr, .ref zmb, .int mt, .ref zca, .ref zcw, .int (nI c), .ref zg, .ref zt, .ref zs, .ref zf, .ref zy, .ref zso, .ref zsf, .ref zsm, .int nt, .int nsh, .ref ztp, .ref zrw, .ref zpp, .int (nI tn), .int (nI pn), .int rdw, .int rdh, .ref zsz, .ref zit, .ref zk, .int (bI itk)]))]) rfl rfl ?_
  refine j_ifB_ne (pc := 21) (tgt := 26) hX dX9_event_21 (by decide) (fun c21 => ?_) (fun c21 => by rw [rng_t (x := nI a0) (A := 0) (B := 2) (by rw [nI_toInt (by omega)]; omega)] at c21; cases c21)
  refine j_iload_n (pc := 26) hX dX9_event_26 1 rfl ?_
  refine j_if_ne (pc := 27) (tgt := 42) hX dX9_event_27 (by decide) (nI_toInt (n := a0) (by omega)) (fun c27 => ?_) (fun c27 => ?_)
  · skip
    refine j_iload_n (pc := 42) hX dX9_event_42 1 rfl ?_
    refine j_iconstN (pc := 43) (j := 1) hX dX9_event_43 rfl ?_
    refine j_icmp_ne (pc := 44) (tgt := 59) hX dX9_event_44 (by decide) (nI_toInt (n := a0) (by omega)) (nI_toInt (n := 1) (by decide)) (fun c44 => ?_) (fun c44 => ?_)
    · skip
      refine j_iload_n (pc := 59) hX dX9_event_59 2 rfl ?_
      refine j_if_lt (pc := 60) (tgt := 82) hX dX9_event_60 (by decide) rfl (fun c60 => ?_) (fun c60 => ?_)
      · skip
        refine j_iconstN (pc := 82) (j := 0) hX dX9_event_82 rfl ?_
        refine j_istore_n (pc := 83) (lv' := [(3, .int (nI 0)), (0, .ref md), (1, .int (nI a0)), (2, .int (nI n))]) hX dX9_event_83 (by decide) rfl ?_
        refine j_iload_n (pc := 84) hX dX9_event_84 0 rfl ?_
        refine j_if_ne (pc := 85) (tgt := 91) hX dX9_event_85 (by decide) (nI_toInt (n := 0) (by decide)) (fun c85 => absurd c85 (by decide)) (fun c85 => by exfalso; have hb := of_decide_eq_true hb; (try have c85 := of_decide_eq_false c85); (try (rw [inG_raw] at c75; have c75 := of_decide_eq_false c75)); omega)
      · skip
        refine j_aload_n (pc := 63) hX dX9_event_63 0 rfl ?_
        refine j_iload_n (pc := 64) hX dX9_event_64 2 rfl ?_
        refine j_bipush (pc := 65) (v := nI 100) hX dX9_event_65 (by decide) ?_
        refine j_idiv (pc := 67) hX dX9_event_67 (by decide) ?_
        refine j_iload_n (pc := 68) hX dX9_event_68 2 rfl ?_
        refine j_bipush (pc := 69) (v := nI 100) hX dX9_event_69 (by decide) ?_
        refine j_irem (pc := 71) hX dX9_event_71 (by decide) ?_
        refine j_callV (pc := 72) hX kX9_isCell kVX9_isCell l_RX9_159 (fun l => c_X9_isCell G md W H t m 8 zc zr zb z1 z2 z3 z4 z5 zm zmr zmb mt zca zcw c zg zt zs zf zy zso zsf zsm nt nsh ztp zrw zpp tn pn rdw rdh zsz zit zk itk ((nI n) / (nI 100)) ((nI n) - (nI n) / (nI 100) * (nI 100)) (by omega) (by omega) (by omega) (by omega) l) [0] [] [] rfl 0 9 rfl rfl rfl rfl rfl rfl ⟨rfl, rfl, by decide⟩ rfl rfl (Nat.le_of_ble_eq_true rfl) dX9_event_72 (fun v w hq => ?_)
        obtain ⟨rfl, rfl⟩ := hq
        refine j_ws [0] (ws' := [(md, .inr (9, [.int (nI W), .int (nI H), .int t, .int (nI m), .int (nI 8), .ref zc, .ref zr, .ref zb, .ref z1, .ref z2, .ref z3, .ref z4, .ref z5, .ref zm, .ref zmr, .ref zmb, .int mt, .ref zca, .ref zcw, .int (nI c), .ref zg, .ref zt, .ref zs, .ref zf, .ref zy, .ref zso, .ref zsf, .ref zsm, .int nt, .int nsh, .ref ztp, .ref zrw, .ref zpp, .int (nI tn), .int (nI pn), .int rdw, .int rdh, .ref zsz, .ref zit, .ref zk, .int (bI itk)]))]) rfl rfl ?_
        refine j_ifB_eq (pc := 75) (tgt := 82) hX dX9_event_75 (by decide) (fun c75 => ?_) (fun c75 => ?_)
        · skip
          refine j_iconstN (pc := 82) (j := 0) hX dX9_event_82 rfl ?_
          refine j_istore_n (pc := 83) (lv' := [(3, .int (nI 0)), (0, .ref md), (1, .int (nI a0)), (2, .int (nI n))]) hX dX9_event_83 (by decide) rfl ?_
          refine j_iload_n (pc := 84) hX dX9_event_84 0 rfl ?_
          refine j_if_ne (pc := 85) (tgt := 91) hX dX9_event_85 (by decide) (nI_toInt (n := 0) (by decide)) (fun c85 => absurd c85 (by decide)) (fun c85 => by exfalso; have hb := of_decide_eq_true hb; (try have c85 := of_decide_eq_false c85); (try (rw [inG_raw] at c75; have c75 := of_decide_eq_false c75)); omega)
        · skip
          refine j_iconstN (pc := 78) (j := 1) hX dX9_event_78 rfl ?_
          refine j_goto (pc := 79) (tgt := 83) hX dX9_event_79 (by decide) ?_
          refine j_istore_n (pc := 83) (lv' := [(3, .int (nI 1)), (0, .ref md), (1, .int (nI a0)), (2, .int (nI n))]) hX dX9_event_83 (by decide) rfl ?_
          refine j_iload_n (pc := 84) hX dX9_event_84 0 rfl ?_
          refine j_if_ne (pc := 85) (tgt := 91) hX dX9_event_85 (by decide) (nI_toInt (n := 1) (by decide)) (fun c85 => ?_) (fun c85 => absurd c85 (by decide))
          refine j_aload_n (pc := 91) hX dX9_event_91 1 rfl ?_
          refine j_get (pc := 92) hX f_RX9_279 0 rfl rfl dX9_event_92 ?_
          refine j_bipush (pc := 95) (v := nI 8) hX dX9_event_95 (by decide) ?_
          refine j_icmp_ne (pc := 97) (tgt := 103) hX dX9_event_97 (by decide) (nI_toInt (n := 8) (by omega)) (nI_toInt (n := 8) (by decide)) (fun c97 => by exact absurd rfl c97) (fun c97 => ?_)
          refine j_bipush (pc := 100) (v := (-4)) hX dX9_event_100 (by decide) ?_
          exact j_iret (pc := 102) hX hR dX9_event_102 ⟨rfl, rfl⟩
    · skip
      refine j_iload_n (pc := 47) hX dX9_event_47 2 rfl ?_
      refine j_i2l (pc := 48) hX dX9_event_48 ?_
      refine j_lconst (pc := 49) (v := 0) hX dX9_event_49 (by decide) ?_
      refine j_ldc2 (pc := 50) (v := (20)) hX k_RX9_282 dX9_event_50 ?_
      refine j_callS (pc := 53) hX kX9_isIn kSX9_isIn l_RX9_105 (fun l => c_X9_isIn G ((nI n).toInt64) 0 (20) (rngB (nI n) (0) (20)) (inL_of (toL _) (show ((0) : Int64).toInt = 0 from by decide) (show ((20) : Int64).toInt = 20 from by decide)) l) [] [0] [] rfl rfl rfl rfl ⟨rfl, rfl, by decide⟩ rfl rfl (Nat.le_of_ble_eq_true rfl) dX9_event_53 (fun v w hq => ?_)
      obtain ⟨rfl, rfl⟩ := hq
      refine j_ws [0] (ws' := [(md, .inr (9, [.int (nI W), .int (nI H), .int t, .int (nI m), .int (nI 8), .ref zc, .ref zr, .ref zb, .ref z1, .ref z2, .ref z3, .ref z4, .ref z5, .ref zm, .ref zmr, .ref zmb, .int mt, .ref zca, .ref zcw, .int (nI c), .ref zg, .ref zt, .ref zs, .ref zf, .ref zy, .ref zso, .ref zsf, .ref zsm, .int nt, .int nsh, .ref ztp, .ref zrw, .ref zpp, .int (nI tn), .int (nI pn), .int rdw, .int rdh, .ref zsz, .ref zit, .ref zk, .int (bI itk)]))]) rfl rfl ?_
      refine j_goto (pc := 56) (tgt := 83) hX dX9_event_56 (by decide) ?_
      refine j_istore_n (pc := 83) (lv' := [(3, .int (bI (rngB (nI n) (0) (20)))), (0, .ref md), (1, .int (nI a0)), (2, .int (nI n))]) hX dX9_event_83 (by decide) rfl ?_
      refine j_iload_n (pc := 84) hX dX9_event_84 0 rfl ?_
      refine j_ifB_ne (pc := 85) (tgt := 91) hX dX9_event_85 (by decide) (fun c85 => ?_) (fun c85 => by exfalso; have hb := of_decide_eq_true hb; (try have c85 := of_decide_eq_false c85); (try (rw [inG_raw] at c75; have c75 := of_decide_eq_false c75)); omega)
      refine j_aload_n (pc := 91) hX dX9_event_91 1 rfl ?_
      refine j_get (pc := 92) hX f_RX9_279 0 rfl rfl dX9_event_92 ?_
      refine j_bipush (pc := 95) (v := nI 8) hX dX9_event_95 (by decide) ?_
      refine j_icmp_ne (pc := 97) (tgt := 103) hX dX9_event_97 (by decide) (nI_toInt (n := 8) (by decide)) (nI_toInt (n := 8) (by decide)) (fun c97 => absurd c97 (by decide)) (fun c97 => ?_)
      refine j_bipush (pc := 100) (v := (-4)) hX dX9_event_100 (by decide) ?_
      exact j_iret (pc := 102) hX hR dX9_event_102 ⟨rfl, rfl⟩
  · skip
    refine j_iload_n (pc := 30) hX dX9_event_30 2 rfl ?_
    refine j_i2l (pc := 31) hX dX9_event_31 ?_
    refine j_lconst (pc := 32) (v := 0) hX dX9_event_32 (by decide) ?_
    refine j_ldc2 (pc := 33) (v := (4)) hX k_RX9_119 dX9_event_33 ?_
    refine j_callS (pc := 36) hX kX9_isIn kSX9_isIn l_RX9_105 (fun l => c_X9_isIn G ((nI n).toInt64) 0 (4) (rngB (nI n) (0) (4)) (inL_of (toL _) (show ((0) : Int64).toInt = 0 from by decide) (show ((4) : Int64).toInt = 4 from by decide)) l) [] [0] [] rfl rfl rfl rfl ⟨rfl, rfl, by decide⟩ rfl rfl (Nat.le_of_ble_eq_true rfl) dX9_event_36 (fun v w hq => ?_)
    obtain ⟨rfl, rfl⟩ := hq
    refine j_ws [0] (ws' := [(md, .inr (9, [.int (nI W), .int (nI H), .int t, .int (nI m), .int (nI 8), .ref zc, .ref zr, .ref zb, .ref z1, .ref z2, .ref z3, .ref z4, .ref z5, .ref zm, .ref zmr, .ref zmb, .int mt, .ref zca, .ref zcw, .int (nI c), .ref zg, .ref zt, .ref zs, .ref zf, .ref zy, .ref zso, .ref zsf, .ref zsm, .int nt, .int nsh, .ref ztp, .ref zrw, .ref zpp, .int (nI tn), .int (nI pn), .int rdw, .int rdh, .ref zsz, .ref zit, .ref zk, .int (bI itk)]))]) rfl rfl ?_
    refine j_goto (pc := 39) (tgt := 83) hX dX9_event_39 (by decide) ?_
    refine j_istore_n (pc := 83) (lv' := [(3, .int (bI (rngB (nI n) (0) (4)))), (0, .ref md), (1, .int (nI a0)), (2, .int (nI n))]) hX dX9_event_83 (by decide) rfl ?_
    refine j_iload_n (pc := 84) hX dX9_event_84 0 rfl ?_
    refine j_ifB_ne (pc := 85) (tgt := 91) hX dX9_event_85 (by decide) (fun c85 => ?_) (fun c85 => by exfalso; have hb := of_decide_eq_true hb; (try have c85 := of_decide_eq_false c85); (try (rw [inG_raw] at c75; have c75 := of_decide_eq_false c75)); omega)
    refine j_aload_n (pc := 91) hX dX9_event_91 1 rfl ?_
    refine j_get (pc := 92) hX f_RX9_279 0 rfl rfl dX9_event_92 ?_
    refine j_bipush (pc := 95) (v := nI 8) hX dX9_event_95 (by decide) ?_
    refine j_icmp_ne (pc := 97) (tgt := 103) hX dX9_event_97 (by decide) (nI_toInt (n := 8) (by decide)) (nI_toInt (n := 8) (by decide)) (fun c97 => absurd c97 (by decide)) (fun c97 => ?_)
    refine j_bipush (pc := 100) (v := (-4)) hX dX9_event_100 (by decide) ?_
    exact j_iret (pc := 102) hX hR dX9_event_102 ⟨rfl, rfl⟩
set_option maxHeartbeats 4000000 in
set_option maxRecDepth 100000 in
theorem c_X9_event_ok (G : GT) (md : Nat) (W : Nat) (H : Nat) (t : Int32) (m : Nat) (k : Nat) (zc : Nat) (zr : Nat) (zb : Nat) (z1 : Nat) (z2 : Nat) (z3 : Nat) (z4 : Nat) (z5 : Nat) (zm : Nat) (zmr : Nat) (zmb : Nat) (mt : Int32) (zca : Nat) (zcw : Nat) (c : Nat) (zg : Nat) (zt : Nat) (zs : Nat) (zf : Nat) (zy : Nat) (zso : Nat) (zsf : Nat) (zsm : Nat) (nt : Int32) (nsh : Int32) (ztp : Nat) (zrw : Nat) (zpp : Nat) (tn : Nat) (pn : Nat) (rdw : Int32) (rdh : Int32) (zsz : Nat) (zit : Nat) (zk : Nat) (itk : Bool) (e0 : Nat → Nat) (e1 : Nat → Nat) (a0 n : Nat) (hW1 : 2 ≤ W) (hW2 : W ≤ 16) (hH1 : 2 ≤ H) (hH2 : H ≤ 16) (ha : a0 ≤ 2) (hb : canB W H a0 (nI n) = true) (hk : k < 8) (l : Launch) : CT l G yX9_event cX9_event 4 (some .int) { frames := 2, cells := 0, slots := 0, locals := 47 } [.ref md, .int (nI a0), .int (nI n)] [(md, .inr (9, [.int (nI W), .int (nI H), .int t, .int (nI m), .int (nI k), .ref zc, .ref zr, .ref zb, .ref z1, .ref z2, .ref z3, .ref z4, .ref z5, .ref zm, .ref zmr, .ref zmb, .int mt, .ref zca, .ref zcw, .int (nI c), .ref zg, .ref zt, .ref zs, .ref zf, .ref zy, .ref zso, .ref zsf, .ref zsm, .int nt, .int nsh, .ref ztp, .ref zrw, .ref zpp, .int (nI tn), .int (nI pn), .int rdw, .int rdh, .ref zsz, .ref zit, .ref zk, .int (bI itk)])), (z4, ia G 8 (fun ι => nI (e0 ι))), (z5, ia G 8 (fun ι => nI (e1 ι)))] (fun vv ww => vv = some (.int (nI (k + 1))) ∧ ww = [(md, .inr (9, [.int (nI W), .int (nI H), .int t, .int (nI m), .int (nI (k + 1)), .ref zc, .ref zr, .ref zb, .ref z1, .ref z2, .ref z3, .ref z4, .ref z5, .ref zm, .ref zmr, .ref zmb, .int mt, .ref zca, .ref zcw, .int (nI c), .ref zg, .ref zt, .ref zs, .ref zf, .ref zy, .ref zso, .ref zsf, .ref zsm, .int nt, .int nsh, .ref ztp, .ref zrw, .ref zpp, .int (nI tn), .int (nI pn), .int rdw, .int rdh, .ref zsz, .ref zit, .ref zk, .int (bI itk)])), (z4, ia G 8 (fun ι => nI (updN e0 k a0 ι))), (z5, ia G 8 (fun ι => nI (updN e1 k n ι)))]) := by
  refine CT.of (lv := [(0, .ref md), (1, .int (nI a0)), (2, .int (nI n))]) RX9 "event" rfl rfl (by decide +kernel) (Nat.le_of_ble_eq_true rfl) rfl (fun X hX hR => ?_)
  refine j_iload_n (pc := 0) hX dX9_event_0 1 rfl ?_
  refine j_iconst (pc := 1) (v := (-1)) hX dX9_event_1 (by decide) ?_
  refine j_icmp_ne (pc := 2) (tgt := 12) hX dX9_event_2 (by decide) (nI_toInt (n := a0) (by omega)) (show ((-1) : Int32).toInt = -1 from by decide) (fun c2 => ?_) (fun c2 => by exfalso; omega)
  refine j_iload_n (pc := 12) hX dX9_event_12 1 rfl ?_
  refine j_i2l (pc := 13) hX dX9_event_13 ?_
  refine j_lconst (pc := 14) (v := 0) hX dX9_event_14 (by decide) ?_
  refine j_ldc2 (pc := 15) (v := (2)) hX k_RX9_152 dX9_event_15 ?_
  refine j_callS (pc := 18) hX kX9_isIn kSX9_isIn l_RX9_105 (fun l => c_X9_isIn G ((nI a0).toInt64) 0 (2) (rngB (nI a0) (0) (2)) (inL_of (toL _) (show ((0) : Int64).toInt = 0 from by decide) (show ((2) : Int64).toInt = 2 from by decide)) l) [] [0, 1, 2] [] rfl rfl rfl rfl ⟨rfl, rfl, by decide⟩ rfl rfl (Nat.le_of_ble_eq_true rfl) dX9_event_18 (fun v w hq => ?_)
  obtain ⟨rfl, rfl⟩ := hq
  refine j_ws [0, 1, 2] (ws' := [(md, .inr (9, [.int (nI W), .int (nI H), .int t, .int (nI m), .int (nI k), .ref zc, .ref zr, .ref zb, .ref z1, .ref z2, .ref z3, .ref z4, .ref z5, .ref zm, .ref zmr, .ref zmb, .int mt, .ref zca, .ref zcw, .int (nI c), .ref zg, .ref zt, .ref zs, .ref zf, .ref zy, .ref zso, .ref zsf, .ref zsm, .int nt, .int nsh, .ref ztp, .ref zrw, .ref zpp, .int (nI tn), .int (nI pn), .int rdw, .int rdh, .ref zsz, .ref zit, .ref zk, .int (bI itk)])), (z4, ia G 8 (fun ι => nI (e0 ι))), (z5, ia G 8 (fun ι => nI (e1 ι)))]) rfl rfl ?_
  refine j_ifB_ne (pc := 21) (tgt := 26) hX dX9_event_21 (by decide) (fun c21 => ?_) (fun c21 => by rw [rng_t (x := nI a0) (A := 0) (B := 2) (by rw [nI_toInt (by omega)]; omega)] at c21; cases c21)
  refine j_iload_n (pc := 26) hX dX9_event_26 1 rfl ?_
  refine j_if_ne (pc := 27) (tgt := 42) hX dX9_event_27 (by decide) (nI_toInt (n := a0) (by omega)) (fun c27 => ?_) (fun c27 => ?_)
  · skip
    refine j_iload_n (pc := 42) hX dX9_event_42 1 rfl ?_
    refine j_iconstN (pc := 43) (j := 1) hX dX9_event_43 rfl ?_
    refine j_icmp_ne (pc := 44) (tgt := 59) hX dX9_event_44 (by decide) (nI_toInt (n := a0) (by omega)) (nI_toInt (n := 1) (by decide)) (fun c44 => ?_) (fun c44 => ?_)
    · skip
      refine j_iload_n (pc := 59) hX dX9_event_59 2 rfl ?_
      refine j_if_lt (pc := 60) (tgt := 82) hX dX9_event_60 (by decide) rfl (fun c60 => ?_) (fun c60 => ?_)
      · skip
        refine j_iconstN (pc := 82) (j := 0) hX dX9_event_82 rfl ?_
        refine j_istore_n (pc := 83) (lv' := [(3, .int (nI 0)), (0, .ref md), (1, .int (nI a0)), (2, .int (nI n))]) hX dX9_event_83 (by decide) rfl ?_
        refine j_iload_n (pc := 84) hX dX9_event_84 0 rfl ?_
        refine j_if_ne (pc := 85) (tgt := 91) hX dX9_event_85 (by decide) (nI_toInt (n := 0) (by decide)) (fun c85 => absurd c85 (by decide)) (fun c85 => by exfalso; have hb := of_decide_eq_true hb; (try have c85 := of_decide_eq_false c85); (try (rw [inG_raw] at c75; have c75 := of_decide_eq_false c75)); omega)
      · skip
        refine j_aload_n (pc := 63) hX dX9_event_63 0 rfl ?_
        refine j_iload_n (pc := 64) hX dX9_event_64 2 rfl ?_
        refine j_bipush (pc := 65) (v := nI 100) hX dX9_event_65 (by decide) ?_
        refine j_idiv (pc := 67) hX dX9_event_67 (by decide) ?_
        refine j_iload_n (pc := 68) hX dX9_event_68 2 rfl ?_
        refine j_bipush (pc := 69) (v := nI 100) hX dX9_event_69 (by decide) ?_
        refine j_irem (pc := 71) hX dX9_event_71 (by decide) ?_
        refine j_callV (pc := 72) hX kX9_isCell kVX9_isCell l_RX9_159 (fun l => c_X9_isCell G md W H t m k zc zr zb z1 z2 z3 z4 z5 zm zmr zmb mt zca zcw c zg zt zs zf zy zso zsf zsm nt nsh ztp zrw zpp tn pn rdw rdh zsz zit zk itk ((nI n) / (nI 100)) ((nI n) - (nI n) / (nI 100) * (nI 100)) (by omega) (by omega) (by omega) (by omega) l) [0] [1, 2] [] rfl 0 9 rfl rfl rfl rfl rfl rfl ⟨rfl, rfl, by decide⟩ rfl rfl (Nat.le_of_ble_eq_true rfl) dX9_event_72 (fun v w hq => ?_)
        obtain ⟨rfl, rfl⟩ := hq
        refine j_ws [2, 0, 1] (ws' := [(md, .inr (9, [.int (nI W), .int (nI H), .int t, .int (nI m), .int (nI k), .ref zc, .ref zr, .ref zb, .ref z1, .ref z2, .ref z3, .ref z4, .ref z5, .ref zm, .ref zmr, .ref zmb, .int mt, .ref zca, .ref zcw, .int (nI c), .ref zg, .ref zt, .ref zs, .ref zf, .ref zy, .ref zso, .ref zsf, .ref zsm, .int nt, .int nsh, .ref ztp, .ref zrw, .ref zpp, .int (nI tn), .int (nI pn), .int rdw, .int rdh, .ref zsz, .ref zit, .ref zk, .int (bI itk)])), (z4, ia G 8 (fun ι => nI (e0 ι))), (z5, ia G 8 (fun ι => nI (e1 ι)))]) rfl rfl ?_
        refine j_ifB_eq (pc := 75) (tgt := 82) hX dX9_event_75 (by decide) (fun c75 => ?_) (fun c75 => ?_)
        · skip
          refine j_iconstN (pc := 82) (j := 0) hX dX9_event_82 rfl ?_
          refine j_istore_n (pc := 83) (lv' := [(3, .int (nI 0)), (0, .ref md), (1, .int (nI a0)), (2, .int (nI n))]) hX dX9_event_83 (by decide) rfl ?_
          refine j_iload_n (pc := 84) hX dX9_event_84 0 rfl ?_
          refine j_if_ne (pc := 85) (tgt := 91) hX dX9_event_85 (by decide) (nI_toInt (n := 0) (by decide)) (fun c85 => absurd c85 (by decide)) (fun c85 => by exfalso; have hb := of_decide_eq_true hb; (try have c85 := of_decide_eq_false c85); (try (rw [inG_raw] at c75; have c75 := of_decide_eq_false c75)); omega)
        · skip
          refine j_iconstN (pc := 78) (j := 1) hX dX9_event_78 rfl ?_
          refine j_goto (pc := 79) (tgt := 83) hX dX9_event_79 (by decide) ?_
          refine j_istore_n (pc := 83) (lv' := [(3, .int (nI 1)), (0, .ref md), (1, .int (nI a0)), (2, .int (nI n))]) hX dX9_event_83 (by decide) rfl ?_
          refine j_iload_n (pc := 84) hX dX9_event_84 0 rfl ?_
          refine j_if_ne (pc := 85) (tgt := 91) hX dX9_event_85 (by decide) (nI_toInt (n := 1) (by decide)) (fun c85 => ?_) (fun c85 => absurd c85 (by decide))
          refine j_aload_n (pc := 91) hX dX9_event_91 1 rfl ?_
          refine j_get (pc := 92) hX f_RX9_279 0 rfl rfl dX9_event_92 ?_
          refine j_bipush (pc := 95) (v := nI 8) hX dX9_event_95 (by decide) ?_
          refine j_icmp_ne (pc := 97) (tgt := 103) hX dX9_event_97 (by decide) (nI_toInt (n := k) (by omega)) (nI_toInt (n := 8) (by decide)) (fun c97 => ?_) (fun c97 => by exfalso; omega)
          refine j_aload_n (pc := 103) hX dX9_event_103 1 rfl ?_
          refine j_get (pc := 104) hX f_RX9_37 0 rfl rfl dX9_event_104 ?_
          refine j_aload_n (pc := 107) hX dX9_event_107 1 rfl ?_
          refine j_get (pc := 108) hX f_RX9_279 0 rfl rfl dX9_event_108 ?_
          refine j_iload_n (pc := 111) hX dX9_event_111 2 rfl ?_
          refine j_iastN (pc := 112) (j := k) (ws' := [(md, .inr (9, [.int (nI W), .int (nI H), .int t, .int (nI m), .int (nI k), .ref zc, .ref zr, .ref zb, .ref z1, .ref z2, .ref z3, .ref z4, .ref z5, .ref zm, .ref zmr, .ref zmb, .int mt, .ref zca, .ref zcw, .int (nI c), .ref zg, .ref zt, .ref zs, .ref zf, .ref zy, .ref zso, .ref zsf, .ref zsm, .int nt, .int nsh, .ref ztp, .ref zrw, .ref zpp, .int (nI tn), .int (nI pn), .int rdw, .int rdh, .ref zsz, .ref zit, .ref zk, .int (bI itk)])), (z4, ia G 8 (upd (fun ι => nI (e0 ι)) k (nI a0))), (z5, ia G 8 (fun ι => nI (e1 ι)))]) hX 1 rfl (by omega) (by omega) rfl dX9_event_112 ?_
          refine j_ia (q0 := 1) (f := upd (fun ι => nI (e0 ι)) k (nI a0)) (g := fun ι => nI (updN e0 k a0 ι)) rfl (fun z hz => by exact updNI) (ws' := [(md, .inr (9, [.int (nI W), .int (nI H), .int t, .int (nI m), .int (nI k), .ref zc, .ref zr, .ref zb, .ref z1, .ref z2, .ref z3, .ref z4, .ref z5, .ref zm, .ref zmr, .ref zmb, .int mt, .ref zca, .ref zcw, .int (nI c), .ref zg, .ref zt, .ref zs, .ref zf, .ref zy, .ref zso, .ref zsf, .ref zsm, .int nt, .int nsh, .ref ztp, .ref zrw, .ref zpp, .int (nI tn), .int (nI pn), .int rdw, .int rdh, .ref zsz, .ref zit, .ref zk, .int (bI itk)])), (z4, ia G 8 (fun ι => nI (updN e0 k a0 ι))), (z5, ia G 8 (fun ι => nI (e1 ι)))]) rfl ?_
          refine j_aload_n (pc := 113) hX dX9_event_113 1 rfl ?_
          refine j_get (pc := 114) hX f_RX9_40 0 rfl rfl dX9_event_114 ?_
          refine j_aload_n (pc := 117) hX dX9_event_117 1 rfl ?_
          refine j_get (pc := 118) hX f_RX9_279 0 rfl rfl dX9_event_118 ?_
          refine j_iload_n (pc := 121) hX dX9_event_121 3 rfl ?_
          refine j_iastN (pc := 122) (j := k) (ws' := [(md, .inr (9, [.int (nI W), .int (nI H), .int t, .int (nI m), .int (nI k), .ref zc, .ref zr, .ref zb, .ref z1, .ref z2, .ref z3, .ref z4, .ref z5, .ref zm, .ref zmr, .ref zmb, .int mt, .ref zca, .ref zcw, .int (nI c), .ref zg, .ref zt, .ref zs, .ref zf, .ref zy, .ref zso, .ref zsf, .ref zsm, .int nt, .int nsh, .ref ztp, .ref zrw, .ref zpp, .int (nI tn), .int (nI pn), .int rdw, .int rdh, .ref zsz, .ref zit, .ref zk, .int (bI itk)])), (z4, ia G 8 (fun ι => nI (updN e0 k a0 ι))), (z5, ia G 8 (upd (fun ι => nI (e1 ι)) k (nI n)))]) hX 2 rfl (by omega) (by omega) rfl dX9_event_122 ?_
          refine j_aload_n (pc := 123) hX dX9_event_123 1 rfl ?_
          refine j_dup (pc := 124) hX dX9_event_124 rfl ?_
          refine j_get (pc := 125) hX f_RX9_279 0 rfl rfl dX9_event_125 ?_
          refine j_iconstN (pc := 128) (j := 1) hX dX9_event_128 rfl ?_
          refine j_iadd (pc := 129) hX dX9_event_129 ?_
          refine j_topi (y := nI (k + 1)) (nI_add _ _) ?_
          refine j_put (pc := 130) (ws' := [(md, .inr (9, [.int (nI W), .int (nI H), .int t, .int (nI m), .int (nI (k + 1)), .ref zc, .ref zr, .ref zb, .ref z1, .ref z2, .ref z3, .ref z4, .ref z5, .ref zm, .ref zmr, .ref zmb, .int mt, .ref zca, .ref zcw, .int (nI c), .ref zg, .ref zt, .ref zs, .ref zf, .ref zy, .ref zso, .ref zsf, .ref zsm, .int nt, .int nsh, .ref ztp, .ref zrw, .ref zpp, .int (nI tn), .int (nI pn), .int rdw, .int rdh, .ref zsz, .ref zit, .ref zk, .int (bI itk)])), (z4, ia G 8 (fun ι => nI (updN e0 k a0 ι))), (z5, ia G 8 (upd (fun ι => nI (e1 ι)) k (nI n)))]) hX f_RX9_279 0 rfl rfl rfl (Nat.le_of_ble_eq_true rfl) rfl dX9_event_130 ?_
          refine j_aload_n (pc := 133) hX dX9_event_133 1 rfl ?_
          refine j_get (pc := 134) hX f_RX9_279 0 rfl rfl dX9_event_134 ?_
          refine j_ia (q0 := 2) (f := upd (fun ι => nI (e1 ι)) k (nI n)) (g := fun ι => nI (updN e1 k n ι)) rfl (fun z hz => by exact updNI) (ws' := [(md, .inr (9, [.int (nI W), .int (nI H), .int t, .int (nI m), .int (nI (k + 1)), .ref zc, .ref zr, .ref zb, .ref z1, .ref z2, .ref z3, .ref z4, .ref z5, .ref zm, .ref zmr, .ref zmb, .int mt, .ref zca, .ref zcw, .int (nI c), .ref zg, .ref zt, .ref zs, .ref zf, .ref zy, .ref zso, .ref zsf, .ref zsm, .int nt, .int nsh, .ref ztp, .ref zrw, .ref zpp, .int (nI tn), .int (nI pn), .int rdw, .int rdh, .ref zsz, .ref zit, .ref zk, .int (bI itk)])), (z4, ia G 8 (fun ι => nI (updN e0 k a0 ι))), (z5, ia G 8 (fun ι => nI (updN e1 k n ι)))]) rfl ?_
          exact j_iret (pc := 137) hX hR dX9_event_137 ⟨rfl, rfl⟩
    · skip
      refine j_iload_n (pc := 47) hX dX9_event_47 2 rfl ?_
      refine j_i2l (pc := 48) hX dX9_event_48 ?_
      refine j_lconst (pc := 49) (v := 0) hX dX9_event_49 (by decide) ?_
      refine j_ldc2 (pc := 50) (v := (20)) hX k_RX9_282 dX9_event_50 ?_
      refine j_callS (pc := 53) hX kX9_isIn kSX9_isIn l_RX9_105 (fun l => c_X9_isIn G ((nI n).toInt64) 0 (20) (rngB (nI n) (0) (20)) (inL_of (toL _) (show ((0) : Int64).toInt = 0 from by decide) (show ((20) : Int64).toInt = 20 from by decide)) l) [] [0, 1, 2] [] rfl rfl rfl rfl ⟨rfl, rfl, by decide⟩ rfl rfl (Nat.le_of_ble_eq_true rfl) dX9_event_53 (fun v w hq => ?_)
      obtain ⟨rfl, rfl⟩ := hq
      refine j_ws [0, 1, 2] (ws' := [(md, .inr (9, [.int (nI W), .int (nI H), .int t, .int (nI m), .int (nI k), .ref zc, .ref zr, .ref zb, .ref z1, .ref z2, .ref z3, .ref z4, .ref z5, .ref zm, .ref zmr, .ref zmb, .int mt, .ref zca, .ref zcw, .int (nI c), .ref zg, .ref zt, .ref zs, .ref zf, .ref zy, .ref zso, .ref zsf, .ref zsm, .int nt, .int nsh, .ref ztp, .ref zrw, .ref zpp, .int (nI tn), .int (nI pn), .int rdw, .int rdh, .ref zsz, .ref zit, .ref zk, .int (bI itk)])), (z4, ia G 8 (fun ι => nI (e0 ι))), (z5, ia G 8 (fun ι => nI (e1 ι)))]) rfl rfl ?_
      refine j_goto (pc := 56) (tgt := 83) hX dX9_event_56 (by decide) ?_
      refine j_istore_n (pc := 83) (lv' := [(3, .int (bI (rngB (nI n) (0) (20)))), (0, .ref md), (1, .int (nI a0)), (2, .int (nI n))]) hX dX9_event_83 (by decide) rfl ?_
      refine j_iload_n (pc := 84) hX dX9_event_84 0 rfl ?_
      refine j_ifB_ne (pc := 85) (tgt := 91) hX dX9_event_85 (by decide) (fun c85 => ?_) (fun c85 => by exfalso; have hb := of_decide_eq_true hb; (try have c85 := of_decide_eq_false c85); (try (rw [inG_raw] at c75; have c75 := of_decide_eq_false c75)); omega)
      refine j_aload_n (pc := 91) hX dX9_event_91 1 rfl ?_
      refine j_get (pc := 92) hX f_RX9_279 0 rfl rfl dX9_event_92 ?_
      refine j_bipush (pc := 95) (v := nI 8) hX dX9_event_95 (by decide) ?_
      refine j_icmp_ne (pc := 97) (tgt := 103) hX dX9_event_97 (by decide) (nI_toInt (n := k) (by omega)) (nI_toInt (n := 8) (by decide)) (fun c97 => ?_) (fun c97 => by exfalso; omega)
      refine j_aload_n (pc := 103) hX dX9_event_103 1 rfl ?_
      refine j_get (pc := 104) hX f_RX9_37 0 rfl rfl dX9_event_104 ?_
      refine j_aload_n (pc := 107) hX dX9_event_107 1 rfl ?_
      refine j_get (pc := 108) hX f_RX9_279 0 rfl rfl dX9_event_108 ?_
      refine j_iload_n (pc := 111) hX dX9_event_111 2 rfl ?_
      refine j_iastN (pc := 112) (j := k) (ws' := [(md, .inr (9, [.int (nI W), .int (nI H), .int t, .int (nI m), .int (nI k), .ref zc, .ref zr, .ref zb, .ref z1, .ref z2, .ref z3, .ref z4, .ref z5, .ref zm, .ref zmr, .ref zmb, .int mt, .ref zca, .ref zcw, .int (nI c), .ref zg, .ref zt, .ref zs, .ref zf, .ref zy, .ref zso, .ref zsf, .ref zsm, .int nt, .int nsh, .ref ztp, .ref zrw, .ref zpp, .int (nI tn), .int (nI pn), .int rdw, .int rdh, .ref zsz, .ref zit, .ref zk, .int (bI itk)])), (z4, ia G 8 (upd (fun ι => nI (e0 ι)) k (nI a0))), (z5, ia G 8 (fun ι => nI (e1 ι)))]) hX 1 rfl (by omega) (by omega) rfl dX9_event_112 ?_
      refine j_ia (q0 := 1) (f := upd (fun ι => nI (e0 ι)) k (nI a0)) (g := fun ι => nI (updN e0 k a0 ι)) rfl (fun z hz => by exact updNI) (ws' := [(md, .inr (9, [.int (nI W), .int (nI H), .int t, .int (nI m), .int (nI k), .ref zc, .ref zr, .ref zb, .ref z1, .ref z2, .ref z3, .ref z4, .ref z5, .ref zm, .ref zmr, .ref zmb, .int mt, .ref zca, .ref zcw, .int (nI c), .ref zg, .ref zt, .ref zs, .ref zf, .ref zy, .ref zso, .ref zsf, .ref zsm, .int nt, .int nsh, .ref ztp, .ref zrw, .ref zpp, .int (nI tn), .int (nI pn), .int rdw, .int rdh, .ref zsz, .ref zit, .ref zk, .int (bI itk)])), (z4, ia G 8 (fun ι => nI (updN e0 k a0 ι))), (z5, ia G 8 (fun ι => nI (e1 ι)))]) rfl ?_
      refine j_aload_n (pc := 113) hX dX9_event_113 1 rfl ?_
      refine j_get (pc := 114) hX f_RX9_40 0 rfl rfl dX9_event_114 ?_
      refine j_aload_n (pc := 117) hX dX9_event_117 1 rfl ?_
      refine j_get (pc := 118) hX f_RX9_279 0 rfl rfl dX9_event_118 ?_
      refine j_iload_n (pc := 121) hX dX9_event_121 3 rfl ?_
      refine j_iastN (pc := 122) (j := k) (ws' := [(md, .inr (9, [.int (nI W), .int (nI H), .int t, .int (nI m), .int (nI k), .ref zc, .ref zr, .ref zb, .ref z1, .ref z2, .ref z3, .ref z4, .ref z5, .ref zm, .ref zmr, .ref zmb, .int mt, .ref zca, .ref zcw, .int (nI c), .ref zg, .ref zt, .ref zs, .ref zf, .ref zy, .ref zso, .ref zsf, .ref zsm, .int nt, .int nsh, .ref ztp, .ref zrw, .ref zpp, .int (nI tn), .int (nI pn), .int rdw, .int rdh, .ref zsz, .ref zit, .ref zk, .int (bI itk)])), (z4, ia G 8 (fun ι => nI (updN e0 k a0 ι))), (z5, ia G 8 (upd (fun ι => nI (e1 ι)) k (nI n)))]) hX 2 rfl (by omega) (by omega) rfl dX9_event_122 ?_
      refine j_aload_n (pc := 123) hX dX9_event_123 1 rfl ?_
      refine j_dup (pc := 124) hX dX9_event_124 rfl ?_
      refine j_get (pc := 125) hX f_RX9_279 0 rfl rfl dX9_event_125 ?_
      refine j_iconstN (pc := 128) (j := 1) hX dX9_event_128 rfl ?_
      refine j_iadd (pc := 129) hX dX9_event_129 ?_
      refine j_topi (y := nI (k + 1)) (nI_add _ _) ?_
      refine j_put (pc := 130) (ws' := [(md, .inr (9, [.int (nI W), .int (nI H), .int t, .int (nI m), .int (nI (k + 1)), .ref zc, .ref zr, .ref zb, .ref z1, .ref z2, .ref z3, .ref z4, .ref z5, .ref zm, .ref zmr, .ref zmb, .int mt, .ref zca, .ref zcw, .int (nI c), .ref zg, .ref zt, .ref zs, .ref zf, .ref zy, .ref zso, .ref zsf, .ref zsm, .int nt, .int nsh, .ref ztp, .ref zrw, .ref zpp, .int (nI tn), .int (nI pn), .int rdw, .int rdh, .ref zsz, .ref zit, .ref zk, .int (bI itk)])), (z4, ia G 8 (fun ι => nI (updN e0 k a0 ι))), (z5, ia G 8 (upd (fun ι => nI (e1 ι)) k (nI n)))]) hX f_RX9_279 0 rfl rfl rfl (Nat.le_of_ble_eq_true rfl) rfl dX9_event_130 ?_
      refine j_aload_n (pc := 133) hX dX9_event_133 1 rfl ?_
      refine j_get (pc := 134) hX f_RX9_279 0 rfl rfl dX9_event_134 ?_
      refine j_ia (q0 := 2) (f := upd (fun ι => nI (e1 ι)) k (nI n)) (g := fun ι => nI (updN e1 k n ι)) rfl (fun z hz => by exact updNI) (ws' := [(md, .inr (9, [.int (nI W), .int (nI H), .int t, .int (nI m), .int (nI (k + 1)), .ref zc, .ref zr, .ref zb, .ref z1, .ref z2, .ref z3, .ref z4, .ref z5, .ref zm, .ref zmr, .ref zmb, .int mt, .ref zca, .ref zcw, .int (nI c), .ref zg, .ref zt, .ref zs, .ref zf, .ref zy, .ref zso, .ref zsf, .ref zsm, .int nt, .int nsh, .ref ztp, .ref zrw, .ref zpp, .int (nI tn), .int (nI pn), .int rdw, .int rdh, .ref zsz, .ref zit, .ref zk, .int (bI itk)])), (z4, ia G 8 (fun ι => nI (updN e0 k a0 ι))), (z5, ia G 8 (fun ι => nI (updN e1 k n ι)))]) rfl ?_
      exact j_iret (pc := 137) hX hR dX9_event_137 ⟨rfl, rfl⟩
  · skip
    refine j_iload_n (pc := 30) hX dX9_event_30 2 rfl ?_
    refine j_i2l (pc := 31) hX dX9_event_31 ?_
    refine j_lconst (pc := 32) (v := 0) hX dX9_event_32 (by decide) ?_
    refine j_ldc2 (pc := 33) (v := (4)) hX k_RX9_119 dX9_event_33 ?_
    refine j_callS (pc := 36) hX kX9_isIn kSX9_isIn l_RX9_105 (fun l => c_X9_isIn G ((nI n).toInt64) 0 (4) (rngB (nI n) (0) (4)) (inL_of (toL _) (show ((0) : Int64).toInt = 0 from by decide) (show ((4) : Int64).toInt = 4 from by decide)) l) [] [0, 1, 2] [] rfl rfl rfl rfl ⟨rfl, rfl, by decide⟩ rfl rfl (Nat.le_of_ble_eq_true rfl) dX9_event_36 (fun v w hq => ?_)
    obtain ⟨rfl, rfl⟩ := hq
    refine j_ws [0, 1, 2] (ws' := [(md, .inr (9, [.int (nI W), .int (nI H), .int t, .int (nI m), .int (nI k), .ref zc, .ref zr, .ref zb, .ref z1, .ref z2, .ref z3, .ref z4, .ref z5, .ref zm, .ref zmr, .ref zmb, .int mt, .ref zca, .ref zcw, .int (nI c), .ref zg, .ref zt, .ref zs, .ref zf, .ref zy, .ref zso, .ref zsf, .ref zsm, .int nt, .int nsh, .ref ztp, .ref zrw, .ref zpp, .int (nI tn), .int (nI pn), .int rdw, .int rdh, .ref zsz, .ref zit, .ref zk, .int (bI itk)])), (z4, ia G 8 (fun ι => nI (e0 ι))), (z5, ia G 8 (fun ι => nI (e1 ι)))]) rfl rfl ?_
    refine j_goto (pc := 39) (tgt := 83) hX dX9_event_39 (by decide) ?_
    refine j_istore_n (pc := 83) (lv' := [(3, .int (bI (rngB (nI n) (0) (4)))), (0, .ref md), (1, .int (nI a0)), (2, .int (nI n))]) hX dX9_event_83 (by decide) rfl ?_
    refine j_iload_n (pc := 84) hX dX9_event_84 0 rfl ?_
    refine j_ifB_ne (pc := 85) (tgt := 91) hX dX9_event_85 (by decide) (fun c85 => ?_) (fun c85 => by exfalso; have hb := of_decide_eq_true hb; (try have c85 := of_decide_eq_false c85); (try (rw [inG_raw] at c75; have c75 := of_decide_eq_false c75)); omega)
    refine j_aload_n (pc := 91) hX dX9_event_91 1 rfl ?_
    refine j_get (pc := 92) hX f_RX9_279 0 rfl rfl dX9_event_92 ?_
    refine j_bipush (pc := 95) (v := nI 8) hX dX9_event_95 (by decide) ?_
    refine j_icmp_ne (pc := 97) (tgt := 103) hX dX9_event_97 (by decide) (nI_toInt (n := k) (by omega)) (nI_toInt (n := 8) (by decide)) (fun c97 => ?_) (fun c97 => by exfalso; omega)
    refine j_aload_n (pc := 103) hX dX9_event_103 1 rfl ?_
    refine j_get (pc := 104) hX f_RX9_37 0 rfl rfl dX9_event_104 ?_
    refine j_aload_n (pc := 107) hX dX9_event_107 1 rfl ?_
    refine j_get (pc := 108) hX f_RX9_279 0 rfl rfl dX9_event_108 ?_
    refine j_iload_n (pc := 111) hX dX9_event_111 2 rfl ?_
    refine j_iastN (pc := 112) (j := k) (ws' := [(md, .inr (9, [.int (nI W), .int (nI H), .int t, .int (nI m), .int (nI k), .ref zc, .ref zr, .ref zb, .ref z1, .ref z2, .ref z3, .ref z4, .ref z5, .ref zm, .ref zmr, .ref zmb, .int mt, .ref zca, .ref zcw, .int (nI c), .ref zg, .ref zt, .ref zs, .ref zf, .ref zy, .ref zso, .ref zsf, .ref zsm, .int nt, .int nsh, .ref ztp, .ref zrw, .ref zpp, .int (nI tn), .int (nI pn), .int rdw, .int rdh, .ref zsz, .ref zit, .ref zk, .int (bI itk)])), (z4, ia G 8 (upd (fun ι => nI (e0 ι)) k (nI a0))), (z5, ia G 8 (fun ι => nI (e1 ι)))]) hX 1 rfl (by omega) (by omega) rfl dX9_event_112 ?_
    refine j_ia (q0 := 1) (f := upd (fun ι => nI (e0 ι)) k (nI a0)) (g := fun ι => nI (updN e0 k a0 ι)) rfl (fun z hz => by exact updNI) (ws' := [(md, .inr (9, [.int (nI W), .int (nI H), .int t, .int (nI m), .int (nI k), .ref zc, .ref zr, .ref zb, .ref z1, .ref z2, .ref z3, .ref z4, .ref z5, .ref zm, .ref zmr, .ref zmb, .int mt, .ref zca, .ref zcw, .int (nI c), .ref zg, .ref zt, .ref zs, .ref zf, .ref zy, .ref zso, .ref zsf, .ref zsm, .int nt, .int nsh, .ref ztp, .ref zrw, .ref zpp, .int (nI tn), .int (nI pn), .int rdw, .int rdh, .ref zsz, .ref zit, .ref zk, .int (bI itk)])), (z4, ia G 8 (fun ι => nI (updN e0 k a0 ι))), (z5, ia G 8 (fun ι => nI (e1 ι)))]) rfl ?_
    refine j_aload_n (pc := 113) hX dX9_event_113 1 rfl ?_
    refine j_get (pc := 114) hX f_RX9_40 0 rfl rfl dX9_event_114 ?_
    refine j_aload_n (pc := 117) hX dX9_event_117 1 rfl ?_
    refine j_get (pc := 118) hX f_RX9_279 0 rfl rfl dX9_event_118 ?_
    refine j_iload_n (pc := 121) hX dX9_event_121 3 rfl ?_
    refine j_iastN (pc := 122) (j := k) (ws' := [(md, .inr (9, [.int (nI W), .int (nI H), .int t, .int (nI m), .int (nI k), .ref zc, .ref zr, .ref zb, .ref z1, .ref z2, .ref z3, .ref z4, .ref z5, .ref zm, .ref zmr, .ref zmb, .int mt, .ref zca, .ref zcw, .int (nI c), .ref zg, .ref zt, .ref zs, .ref zf, .ref zy, .ref zso, .ref zsf, .ref zsm, .int nt, .int nsh, .ref ztp, .ref zrw, .ref zpp, .int (nI tn), .int (nI pn), .int rdw, .int rdh, .ref zsz, .ref zit, .ref zk, .int (bI itk)])), (z4, ia G 8 (fun ι => nI (updN e0 k a0 ι))), (z5, ia G 8 (upd (fun ι => nI (e1 ι)) k (nI n)))]) hX 2 rfl (by omega) (by omega) rfl dX9_event_122 ?_
    refine j_aload_n (pc := 123) hX dX9_event_123 1 rfl ?_
    refine j_dup (pc := 124) hX dX9_event_124 rfl ?_
    refine j_get (pc := 125) hX f_RX9_279 0 rfl rfl dX9_event_125 ?_
    refine j_iconstN (pc := 128) (j := 1) hX dX9_event_128 rfl ?_
    refine j_iadd (pc := 129) hX dX9_event_129 ?_
    refine j_topi (y := nI (k + 1)) (nI_add _ _) ?_
    refine j_put (pc := 130) (ws' := [(md, .inr (9, [.int (nI W), .int (nI H), .int t, .int (nI m), .int (nI (k + 1)), .ref zc, .ref zr, .ref zb, .ref z1, .ref z2, .ref z3, .ref z4, .ref z5, .ref zm, .ref zmr, .ref zmb, .int mt, .ref zca, .ref zcw, .int (nI c), .ref zg, .ref zt, .ref zs, .ref zf, .ref zy, .ref zso, .ref zsf, .ref zsm, .int nt, .int nsh, .ref ztp, .ref zrw, .ref zpp, .int (nI tn), .int (nI pn), .int rdw, .int rdh, .ref zsz, .ref zit, .ref zk, .int (bI itk)])), (z4, ia G 8 (fun ι => nI (updN e0 k a0 ι))), (z5, ia G 8 (upd (fun ι => nI (e1 ι)) k (nI n)))]) hX f_RX9_279 0 rfl rfl rfl (Nat.le_of_ble_eq_true rfl) rfl dX9_event_130 ?_
    refine j_aload_n (pc := 133) hX dX9_event_133 1 rfl ?_
    refine j_get (pc := 134) hX f_RX9_279 0 rfl rfl dX9_event_134 ?_
    refine j_ia (q0 := 2) (f := upd (fun ι => nI (e1 ι)) k (nI n)) (g := fun ι => nI (updN e1 k n ι)) rfl (fun z hz => by exact updNI) (ws' := [(md, .inr (9, [.int (nI W), .int (nI H), .int t, .int (nI m), .int (nI (k + 1)), .ref zc, .ref zr, .ref zb, .ref z1, .ref z2, .ref z3, .ref z4, .ref z5, .ref zm, .ref zmr, .ref zmb, .int mt, .ref zca, .ref zcw, .int (nI c), .ref zg, .ref zt, .ref zs, .ref zf, .ref zy, .ref zso, .ref zsf, .ref zsm, .int nt, .int nsh, .ref ztp, .ref zrw, .ref zpp, .int (nI tn), .int (nI pn), .int rdw, .int rdh, .ref zsz, .ref zit, .ref zk, .int (bI itk)])), (z4, ia G 8 (fun ι => nI (updN e0 k a0 ι))), (z5, ia G 8 (fun ι => nI (updN e1 k n ι)))]) rfl ?_
    exact j_iret (pc := 137) hX hR dX9_event_137 ⟨rfl, rfl⟩
set_option maxHeartbeats 4000000 in
set_option maxRecDepth 100000 in
theorem c_X9_happens (G : GT) (md : Nat) (W : Nat) (H : Nat) (t : Int32) (m : Nat) (k : Nat) (zc : Nat) (zr : Nat) (zb : Nat) (z1 : Nat) (z2 : Nat) (z3 : Nat) (z4 : Nat) (z5 : Nat) (zm : Nat) (zmr : Nat) (zmb : Nat) (mt : Int32) (zca : Nat) (zcw : Nat) (c : Nat) (zg : Nat) (zt : Nat) (zs : Nat) (zf : Nat) (zy : Nat) (zso : Nat) (zsf : Nat) (zsm : Nat) (nt : Int32) (nsh : Int32) (ztp : Nat) (zrw : Nat) (zpp : Nat) (tn : Nat) (pn : Nat) (rdw : Int32) (rdh : Int32) (zsz : Nat) (zit : Nat) (zk : Nat) (itk : Bool) (mf : Nat → Int32) (mp : Nat → Nat) (mq : Nat → Nat) (a0 n : Nat) (hW1 : 2 ≤ W) (hW2 : W ≤ 16) (hH1 : 2 ≤ H) (hH2 : H ≤ 16) (hW3 : W % 2 = 0) (hH3 : H % 2 = 0) (hok : evOK W H a0 n) (l : Launch) : CT l G yX9_happens cX9_happens 3 none { frames := 4, cells := 0, slots := 0, locals := 95 } [.ref md, .int (nI a0), .int (nI n)] [(md, .inr (9, [.int (nI W), .int (nI H), .int t, .int (nI m), .int (nI k), .ref zc, .ref zr, .ref zb, .ref z1, .ref z2, .ref z3, .ref z4, .ref z5, .ref zm, .ref zmr, .ref zmb, .int mt, .ref zca, .ref zcw, .int (nI c), .ref zg, .ref zt, .ref zs, .ref zf, .ref zy, .ref zso, .ref zsf, .ref zsm, .int nt, .int nsh, .ref ztp, .ref zrw, .ref zpp, .int (nI tn), .int (nI pn), .int rdw, .int rdh, .ref zsz, .ref zit, .ref zk, .int (bI itk)])), (zm, ia G 16 mf), (zmr, ia G 16 (fun ι => nI (mp ι))), (zmb, ia G 16 (fun ι => nI (mq ι)))] (fun vv ww => vv = none ∧ ww = [(md, .inr (9, [.int (nI W), .int (nI H), .int t, .int (nI m), .int (nI k), .ref zc, .ref zr, .ref zb, .ref z1, .ref z2, .ref z3, .ref z4, .ref z5, .ref zm, .ref zmr, .ref zmb, .int ((ev1 W H a0 n (mt, mf, mp, mq)).1), .ref zca, .ref zcw, .int (nI c), .ref zg, .ref zt, .ref zs, .ref zf, .ref zy, .ref zso, .ref zsf, .ref zsm, .int nt, .int nsh, .ref ztp, .ref zrw, .ref zpp, .int (nI tn), .int (nI pn), .int rdw, .int rdh, .ref zsz, .ref zit, .ref zk, .int (bI itk)])), (zm, ia G 16 ((ev1 W H a0 n (mt, mf, mp, mq)).2.1)), (zmr, ia G 16 (fun ι => nI ((ev1 W H a0 n (mt, mf, mp, mq)).2.2.1 ι))), (zmb, ia G 16 (fun ι => nI ((ev1 W H a0 n (mt, mf, mp, mq)).2.2.2 ι)))]) := by
  refine CT.of (lv := [(0, .ref md), (1, .int (nI a0)), (2, .int (nI n))]) RX9 "happens" rfl rfl (by decide +kernel) (Nat.le_of_ble_eq_true rfl) rfl (fun X hX hR => ?_)
  have hok := hok
  unfold evOK at hok
  refine j_iload_n (pc := 0) hX dX9_happens_0 1 rfl ?_
  refine j_if_ne (pc := 1) (tgt := 26) hX dX9_happens_1 (by decide) (nI_toInt (n := a0) (by omega)) (fun c1 => ?_) (fun c1 => ?_)
  · skip
    refine j_iload_n (pc := 26) hX dX9_happens_26 1 rfl ?_
    refine j_iconstN (pc := 27) (j := 1) hX dX9_happens_27 rfl ?_
    refine j_icmp_ne (pc := 28) (tgt := 39) hX dX9_happens_28 (by decide) (nI_toInt (n := a0) (by omega)) (nI_toInt (n := 1) (by decide)) (fun c28 => ?_) (fun c28 => ?_)
    · skip
      refine j_aload_n (pc := 39) hX dX9_happens_39 0 rfl ?_
      refine j_iload_n (pc := 40) hX dX9_happens_40 2 rfl ?_
      refine j_bipush (pc := 41) (v := nI 100) hX dX9_happens_41 (by decide) ?_
      refine j_idiv (pc := 43) hX dX9_happens_43 (by decide) ?_
      refine j_topi (y := nI (n / 100)) (pk_div (by omega) (by omega) (by omega)) ?_
      refine j_iload_n (pc := 44) hX dX9_happens_44 2 rfl ?_
      refine j_bipush (pc := 45) (v := nI 100) hX dX9_happens_45 (by decide) ?_
      refine j_irem (pc := 47) hX dX9_happens_47 (by decide) ?_
      refine j_topi (y := nI (n % 100)) (pk_rem (by omega) (by omega) (by omega)) ?_
      refine j_callV (pc := 48) hX kX9_isCell kVX9_isCell l_RX9_159 (fun l => c_X9_isCell G md W H t m k zc zr zb z1 z2 z3 z4 z5 zm zmr zmb mt zca zcw c zg zt zs zf zy zso zsf zsm nt nsh ztp zrw zpp tn pn rdw rdh zsz zit zk itk (nI (n / 100)) (nI (n % 100)) (by omega) (by omega) (by omega) (by omega) l) [0] [1, 2, 3] [] rfl 0 9 rfl rfl rfl rfl rfl rfl ⟨rfl, rfl, by decide⟩ rfl rfl (Nat.le_of_ble_eq_true rfl) dX9_happens_48 (fun v w hq => ?_)
      obtain ⟨rfl, rfl⟩ := hq
      refine j_ws [3, 0, 1, 2] (ws' := [(md, .inr (9, [.int (nI W), .int (nI H), .int t, .int (nI m), .int (nI k), .ref zc, .ref zr, .ref zb, .ref z1, .ref z2, .ref z3, .ref z4, .ref z5, .ref zm, .ref zmr, .ref zmb, .int mt, .ref zca, .ref zcw, .int (nI c), .ref zg, .ref zt, .ref zs, .ref zf, .ref zy, .ref zso, .ref zsf, .ref zsm, .int nt, .int nsh, .ref ztp, .ref zrw, .ref zpp, .int (nI tn), .int (nI pn), .int rdw, .int rdh, .ref zsz, .ref zit, .ref zk, .int (bI itk)])), (zm, ia G 16 mf), (zmr, ia G 16 (fun ι => nI (mp ι))), (zmb, ia G 16 (fun ι => nI (mq ι)))]) rfl rfl ?_
      refine j_ifB_eq (pc := 51) (tgt := 72) hX dX9_happens_51 (by decide) (fun c51 => ?_) (fun c51 => ?_)
      · skip
        rw [inG_nat (by omega) (by omega)] at c51
        have c51 := of_decide_eq_false c51
        have hev : ev1 W H a0 n (mt, mf, mp, mq) = (mt, mf, mp, mq) := by unfold ev1; rw [if_neg (by omega), if_neg (by omega)]; unfold flp; rw [if_neg c51]
        refine j_ia (q0 := 1) (f := mf) (g := (ev1 W H a0 n (mt, mf, mp, mq)).2.1) rfl (fun z hz => by rw [hev] <;> rfl) (ws' := [(md, .inr (9, [.int (nI W), .int (nI H), .int t, .int (nI m), .int (nI k), .ref zc, .ref zr, .ref zb, .ref z1, .ref z2, .ref z3, .ref z4, .ref z5, .ref zm, .ref zmr, .ref zmb, .int mt, .ref zca, .ref zcw, .int (nI c), .ref zg, .ref zt, .ref zs, .ref zf, .ref zy, .ref zso, .ref zsf, .ref zsm, .int nt, .int nsh, .ref ztp, .ref zrw, .ref zpp, .int (nI tn), .int (nI pn), .int rdw, .int rdh, .ref zsz, .ref zit, .ref zk, .int (bI itk)])), (zm, ia G 16 ((ev1 W H a0 n (mt, mf, mp, mq)).2.1)), (zmr, ia G 16 (fun ι => nI (mp ι))), (zmb, ia G 16 (fun ι => nI (mq ι)))]) rfl ?_
        refine j_ia (q0 := 2) (f := fun ι => nI (mp ι)) (g := fun ι => nI ((ev1 W H a0 n (mt, mf, mp, mq)).2.2.1 ι)) rfl (fun z hz => by rw [hev] <;> rfl) (ws' := [(md, .inr (9, [.int (nI W), .int (nI H), .int t, .int (nI m), .int (nI k), .ref zc, .ref zr, .ref zb, .ref z1, .ref z2, .ref z3, .ref z4, .ref z5, .ref zm, .ref zmr, .ref zmb, .int mt, .ref zca, .ref zcw, .int (nI c), .ref zg, .ref zt, .ref zs, .ref zf, .ref zy, .ref zso, .ref zsf, .ref zsm, .int nt, .int nsh, .ref ztp, .ref zrw, .ref zpp, .int (nI tn), .int (nI pn), .int rdw, .int rdh, .ref zsz, .ref zit, .ref zk, .int (bI itk)])), (zm, ia G 16 ((ev1 W H a0 n (mt, mf, mp, mq)).2.1)), (zmr, ia G 16 (fun ι => nI ((ev1 W H a0 n (mt, mf, mp, mq)).2.2.1 ι))), (zmb, ia G 16 (fun ι => nI (mq ι)))]) rfl ?_
        refine j_ia (q0 := 3) (f := fun ι => nI (mq ι)) (g := fun ι => nI ((ev1 W H a0 n (mt, mf, mp, mq)).2.2.2 ι)) rfl (fun z hz => by rw [hev] <;> rfl) (ws' := [(md, .inr (9, [.int (nI W), .int (nI H), .int t, .int (nI m), .int (nI k), .ref zc, .ref zr, .ref zb, .ref z1, .ref z2, .ref z3, .ref z4, .ref z5, .ref zm, .ref zmr, .ref zmb, .int mt, .ref zca, .ref zcw, .int (nI c), .ref zg, .ref zt, .ref zs, .ref zf, .ref zy, .ref zso, .ref zsf, .ref zsm, .int nt, .int nsh, .ref ztp, .ref zrw, .ref zpp, .int (nI tn), .int (nI pn), .int rdw, .int rdh, .ref zsz, .ref zit, .ref zk, .int (bI itk)])), (zm, ia G 16 ((ev1 W H a0 n (mt, mf, mp, mq)).2.1)), (zmr, ia G 16 (fun ι => nI ((ev1 W H a0 n (mt, mf, mp, mq)).2.2.1 ι))), (zmb, ia G 16 (fun ι => nI ((ev1 W H a0 n (mt, mf, mp, mq)).2.2.2 ι)))]) rfl ?_
        refine j_eqw (ws' := [(md, .inr (9, [.int (nI W), .int (nI H), .int t, .int (nI m), .int (nI k), .ref zc, .ref zr, .ref zb, .ref z1, .ref z2, .ref z3, .ref z4, .ref z5, .ref zm, .ref zmr, .ref zmb, .int ((ev1 W H a0 n (mt, mf, mp, mq)).1), .ref zca, .ref zcw, .int (nI c), .ref zg, .ref zt, .ref zs, .ref zf, .ref zy, .ref zso, .ref zsf, .ref zsm, .int nt, .int nsh, .ref ztp, .ref zrw, .ref zpp, .int (nI tn), .int (nI pn), .int rdw, .int rdh, .ref zsz, .ref zit, .ref zk, .int (bI itk)])), (zm, ia G 16 ((ev1 W H a0 n (mt, mf, mp, mq)).2.1)), (zmr, ia G 16 (fun ι => nI ((ev1 W H a0 n (mt, mf, mp, mq)).2.2.1 ι))), (zmb, ia G 16 (fun ι => nI ((ev1 W H a0 n (mt, mf, mp, mq)).2.2.2 ι)))]) (congrArg (fun ζ : Int32 => ([(md, .inr (9, [.int (nI W), .int (nI H), .int t, .int (nI m), .int (nI k), .ref zc, .ref zr, .ref zb, .ref z1, .ref z2, .ref z3, .ref z4, .ref z5, .ref zm, .ref zmr, .ref zmb, .int ζ, .ref zca, .ref zcw, .int (nI c), .ref zg, .ref zt, .ref zs, .ref zf, .ref zy, .ref zso, .ref zsf, .ref zsm, .int nt, .int nsh, .ref ztp, .ref zrw, .ref zpp, .int (nI tn), .int (nI pn), .int rdw, .int rdh, .ref zsz, .ref zit, .ref zk, .int (bI itk)])), (zm, ia G 16 ((ev1 W H a0 n (mt, mf, mp, mq)).2.1)), (zmr, ia G 16 (fun ι => nI ((ev1 W H a0 n (mt, mf, mp, mq)).2.2.1 ι))), (zmb, ia G 16 (fun ι => nI ((ev1 W H a0 n (mt, mf, mp, mq)).2.2.2 ι)))] : va_W)) (show mt = (ev1 W H a0 n (mt, mf, mp, mq)).1 from by rw [hev] <;> rfl)) ?_
        exact j_vret (pc := 72) hX hR dX9_happens_72 ⟨rfl, rfl⟩
      · skip
        rw [inG_nat (by omega) (by omega)] at c51
        have c51 := of_decide_eq_true c51
        have hev : ev1 W H a0 n (mt, mf, mp, mq) = (mt, flp W H mf (n / 100) (n % 100), mp, mq) := by unfold ev1; rw [if_neg (by omega), if_neg (by omega)]
        refine j_aload_n (pc := 54) hX dX9_happens_54 0 rfl ?_
        refine j_get (pc := 55) hX f_RX9_43 0 rfl rfl dX9_happens_55 ?_
        refine j_iload_n (pc := 58) hX dX9_happens_58 2 rfl ?_
        refine j_bipush (pc := 59) (v := nI 100) hX dX9_happens_59 (by decide) ?_
        refine j_irem (pc := 61) hX dX9_happens_61 (by decide) ?_
        refine j_topi (y := nI (n % 100)) (pk_rem (by omega) (by omega) (by omega)) ?_
        refine j_dup2 (pc := 62) hX dX9_happens_62 rfl rfl ?_
        refine j_ialdN (pc := 63) (j := n % 100) hX 1 rfl (by omega) (by omega) dX9_happens_63 ?_
        refine j_iconstN (pc := 64) (j := 1) hX dX9_happens_64 rfl ?_
        refine j_iload_n (pc := 65) hX dX9_happens_65 2 rfl ?_
        refine j_bipush (pc := 66) (v := nI 100) hX dX9_happens_66 (by decide) ?_
        refine j_idiv (pc := 68) hX dX9_happens_68 (by decide) ?_
        refine j_topi (y := nI (n / 100)) (pk_div (by omega) (by omega) (by omega)) ?_
        refine j_ishl (pc := 69) hX dX9_happens_69 ?_
        refine j_ixor (pc := 70) hX dX9_happens_70 ?_
        refine j_iastN (pc := 71) (j := n % 100) (ws' := [(md, .inr (9, [.int (nI W), .int (nI H), .int t, .int (nI m), .int (nI k), .ref zc, .ref zr, .ref zb, .ref z1, .ref z2, .ref z3, .ref z4, .ref z5, .ref zm, .ref zmr, .ref zmb, .int mt, .ref zca, .ref zcw, .int (nI c), .ref zg, .ref zt, .ref zs, .ref zf, .ref zy, .ref zso, .ref zsf, .ref zsm, .int nt, .int nsh, .ref ztp, .ref zrw, .ref zpp, .int (nI tn), .int (nI pn), .int rdw, .int rdh, .ref zsz, .ref zit, .ref zk, .int (bI itk)])), (zm, ia G 16 (upd mf (n % 100) ((mf (n % 100)) ^^^ ((nI 1) <<< ((nI (n / 100)) &&& 31))))), (zmr, ia G 16 (fun ι => nI (mp ι))), (zmb, ia G 16 (fun ι => nI (mq ι)))]) hX 1 rfl (by omega) (by omega) rfl dX9_happens_71 ?_
        refine j_ia (q0 := 1) (f := upd mf (n % 100) ((mf (n % 100)) ^^^ ((nI 1) <<< ((nI (n / 100)) &&& 31)))) (g := flp W H mf (n / 100) (n % 100)) rfl (fun z hz => by rw [flp_in c51.1 c51.2]) (ws' := [(md, .inr (9, [.int (nI W), .int (nI H), .int t, .int (nI m), .int (nI k), .ref zc, .ref zr, .ref zb, .ref z1, .ref z2, .ref z3, .ref z4, .ref z5, .ref zm, .ref zmr, .ref zmb, .int mt, .ref zca, .ref zcw, .int (nI c), .ref zg, .ref zt, .ref zs, .ref zf, .ref zy, .ref zso, .ref zsf, .ref zsm, .int nt, .int nsh, .ref ztp, .ref zrw, .ref zpp, .int (nI tn), .int (nI pn), .int rdw, .int rdh, .ref zsz, .ref zit, .ref zk, .int (bI itk)])), (zm, ia G 16 (flp W H mf (n / 100) (n % 100))), (zmr, ia G 16 (fun ι => nI (mp ι))), (zmb, ia G 16 (fun ι => nI (mq ι)))]) rfl ?_
        refine j_ia (q0 := 1) (f := flp W H mf (n / 100) (n % 100)) (g := (ev1 W H a0 n (mt, mf, mp, mq)).2.1) rfl (fun z hz => by rw [hev] <;> rfl) (ws' := [(md, .inr (9, [.int (nI W), .int (nI H), .int t, .int (nI m), .int (nI k), .ref zc, .ref zr, .ref zb, .ref z1, .ref z2, .ref z3, .ref z4, .ref z5, .ref zm, .ref zmr, .ref zmb, .int mt, .ref zca, .ref zcw, .int (nI c), .ref zg, .ref zt, .ref zs, .ref zf, .ref zy, .ref zso, .ref zsf, .ref zsm, .int nt, .int nsh, .ref ztp, .ref zrw, .ref zpp, .int (nI tn), .int (nI pn), .int rdw, .int rdh, .ref zsz, .ref zit, .ref zk, .int (bI itk)])), (zm, ia G 16 ((ev1 W H a0 n (mt, mf, mp, mq)).2.1)), (zmr, ia G 16 (fun ι => nI (mp ι))), (zmb, ia G 16 (fun ι => nI (mq ι)))]) rfl ?_
        refine j_ia (q0 := 2) (f := fun ι => nI (mp ι)) (g := fun ι => nI ((ev1 W H a0 n (mt, mf, mp, mq)).2.2.1 ι)) rfl (fun z hz => by rw [hev] <;> rfl) (ws' := [(md, .inr (9, [.int (nI W), .int (nI H), .int t, .int (nI m), .int (nI k), .ref zc, .ref zr, .ref zb, .ref z1, .ref z2, .ref z3, .ref z4, .ref z5, .ref zm, .ref zmr, .ref zmb, .int mt, .ref zca, .ref zcw, .int (nI c), .ref zg, .ref zt, .ref zs, .ref zf, .ref zy, .ref zso, .ref zsf, .ref zsm, .int nt, .int nsh, .ref ztp, .ref zrw, .ref zpp, .int (nI tn), .int (nI pn), .int rdw, .int rdh, .ref zsz, .ref zit, .ref zk, .int (bI itk)])), (zm, ia G 16 ((ev1 W H a0 n (mt, mf, mp, mq)).2.1)), (zmr, ia G 16 (fun ι => nI ((ev1 W H a0 n (mt, mf, mp, mq)).2.2.1 ι))), (zmb, ia G 16 (fun ι => nI (mq ι)))]) rfl ?_
        refine j_ia (q0 := 3) (f := fun ι => nI (mq ι)) (g := fun ι => nI ((ev1 W H a0 n (mt, mf, mp, mq)).2.2.2 ι)) rfl (fun z hz => by rw [hev] <;> rfl) (ws' := [(md, .inr (9, [.int (nI W), .int (nI H), .int t, .int (nI m), .int (nI k), .ref zc, .ref zr, .ref zb, .ref z1, .ref z2, .ref z3, .ref z4, .ref z5, .ref zm, .ref zmr, .ref zmb, .int mt, .ref zca, .ref zcw, .int (nI c), .ref zg, .ref zt, .ref zs, .ref zf, .ref zy, .ref zso, .ref zsf, .ref zsm, .int nt, .int nsh, .ref ztp, .ref zrw, .ref zpp, .int (nI tn), .int (nI pn), .int rdw, .int rdh, .ref zsz, .ref zit, .ref zk, .int (bI itk)])), (zm, ia G 16 ((ev1 W H a0 n (mt, mf, mp, mq)).2.1)), (zmr, ia G 16 (fun ι => nI ((ev1 W H a0 n (mt, mf, mp, mq)).2.2.1 ι))), (zmb, ia G 16 (fun ι => nI ((ev1 W H a0 n (mt, mf, mp, mq)).2.2.2 ι)))]) rfl ?_
        refine j_eqw (ws' := [(md, .inr (9, [.int (nI W), .int (nI H), .int t, .int (nI m), .int (nI k), .ref zc, .ref zr, .ref zb, .ref z1, .ref z2, .ref z3, .ref z4, .ref z5, .ref zm, .ref zmr, .ref zmb, .int ((ev1 W H a0 n (mt, mf, mp, mq)).1), .ref zca, .ref zcw, .int (nI c), .ref zg, .ref zt, .ref zs, .ref zf, .ref zy, .ref zso, .ref zsf, .ref zsm, .int nt, .int nsh, .ref ztp, .ref zrw, .ref zpp, .int (nI tn), .int (nI pn), .int rdw, .int rdh, .ref zsz, .ref zit, .ref zk, .int (bI itk)])), (zm, ia G 16 ((ev1 W H a0 n (mt, mf, mp, mq)).2.1)), (zmr, ia G 16 (fun ι => nI ((ev1 W H a0 n (mt, mf, mp, mq)).2.2.1 ι))), (zmb, ia G 16 (fun ι => nI ((ev1 W H a0 n (mt, mf, mp, mq)).2.2.2 ι)))]) (congrArg (fun ζ : Int32 => ([(md, .inr (9, [.int (nI W), .int (nI H), .int t, .int (nI m), .int (nI k), .ref zc, .ref zr, .ref zb, .ref z1, .ref z2, .ref z3, .ref z4, .ref z5, .ref zm, .ref zmr, .ref zmb, .int ζ, .ref zca, .ref zcw, .int (nI c), .ref zg, .ref zt, .ref zs, .ref zf, .ref zy, .ref zso, .ref zsf, .ref zsm, .int nt, .int nsh, .ref ztp, .ref zrw, .ref zpp, .int (nI tn), .int (nI pn), .int rdw, .int rdh, .ref zsz, .ref zit, .ref zk, .int (bI itk)])), (zm, ia G 16 ((ev1 W H a0 n (mt, mf, mp, mq)).2.1)), (zmr, ia G 16 (fun ι => nI ((ev1 W H a0 n (mt, mf, mp, mq)).2.2.1 ι))), (zmb, ia G 16 (fun ι => nI ((ev1 W H a0 n (mt, mf, mp, mq)).2.2.2 ι)))] : va_W)) (show mt = (ev1 W H a0 n (mt, mf, mp, mq)).1 from by rw [hev] <;> rfl)) ?_
        exact j_vret (pc := 72) hX hR dX9_happens_72 ⟨rfl, rfl⟩
    · skip
      have hev : ev1 W H a0 n (mt, mf, mp, mq) = (mt + nI n, goF W H mp mq mt (nI n) mf, mp, mq) := by unfold ev1; rw [if_neg (by omega), if_pos (by omega)]
      refine j_aload_n (pc := 31) hX dX9_happens_31 0 rfl ?_
      refine j_iload_n (pc := 32) hX dX9_happens_32 2 rfl ?_
      refine j_callV (pc := 33) hX kX9_goes kVX9_goes l_RX9_192 (fun l => c_X9_goes G md W H t m k zc zr zb z1 z2 z3 z4 z5 zm zmr zmb mt zca zcw c zg zt zs zf zy zso zsf zsm nt nsh ztp zrw zpp tn pn rdw rdh zsz zit zk itk mf mp mq (nI n) (by omega) (by omega) (by omega) (by omega) (by omega) (by omega) (by first | omega | (rw [nI_toInt (by omega)]; omega)) l) [0, 1, 2, 3] [] [] rfl 0 9 rfl rfl rfl rfl rfl rfl ⟨rfl, rfl, by decide⟩ rfl rfl (Nat.le_of_ble_eq_true rfl) dX9_happens_33 (fun v w hq => ?_)
      obtain ⟨rfl, rfl⟩ := hq
      refine j_ws [0, 1, 2, 3] (ws' := [(md, .inr (9, [.int (nI W), .int (nI H), .int t, .int (nI m), .int (nI k), .ref zc, .ref zr, .ref zb, .ref z1, .ref z2, .ref z3, .ref z4, .ref z5, .ref zm, .ref zmr, .ref zmb, .int (mt + (nI n)), .ref zca, .ref zcw, .int (nI c), .ref zg, .ref zt, .ref zs, .ref zf, .ref zy, .ref zso, .ref zsf, .ref zsm, .int nt, .int nsh, .ref ztp, .ref zrw, .ref zpp, .int (nI tn), .int (nI pn), .int rdw, .int rdh, .ref zsz, .ref zit, .ref zk, .int (bI itk)])), (zm, ia G 16 (goF W H mp mq mt (nI n) mf)), (zmr, ia G 16 (fun ι => nI (mp ι))), (zmb, ia G 16 (fun ι => nI (mq ι)))]) rfl rfl ?_
      refine j_goto (pc := 36) (tgt := 72) hX dX9_happens_36 (by decide) ?_
      refine j_ia (q0 := 1) (f := goF W H mp mq mt (nI n) mf) (g := (ev1 W H a0 n (mt, mf, mp, mq)).2.1) rfl (fun z hz => by rw [hev] <;> rfl) (ws' := [(md, .inr (9, [.int (nI W), .int (nI H), .int t, .int (nI m), .int (nI k), .ref zc, .ref zr, .ref zb, .ref z1, .ref z2, .ref z3, .ref z4, .ref z5, .ref zm, .ref zmr, .ref zmb, .int (mt + (nI n)), .ref zca, .ref zcw, .int (nI c), .ref zg, .ref zt, .ref zs, .ref zf, .ref zy, .ref zso, .ref zsf, .ref zsm, .int nt, .int nsh, .ref ztp, .ref zrw, .ref zpp, .int (nI tn), .int (nI pn), .int rdw, .int rdh, .ref zsz, .ref zit, .ref zk, .int (bI itk)])), (zm, ia G 16 ((ev1 W H a0 n (mt, mf, mp, mq)).2.1)), (zmr, ia G 16 (fun ι => nI (mp ι))), (zmb, ia G 16 (fun ι => nI (mq ι)))]) rfl ?_
      refine j_ia (q0 := 2) (f := fun ι => nI (mp ι)) (g := fun ι => nI ((ev1 W H a0 n (mt, mf, mp, mq)).2.2.1 ι)) rfl (fun z hz => by rw [hev] <;> rfl) (ws' := [(md, .inr (9, [.int (nI W), .int (nI H), .int t, .int (nI m), .int (nI k), .ref zc, .ref zr, .ref zb, .ref z1, .ref z2, .ref z3, .ref z4, .ref z5, .ref zm, .ref zmr, .ref zmb, .int (mt + (nI n)), .ref zca, .ref zcw, .int (nI c), .ref zg, .ref zt, .ref zs, .ref zf, .ref zy, .ref zso, .ref zsf, .ref zsm, .int nt, .int nsh, .ref ztp, .ref zrw, .ref zpp, .int (nI tn), .int (nI pn), .int rdw, .int rdh, .ref zsz, .ref zit, .ref zk, .int (bI itk)])), (zm, ia G 16 ((ev1 W H a0 n (mt, mf, mp, mq)).2.1)), (zmr, ia G 16 (fun ι => nI ((ev1 W H a0 n (mt, mf, mp, mq)).2.2.1 ι))), (zmb, ia G 16 (fun ι => nI (mq ι)))]) rfl ?_
      refine j_ia (q0 := 3) (f := fun ι => nI (mq ι)) (g := fun ι => nI ((ev1 W H a0 n (mt, mf, mp, mq)).2.2.2 ι)) rfl (fun z hz => by rw [hev] <;> rfl) (ws' := [(md, .inr (9, [.int (nI W), .int (nI H), .int t, .int (nI m), .int (nI k), .ref zc, .ref zr, .ref zb, .ref z1, .ref z2, .ref z3, .ref z4, .ref z5, .ref zm, .ref zmr, .ref zmb, .int (mt + (nI n)), .ref zca, .ref zcw, .int (nI c), .ref zg, .ref zt, .ref zs, .ref zf, .ref zy, .ref zso, .ref zsf, .ref zsm, .int nt, .int nsh, .ref ztp, .ref zrw, .ref zpp, .int (nI tn), .int (nI pn), .int rdw, .int rdh, .ref zsz, .ref zit, .ref zk, .int (bI itk)])), (zm, ia G 16 ((ev1 W H a0 n (mt, mf, mp, mq)).2.1)), (zmr, ia G 16 (fun ι => nI ((ev1 W H a0 n (mt, mf, mp, mq)).2.2.1 ι))), (zmb, ia G 16 (fun ι => nI ((ev1 W H a0 n (mt, mf, mp, mq)).2.2.2 ι)))]) rfl ?_
      refine j_eqw (ws' := [(md, .inr (9, [.int (nI W), .int (nI H), .int t, .int (nI m), .int (nI k), .ref zc, .ref zr, .ref zb, .ref z1, .ref z2, .ref z3, .ref z4, .ref z5, .ref zm, .ref zmr, .ref zmb, .int ((ev1 W H a0 n (mt, mf, mp, mq)).1), .ref zca, .ref zcw, .int (nI c), .ref zg, .ref zt, .ref zs, .ref zf, .ref zy, .ref zso, .ref zsf, .ref zsm, .int nt, .int nsh, .ref ztp, .ref zrw, .ref zpp, .int (nI tn), .int (nI pn), .int rdw, .int rdh, .ref zsz, .ref zit, .ref zk, .int (bI itk)])), (zm, ia G 16 ((ev1 W H a0 n (mt, mf, mp, mq)).2.1)), (zmr, ia G 16 (fun ι => nI ((ev1 W H a0 n (mt, mf, mp, mq)).2.2.1 ι))), (zmb, ia G 16 (fun ι => nI ((ev1 W H a0 n (mt, mf, mp, mq)).2.2.2 ι)))]) (congrArg (fun ζ : Int32 => ([(md, .inr (9, [.int (nI W), .int (nI H), .int t, .int (nI m), .int (nI k), .ref zc, .ref zr, .ref zb, .ref z1, .ref z2, .ref z3, .ref z4, .ref z5, .ref zm, .ref zmr, .ref zmb, .int ζ, .ref zca, .ref zcw, .int (nI c), .ref zg, .ref zt, .ref zs, .ref zf, .ref zy, .ref zso, .ref zsf, .ref zsm, .int nt, .int nsh, .ref ztp, .ref zrw, .ref zpp, .int (nI tn), .int (nI pn), .int rdw, .int rdh, .ref zsz, .ref zit, .ref zk, .int (bI itk)])), (zm, ia G 16 ((ev1 W H a0 n (mt, mf, mp, mq)).2.1)), (zmr, ia G 16 (fun ι => nI ((ev1 W H a0 n (mt, mf, mp, mq)).2.2.1 ι))), (zmb, ia G 16 (fun ι => nI ((ev1 W H a0 n (mt, mf, mp, mq)).2.2.2 ι)))] : va_W)) (show mt + (nI n) = (ev1 W H a0 n (mt, mf, mp, mq)).1 from by rw [hev] <;> rfl)) ?_
      exact j_vret (pc := 72) hX hR dX9_happens_72 ⟨rfl, rfl⟩
  · skip
    have hev : ev1 W H a0 n (mt, mf, mp, mq) = (mt, mf, wrd n, wrdI n) := by unfold ev1; rw [if_pos (by omega)]
    refine j_iload_n (pc := 4) hX dX9_happens_4 2 rfl ?_
    refine j_aload_n (pc := 5) hX dX9_happens_5 0 rfl ?_
    refine j_get (pc := 6) hX f_RX9_46 0 rfl rfl dX9_happens_6 ?_
    refine j_callS (pc := 9) hX kX9_ruleOf kSX9_ruleOf l_RX9_101 (fun l => c_X9_ruleOf G n zmr (fun ι => nI (mp ι)) (by omega) l) [2] [0, 1, 3] [] rfl rfl rfl rfl ⟨rfl, rfl, by decide⟩ rfl rfl (Nat.le_of_ble_eq_true rfl) dX9_happens_9 (fun v w hq => ?_)
    obtain ⟨rfl, rfl⟩ := hq
    refine j_ws [0, 1, 3, 2] (ws' := [(md, .inr (9, [.int (nI W), .int (nI H), .int t, .int (nI m), .int (nI k), .ref zc, .ref zr, .ref zb, .ref z1, .ref z2, .ref z3, .ref z4, .ref z5, .ref zm, .ref zmr, .ref zmb, .int mt, .ref zca, .ref zcw, .int (nI c), .ref zg, .ref zt, .ref zs, .ref zf, .ref zy, .ref zso, .ref zsf, .ref zsm, .int nt, .int nsh, .ref ztp, .ref zrw, .ref zpp, .int (nI tn), .int (nI pn), .int rdw, .int rdh, .ref zsz, .ref zit, .ref zk, .int (bI itk)])), (zm, ia G 16 mf), (zmr, ia G 16 (fun ι => nI (wrd n ι))), (zmb, ia G 16 (fun ι => nI (mq ι)))]) rfl rfl ?_
    refine j_aload_n (pc := 12) hX dX9_happens_12 0 rfl ?_
    refine j_get (pc := 13) hX f_RX9_46 0 rfl rfl dX9_happens_13 ?_
    refine j_aload_n (pc := 16) hX dX9_happens_16 0 rfl ?_
    refine j_get (pc := 17) hX f_RX9_49 0 rfl rfl dX9_happens_17 ?_
    refine j_callS (pc := 20) hX kX9_inverse kSX9_inverse l_RX9_123 (fun l => c_X9_inverse G zmr zmb (wrd n) (wrdI n) (fun ι => nI (mq ι)) (isP_wrd (by omega)) l) [2, 3] [0, 1] [] rfl rfl rfl rfl ⟨rfl, rfl, by decide⟩ rfl rfl (Nat.le_of_ble_eq_true rfl) dX9_happens_20 (fun v w hq => ?_)
    obtain ⟨rfl, rfl⟩ := hq
    refine j_ws [0, 1, 2, 3] (ws' := [(md, .inr (9, [.int (nI W), .int (nI H), .int t, .int (nI m), .int (nI k), .ref zc, .ref zr, .ref zb, .ref z1, .ref z2, .ref z3, .ref z4, .ref z5, .ref zm, .ref zmr, .ref zmb, .int mt, .ref zca, .ref zcw, .int (nI c), .ref zg, .ref zt, .ref zs, .ref zf, .ref zy, .ref zso, .ref zsf, .ref zsm, .int nt, .int nsh, .ref ztp, .ref zrw, .ref zpp, .int (nI tn), .int (nI pn), .int rdw, .int rdh, .ref zsz, .ref zit, .ref zk, .int (bI itk)])), (zm, ia G 16 mf), (zmr, ia G 16 (fun ι => nI ((wrd n) ι))), (zmb, ia G 16 (fun ι => nI ((wrdI n) ι)))]) rfl rfl ?_
    refine j_goto (pc := 23) (tgt := 72) hX dX9_happens_23 (by decide) ?_
    refine j_ia (q0 := 1) (f := mf) (g := (ev1 W H a0 n (mt, mf, mp, mq)).2.1) rfl (fun z hz => by rw [hev] <;> rfl) (ws' := [(md, .inr (9, [.int (nI W), .int (nI H), .int t, .int (nI m), .int (nI k), .ref zc, .ref zr, .ref zb, .ref z1, .ref z2, .ref z3, .ref z4, .ref z5, .ref zm, .ref zmr, .ref zmb, .int mt, .ref zca, .ref zcw, .int (nI c), .ref zg, .ref zt, .ref zs, .ref zf, .ref zy, .ref zso, .ref zsf, .ref zsm, .int nt, .int nsh, .ref ztp, .ref zrw, .ref zpp, .int (nI tn), .int (nI pn), .int rdw, .int rdh, .ref zsz, .ref zit, .ref zk, .int (bI itk)])), (zm, ia G 16 ((ev1 W H a0 n (mt, mf, mp, mq)).2.1)), (zmr, ia G 16 (fun ι => nI ((wrd n) ι))), (zmb, ia G 16 (fun ι => nI ((wrdI n) ι)))]) rfl ?_
    refine j_ia (q0 := 2) (f := fun ι => nI ((wrd n) ι)) (g := fun ι => nI ((ev1 W H a0 n (mt, mf, mp, mq)).2.2.1 ι)) rfl (fun z hz => by rw [hev] <;> rfl) (ws' := [(md, .inr (9, [.int (nI W), .int (nI H), .int t, .int (nI m), .int (nI k), .ref zc, .ref zr, .ref zb, .ref z1, .ref z2, .ref z3, .ref z4, .ref z5, .ref zm, .ref zmr, .ref zmb, .int mt, .ref zca, .ref zcw, .int (nI c), .ref zg, .ref zt, .ref zs, .ref zf, .ref zy, .ref zso, .ref zsf, .ref zsm, .int nt, .int nsh, .ref ztp, .ref zrw, .ref zpp, .int (nI tn), .int (nI pn), .int rdw, .int rdh, .ref zsz, .ref zit, .ref zk, .int (bI itk)])), (zm, ia G 16 ((ev1 W H a0 n (mt, mf, mp, mq)).2.1)), (zmr, ia G 16 (fun ι => nI ((ev1 W H a0 n (mt, mf, mp, mq)).2.2.1 ι))), (zmb, ia G 16 (fun ι => nI ((wrdI n) ι)))]) rfl ?_
    refine j_ia (q0 := 3) (f := fun ι => nI ((wrdI n) ι)) (g := fun ι => nI ((ev1 W H a0 n (mt, mf, mp, mq)).2.2.2 ι)) rfl (fun z hz => by rw [hev] <;> rfl) (ws' := [(md, .inr (9, [.int (nI W), .int (nI H), .int t, .int (nI m), .int (nI k), .ref zc, .ref zr, .ref zb, .ref z1, .ref z2, .ref z3, .ref z4, .ref z5, .ref zm, .ref zmr, .ref zmb, .int mt, .ref zca, .ref zcw, .int (nI c), .ref zg, .ref zt, .ref zs, .ref zf, .ref zy, .ref zso, .ref zsf, .ref zsm, .int nt, .int nsh, .ref ztp, .ref zrw, .ref zpp, .int (nI tn), .int (nI pn), .int rdw, .int rdh, .ref zsz, .ref zit, .ref zk, .int (bI itk)])), (zm, ia G 16 ((ev1 W H a0 n (mt, mf, mp, mq)).2.1)), (zmr, ia G 16 (fun ι => nI ((ev1 W H a0 n (mt, mf, mp, mq)).2.2.1 ι))), (zmb, ia G 16 (fun ι => nI ((ev1 W H a0 n (mt, mf, mp, mq)).2.2.2 ι)))]) rfl ?_
    refine j_eqw (ws' := [(md, .inr (9, [.int (nI W), .int (nI H), .int t, .int (nI m), .int (nI k), .ref zc, .ref zr, .ref zb, .ref z1, .ref z2, .ref z3, .ref z4, .ref z5, .ref zm, .ref zmr, .ref zmb, .int ((ev1 W H a0 n (mt, mf, mp, mq)).1), .ref zca, .ref zcw, .int (nI c), .ref zg, .ref zt, .ref zs, .ref zf, .ref zy, .ref zso, .ref zsf, .ref zsm, .int nt, .int nsh, .ref ztp, .ref zrw, .ref zpp, .int (nI tn), .int (nI pn), .int rdw, .int rdh, .ref zsz, .ref zit, .ref zk, .int (bI itk)])), (zm, ia G 16 ((ev1 W H a0 n (mt, mf, mp, mq)).2.1)), (zmr, ia G 16 (fun ι => nI ((ev1 W H a0 n (mt, mf, mp, mq)).2.2.1 ι))), (zmb, ia G 16 (fun ι => nI ((ev1 W H a0 n (mt, mf, mp, mq)).2.2.2 ι)))]) (congrArg (fun ζ : Int32 => ([(md, .inr (9, [.int (nI W), .int (nI H), .int t, .int (nI m), .int (nI k), .ref zc, .ref zr, .ref zb, .ref z1, .ref z2, .ref z3, .ref z4, .ref z5, .ref zm, .ref zmr, .ref zmb, .int ζ, .ref zca, .ref zcw, .int (nI c), .ref zg, .ref zt, .ref zs, .ref zf, .ref zy, .ref zso, .ref zsf, .ref zsm, .int nt, .int nsh, .ref ztp, .ref zrw, .ref zpp, .int (nI tn), .int (nI pn), .int rdw, .int rdh, .ref zsz, .ref zit, .ref zk, .int (bI itk)])), (zm, ia G 16 ((ev1 W H a0 n (mt, mf, mp, mq)).2.1)), (zmr, ia G 16 (fun ι => nI ((ev1 W H a0 n (mt, mf, mp, mq)).2.2.1 ι))), (zmb, ia G 16 (fun ι => nI ((ev1 W H a0 n (mt, mf, mp, mq)).2.2.2 ι)))] : va_W)) (show mt = (ev1 W H a0 n (mt, mf, mp, mq)).1 from by rw [hev] <;> rfl)) ?_
    exact j_vret (pc := 72) hX hR dX9_happens_72 ⟨rfl, rfl⟩
set_option maxHeartbeats 4000000 in
set_option maxRecDepth 100000 in
theorem c_X9_carries_in (G : GT) (md : Nat) (W : Nat) (H : Nat) (t : Int32) (m : Nat) (k : Nat) (zc : Nat) (zr : Nat) (zb : Nat) (z1 : Nat) (z2 : Nat) (z3 : Nat) (z4 : Nat) (z5 : Nat) (zm : Nat) (zmr : Nat) (zmb : Nat) (mt : Int32) (zca : Nat) (zcw : Nat) (c : Nat) (zg : Nat) (zt : Nat) (zs : Nat) (zf : Nat) (zy : Nat) (zso : Nat) (zsf : Nat) (zsm : Nat) (nt : Int32) (nsh : Int32) (ztp : Nat) (zrw : Nat) (zpp : Nat) (tn : Nat) (pn : Nat) (rdw : Int32) (rdh : Int32) (zsz : Nat) (zit : Nat) (zk : Nat) (itk : Bool) (gA : Nat → Int32) (kp : Nat → Int32) (a n o : Nat) (hn : n ≤ 16) (ho : o + n ≤ 66) (l : Launch) : CT l G yX9_carries cX9_carries 6 (some .int) { frames := 0, cells := 0, slots := 0, locals := 0 } [.ref md, .ref a, .int (nI n), .int (nI o), .int (nI 1)] [(md, .inr (9, [.int (nI W), .int (nI H), .int t, .int (nI m), .int (nI k), .ref zc, .ref zr, .ref zb, .ref z1, .ref z2, .ref z3, .ref z4, .ref z5, .ref zm, .ref zmr, .ref zmb, .int mt, .ref zca, .ref zcw, .int (nI c), .ref zg, .ref zt, .ref zs, .ref zf, .ref zy, .ref zso, .ref zsf, .ref zsm, .int nt, .int nsh, .ref ztp, .ref zrw, .ref zpp, .int (nI tn), .int (nI pn), .int rdw, .int rdh, .ref zsz, .ref zit, .ref zk, .int (bI itk)])), (a, ia G n gA), (zk, ia G 66 kp)] (fun vv ww => vv = some (.int (nI (o + n))) ∧ ww = [(md, .inr (9, [.int (nI W), .int (nI H), .int t, .int (nI m), .int (nI k), .ref zc, .ref zr, .ref zb, .ref z1, .ref z2, .ref z3, .ref z4, .ref z5, .ref zm, .ref zmr, .ref zmb, .int mt, .ref zca, .ref zcw, .int (nI c), .ref zg, .ref zt, .ref zs, .ref zf, .ref zy, .ref zso, .ref zsf, .ref zsm, .int nt, .int nsh, .ref ztp, .ref zrw, .ref zpp, .int (nI tn), .int (nI pn), .int rdw, .int rdh, .ref zsz, .ref zit, .ref zk, .int (bI itk)])), (a, ia G n (fun z => kp (o + z))), (zk, ia G 66 kp)]) := by
  refine CT.of (lv := [(0, .ref md), (1, .ref a), (2, .int (nI n)), (3, .int (nI o)), (4, .int (nI 1))]) RX9 "carries" rfl rfl (by decide +kernel) (Nat.le_of_ble_eq_true rfl) rfl (fun X hX hR => ?_)
  refine j_iconstN (pc := 0) (j := 0) hX dX9_carries_0 rfl ?_
  refine j_istore (pc := 1) (lv' := [(5, .int (nI 0)), (0, .ref md), (1, .ref a), (2, .int (nI n)), (3, .int (nI o)), (4, .int (nI 1))]) hX dX9_carries_1 (by decide) rfl ?_
  have L3 : ∀ (m3 : Nat) (j : Nat) (g3 : Nat → Int32) (hj : j ≤ n) (h3 : ∀ z, z < j → g3 z = kp (o + z)), n - j < m3 → J X G 6 0 0 [(md, .inr (9, [.int (nI W), .int (nI H), .int t, .int (nI m), .int (nI k), .ref zc, .ref zr, .ref zb, .ref z1, .ref z2, .ref z3, .ref z4, .ref z5, .ref zm, .ref zmr, .ref zmb, .int mt, .ref zca, .ref zcw, .int (nI c), .ref zg, .ref zt, .ref zs, .ref zf, .ref zy, .ref zso, .ref zsf, .ref zsm, .int nt, .int nsh, .ref ztp, .ref zrw, .ref zpp, .int (nI tn), .int (nI pn), .int rdw, .int rdh, .ref zsz, .ref zit, .ref zk, .int (bI itk)])), (a, ia G n g3), (zk, ia G 66 kp)] [(0, .ref md), (1, .ref a), (2, .int (nI n)), (3, .int (nI o)), (4, .int (nI 1)), (5, .int (nI j))] 3 [] := by
    intro m3
    induction m3 with
    | zero => intro j g3 hj h3 hm3; exact absurd hm3 (Nat.not_lt_zero _)
    | succ m3 ih3 =>
      intro j g3 hj h3 hm3
      refine j_iload (pc := 3) hX dX9_carries_3 5 rfl ?_
      refine j_iload_n (pc := 5) hX dX9_carries_5 2 rfl ?_
      refine j_icmp_ge (pc := 6) (tgt := 49) hX dX9_carries_6 (by decide) (nI_toInt (n := j) (by omega)) (nI_toInt (n := n) (by omega)) (fun c6 => ?_) (fun c6 => ?_)
      · skip
        refine j_iload_n (pc := 49) hX dX9_carries_49 3 rfl ?_
        refine j_iload_n (pc := 50) hX dX9_carries_50 2 rfl ?_
        refine j_iadd (pc := 51) hX dX9_carries_51 ?_
        refine j_topi (y := nI (o + n)) (nI_add _ _) ?_
        refine j_ia (q0 := 1) (f := g3) (g := fun z => kp (o + z)) rfl (fun z hz => by exact h3 z (by omega)) (ws' := [(md, .inr (9, [.int (nI W), .int (nI H), .int t, .int (nI m), .int (nI k), .ref zc, .ref zr, .ref zb, .ref z1, .ref z2, .ref z3, .ref z4, .ref z5, .ref zm, .ref zmr, .ref zmb, .int mt, .ref zca, .ref zcw, .int (nI c), .ref zg, .ref zt, .ref zs, .ref zf, .ref zy, .ref zso, .ref zsf, .ref zsm, .int nt, .int nsh, .ref ztp, .ref zrw, .ref zpp, .int (nI tn), .int (nI pn), .int rdw, .int rdh, .ref zsz, .ref zit, .ref zk, .int (bI itk)])), (a, ia G n (fun z => kp (o + z))), (zk, ia G 66 kp)]) rfl ?_
        exact j_iret (pc := 52) hX hR dX9_carries_52 ⟨rfl, rfl⟩
      · skip
        refine j_iload (pc := 9) hX dX9_carries_9 4 rfl ?_
        refine j_if_eq (pc := 11) (tgt := 30) hX dX9_carries_11 (by decide) (nI_toInt (n := 1) (by decide)) (fun c11 => absurd c11 (by decide)) (fun c11 => ?_)
        refine j_aload_n (pc := 14) hX dX9_carries_14 1 rfl ?_
        refine j_iload (pc := 15) hX dX9_carries_15 5 rfl ?_
        refine j_aload_n (pc := 17) hX dX9_carries_17 0 rfl ?_
        refine j_get (pc := 18) hX f_RX9_98 0 rfl rfl dX9_carries_18 ?_
        refine j_iload_n (pc := 21) hX dX9_carries_21 3 rfl ?_
        refine j_iload (pc := 22) hX dX9_carries_22 5 rfl ?_
        refine j_iadd (pc := 24) hX dX9_carries_24 ?_
        refine j_topi (y := nI (o + j)) (nI_add _ _) ?_
        refine j_ialdN (pc := 25) (j := o + j) hX 2 rfl (by omega) (by omega) dX9_carries_25 ?_
        refine j_iastN (pc := 26) (j := j) (ws' := [(md, .inr (9, [.int (nI W), .int (nI H), .int t, .int (nI m), .int (nI k), .ref zc, .ref zr, .ref zb, .ref z1, .ref z2, .ref z3, .ref z4, .ref z5, .ref zm, .ref zmr, .ref zmb, .int mt, .ref zca, .ref zcw, .int (nI c), .ref zg, .ref zt, .ref zs, .ref zf, .ref zy, .ref zso, .ref zsf, .ref zsm, .int nt, .int nsh, .ref ztp, .ref zrw, .ref zpp, .int (nI tn), .int (nI pn), .int rdw, .int rdh, .ref zsz, .ref zit, .ref zk, .int (bI itk)])), (a, ia G n (upd g3 j (kp (o + j)))), (zk, ia G 66 kp)]) hX 1 rfl (by omega) (by omega) rfl dX9_carries_26 ?_
        refine j_goto (pc := 27) (tgt := 43) hX dX9_carries_27 (by decide) ?_
        refine j_iinc (pc := 43) (q := 5) (v := nI (j + 1)) (lv' := [(5, .int (nI (j + 1))), (0, .ref md), (1, .ref a), (2, .int (nI n)), (3, .int (nI o)), (4, .int (nI 1))]) hX dX9_carries_43 rfl (nI_inc _ 1) (by decide) rfl ?_
        refine j_goto (pc := 46) (tgt := 3) hX dX9_carries_46 (by decide) ?_
        refine j_lv [1, 2, 3, 4, 5, 0] (lv' := [(0, .ref md), (1, .ref a), (2, .int (nI n)), (3, .int (nI o)), (4, .int (nI 1)), (5, .int (nI (j + 1)))]) rfl ?_
        exact ih3 (j + 1) (upd g3 j (kp (o + j))) (by omega) (fun z hz => by unfold upd; split; (rename_i e; rw [e]); exact h3 z (by omega)) (by omega)
  refine j_lv [1, 2, 3, 4, 5, 0] (lv' := [(0, .ref md), (1, .ref a), (2, .int (nI n)), (3, .int (nI o)), (4, .int (nI 1)), (5, .int (nI 0))]) rfl ?_
  exact L3 ((n - 0) + 1) 0 gA (by omega) (fun z hz => absurd hz (Nat.not_lt_zero _)) (Nat.lt_succ_self _)
set_option maxHeartbeats 4000000 in
set_option maxRecDepth 100000 in
theorem c_X9_carries_out (G : GT) (md : Nat) (W : Nat) (H : Nat) (t : Int32) (m : Nat) (k : Nat) (zc : Nat) (zr : Nat) (zb : Nat) (z1 : Nat) (z2 : Nat) (z3 : Nat) (z4 : Nat) (z5 : Nat) (zm : Nat) (zmr : Nat) (zmb : Nat) (mt : Int32) (zca : Nat) (zcw : Nat) (c : Nat) (zg : Nat) (zt : Nat) (zs : Nat) (zf : Nat) (zy : Nat) (zso : Nat) (zsf : Nat) (zsm : Nat) (nt : Int32) (nsh : Int32) (ztp : Nat) (zrw : Nat) (zpp : Nat) (tn : Nat) (pn : Nat) (rdw : Int32) (rdh : Int32) (zsz : Nat) (zit : Nat) (zk : Nat) (itk : Bool) (gA : Nat → Int32) (kp : Nat → Int32) (a n o : Nat) (hn : n ≤ 16) (ho : o + n ≤ 66) (l : Launch) : CT l G yX9_carries cX9_carries 6 (some .int) { frames := 0, cells := 0, slots := 0, locals := 0 } [.ref md, .ref a, .int (nI n), .int (nI o), .int (nI 0)] [(md, .inr (9, [.int (nI W), .int (nI H), .int t, .int (nI m), .int (nI k), .ref zc, .ref zr, .ref zb, .ref z1, .ref z2, .ref z3, .ref z4, .ref z5, .ref zm, .ref zmr, .ref zmb, .int mt, .ref zca, .ref zcw, .int (nI c), .ref zg, .ref zt, .ref zs, .ref zf, .ref zy, .ref zso, .ref zsf, .ref zsm, .int nt, .int nsh, .ref ztp, .ref zrw, .ref zpp, .int (nI tn), .int (nI pn), .int rdw, .int rdh, .ref zsz, .ref zit, .ref zk, .int (bI itk)])), (a, ia G n gA), (zk, ia G 66 kp)] (fun vv ww => vv = some (.int (nI (o + n))) ∧ ww = [(md, .inr (9, [.int (nI W), .int (nI H), .int t, .int (nI m), .int (nI k), .ref zc, .ref zr, .ref zb, .ref z1, .ref z2, .ref z3, .ref z4, .ref z5, .ref zm, .ref zmr, .ref zmb, .int mt, .ref zca, .ref zcw, .int (nI c), .ref zg, .ref zt, .ref zs, .ref zf, .ref zy, .ref zso, .ref zsf, .ref zsm, .int nt, .int nsh, .ref ztp, .ref zrw, .ref zpp, .int (nI tn), .int (nI pn), .int rdw, .int rdh, .ref zsz, .ref zit, .ref zk, .int (bI itk)])), (a, ia G n gA), (zk, ia G 66 (fun z => if o ≤ z ∧ z < o + n then gA (z - o) else kp z))]) := by
  refine CT.of (lv := [(0, .ref md), (1, .ref a), (2, .int (nI n)), (3, .int (nI o)), (4, .int (nI 0))]) RX9 "carries" rfl rfl (by decide +kernel) (Nat.le_of_ble_eq_true rfl) rfl (fun X hX hR => ?_)
  refine j_iconstN (pc := 0) (j := 0) hX dX9_carries_0 rfl ?_
  refine j_istore (pc := 1) (lv' := [(5, .int (nI 0)), (0, .ref md), (1, .ref a), (2, .int (nI n)), (3, .int (nI o)), (4, .int (nI 0))]) hX dX9_carries_1 (by decide) rfl ?_
  have L3 : ∀ (m3 : Nat) (j : Nat) (k3 : Nat → Int32) (hj : j ≤ n) (h3 : ∀ z, k3 z = (if o ≤ z ∧ z < o + j then gA (z - o) else kp z)), n - j < m3 → J X G 6 0 0 [(md, .inr (9, [.int (nI W), .int (nI H), .int t, .int (nI m), .int (nI k), .ref zc, .ref zr, .ref zb, .ref z1, .ref z2, .ref z3, .ref z4, .ref z5, .ref zm, .ref zmr, .ref zmb, .int mt, .ref zca, .ref zcw, .int (nI c), .ref zg, .ref zt, .ref zs, .ref zf, .ref zy, .ref zso, .ref zsf, .ref zsm, .int nt, .int nsh, .ref ztp, .ref zrw, .ref zpp, .int (nI tn), .int (nI pn), .int rdw, .int rdh, .ref zsz, .ref zit, .ref zk, .int (bI itk)])), (a, ia G n gA), (zk, ia G 66 k3)] [(0, .ref md), (1, .ref a), (2, .int (nI n)), (3, .int (nI o)), (4, .int (nI 0)), (5, .int (nI j))] 3 [] := by
    intro m3
    induction m3 with
    | zero => intro j k3 hj h3 hm3; exact absurd hm3 (Nat.not_lt_zero _)
    | succ m3 ih3 =>
      intro j k3 hj h3 hm3
      refine j_iload (pc := 3) hX dX9_carries_3 5 rfl ?_
      refine j_iload_n (pc := 5) hX dX9_carries_5 2 rfl ?_
      refine j_icmp_ge (pc := 6) (tgt := 49) hX dX9_carries_6 (by decide) (nI_toInt (n := j) (by omega)) (nI_toInt (n := n) (by omega)) (fun c6 => ?_) (fun c6 => ?_)
      · skip
        refine j_iload_n (pc := 49) hX dX9_carries_49 3 rfl ?_
        refine j_iload_n (pc := 50) hX dX9_carries_50 2 rfl ?_
        refine j_iadd (pc := 51) hX dX9_carries_51 ?_
        refine j_topi (y := nI (o + n)) (nI_add _ _) ?_
        refine j_ia (q0 := 2) (f := k3) (g := fun z => if o ≤ z ∧ z < o + n then gA (z - o) else kp z) rfl (fun z hz => by rw [h3 z, show j = n from by omega]) (ws' := [(md, .inr (9, [.int (nI W), .int (nI H), .int t, .int (nI m), .int (nI k), .ref zc, .ref zr, .ref zb, .ref z1, .ref z2, .ref z3, .ref z4, .ref z5, .ref zm, .ref zmr, .ref zmb, .int mt, .ref zca, .ref zcw, .int (nI c), .ref zg, .ref zt, .ref zs, .ref zf, .ref zy, .ref zso, .ref zsf, .ref zsm, .int nt, .int nsh, .ref ztp, .ref zrw, .ref zpp, .int (nI tn), .int (nI pn), .int rdw, .int rdh, .ref zsz, .ref zit, .ref zk, .int (bI itk)])), (a, ia G n gA), (zk, ia G 66 (fun z => if o ≤ z ∧ z < o + n then gA (z - o) else kp z))]) rfl ?_
        exact j_iret (pc := 52) hX hR dX9_carries_52 ⟨rfl, rfl⟩
      · skip
        refine j_iload (pc := 9) hX dX9_carries_9 4 rfl ?_
        refine j_if_eq (pc := 11) (tgt := 30) hX dX9_carries_11 (by decide) (nI_toInt (n := 0) (by decide)) (fun c11 => ?_) (fun c11 => absurd c11 (by decide))
        refine j_aload_n (pc := 30) hX dX9_carries_30 0 rfl ?_
        refine j_get (pc := 31) hX f_RX9_98 0 rfl rfl dX9_carries_31 ?_
        refine j_iload_n (pc := 34) hX dX9_carries_34 3 rfl ?_
        refine j_iload (pc := 35) hX dX9_carries_35 5 rfl ?_
        refine j_iadd (pc := 37) hX dX9_carries_37 ?_
        refine j_topi (y := nI (o + j)) (nI_add _ _) ?_
        refine j_aload_n (pc := 38) hX dX9_carries_38 1 rfl ?_
        refine j_iload (pc := 39) hX dX9_carries_39 5 rfl ?_
        refine j_ialdN (pc := 41) (j := j) hX 1 rfl (by omega) (by omega) dX9_carries_41 ?_
        refine j_iastN (pc := 42) (j := o + j) (ws' := [(md, .inr (9, [.int (nI W), .int (nI H), .int t, .int (nI m), .int (nI k), .ref zc, .ref zr, .ref zb, .ref z1, .ref z2, .ref z3, .ref z4, .ref z5, .ref zm, .ref zmr, .ref zmb, .int mt, .ref zca, .ref zcw, .int (nI c), .ref zg, .ref zt, .ref zs, .ref zf, .ref zy, .ref zso, .ref zsf, .ref zsm, .int nt, .int nsh, .ref ztp, .ref zrw, .ref zpp, .int (nI tn), .int (nI pn), .int rdw, .int rdh, .ref zsz, .ref zit, .ref zk, .int (bI itk)])), (a, ia G n gA), (zk, ia G 66 (upd k3 (o + j) (gA j)))]) hX 2 rfl (by omega) (by omega) rfl dX9_carries_42 ?_
        refine j_iinc (pc := 43) (q := 5) (v := nI (j + 1)) (lv' := [(5, .int (nI (j + 1))), (0, .ref md), (1, .ref a), (2, .int (nI n)), (3, .int (nI o)), (4, .int (nI 0))]) hX dX9_carries_43 rfl (nI_inc _ 1) (by decide) rfl ?_
        refine j_goto (pc := 46) (tgt := 3) hX dX9_carries_46 (by decide) ?_
        refine j_lv [1, 2, 3, 4, 5, 0] (lv' := [(0, .ref md), (1, .ref a), (2, .int (nI n)), (3, .int (nI o)), (4, .int (nI 0)), (5, .int (nI (j + 1)))]) rfl ?_
        exact ih3 (j + 1) (upd k3 (o + j) (gA j)) (by omega) (fun z => by unfold upd; split; (rename_i e; rw [e, if_pos (by omega), show o + j - o = j from by omega]); (rw [h3 z]; by_cases q : o ≤ z ∧ z < o + j; (rw [if_pos q, if_pos (by omega)]); (rw [if_neg q, if_neg (by omega)]))) (by omega)
  refine j_lv [1, 2, 3, 4, 5, 0] (lv' := [(0, .ref md), (1, .ref a), (2, .int (nI n)), (3, .int (nI o)), (4, .int (nI 0)), (5, .int (nI 0))]) rfl ?_
  exact L3 ((n - 0) + 1) 0 kp (by omega) (fun z => by rw [if_neg (by omega)]) (Nat.lt_succ_self _)
set_option maxHeartbeats 4000000 in
set_option maxRecDepth 100000 in
theorem c_X9_carriesAll_out (G : GT) (md : Nat) (W : Nat) (H : Nat) (t : Int32) (m : Nat) (k : Nat) (zc : Nat) (zr : Nat) (zb : Nat) (z1 : Nat) (z2 : Nat) (z3 : Nat) (z4 : Nat) (z5 : Nat) (zm : Nat) (zmr : Nat) (zmb : Nat) (mt : Int32) (zca : Nat) (zcw : Nat) (c : Nat) (zg : Nat) (zt : Nat) (zs : Nat) (zf : Nat) (zy : Nat) (zso : Nat) (zsf : Nat) (zsm : Nat) (nt : Int32) (nsh : Int32) (ztp : Nat) (zrw : Nat) (zpp : Nat) (tn : Nat) (pn : Nat) (rdw : Int32) (rdh : Int32) (zsz : Nat) (zit : Nat) (zk : Nat) (itk : Bool) (f : Nat → Int32) (p : Nat → Nat) (s0 : Nat → Int32) (s1 : Nat → Nat) (s2 : Nat → Int32) (e0 : Nat → Nat) (e1 : Nat → Nat) (kp : Nat → Int32) (hk : ∀ z, z < 5 → kp z = kpF W H t m k f p s0 s1 s2 e0 e1 z) (l : Launch) : CT l G yX9_carriesAll cX9_carriesAll 4 none { frames := 1, cells := 0, slots := 0, locals := 25 } [.ref md, .int (nI 0)] [(md, .inr (9, [.int (nI W), .int (nI H), .int t, .int (nI m), .int (nI k), .ref zc, .ref zr, .ref zb, .ref z1, .ref z2, .ref z3, .ref z4, .ref z5, .ref zm, .ref zmr, .ref zmb, .int mt, .ref zca, .ref zcw, .int (nI c), .ref zg, .ref zt, .ref zs, .ref zf, .ref zy, .ref zso, .ref zsf, .ref zsm, .int nt, .int nsh, .ref ztp, .ref zrw, .ref zpp, .int (nI tn), .int (nI pn), .int rdw, .int rdh, .ref zsz, .ref zit, .ref zk, .int (bI itk)])), (zc, ia G 16 f), (zr, ia G 16 (fun ι => nI (p ι))), (z1, ia G 5 s0), (z2, ia G 5 (fun ι => nI (s1 ι))), (z3, ia G 5 s2), (z4, ia G 8 (fun ι => nI (e0 ι))), (z5, ia G 8 (fun ι => nI (e1 ι))), (zk, ia G 66 kp)] (fun vv ww => ∃ (kp2 : Nat → Int32), vv = none ∧ ww = [(md, .inr (9, [.int (nI W), .int (nI H), .int t, .int (nI m), .int (nI k), .ref zc, .ref zr, .ref zb, .ref z1, .ref z2, .ref z3, .ref z4, .ref z5, .ref zm, .ref zmr, .ref zmb, .int mt, .ref zca, .ref zcw, .int (nI c), .ref zg, .ref zt, .ref zs, .ref zf, .ref zy, .ref zso, .ref zsf, .ref zsm, .int nt, .int nsh, .ref ztp, .ref zrw, .ref zpp, .int (nI tn), .int (nI pn), .int rdw, .int rdh, .ref zsz, .ref zit, .ref zk, .int (bI itk)])), (zc, ia G 16 f), (zr, ia G 16 (fun ι => nI (p ι))), (z1, ia G 5 s0), (z2, ia G 5 (fun ι => nI (s1 ι))), (z3, ia G 5 s2), (z4, ia G 8 (fun ι => nI (e0 ι))), (z5, ia G 8 (fun ι => nI (e1 ι))), (zk, ia G 66 kp2)] ∧ (∀ z, z < 60 → kp2 z = kpF W H t m k f p s0 s1 s2 e0 e1 z)) := by
  refine CT.of (lv := [(0, .ref md), (1, .int (nI 0))]) RX9 "carriesAll" rfl rfl (by decide +kernel) (Nat.le_of_ble_eq_true rfl) rfl (fun X hX hR => ?_)
  refine j_aload_n (pc := 0) hX dX9_carriesAll_0 0 rfl ?_
  refine j_aload_n (pc := 1) hX dX9_carriesAll_1 0 rfl ?_
  refine j_get (pc := 2) hX f_RX9_18 0 rfl rfl dX9_carriesAll_2 ?_
  refine j_bipush (pc := 5) (v := nI 16) hX dX9_carriesAll_5 (by decide) ?_
  refine j_iconstN (pc := 7) (j := 5) hX dX9_carriesAll_7 rfl ?_
  refine j_iload_n (pc := 8) hX dX9_carriesAll_8 1 rfl ?_
  refine j_callV (pc := 9) hX kX9_carries kVX9_carries l_RX9_288 (fun l => c_X9_carries_out G md W H t m k zc zr zb z1 z2 z3 z4 z5 zm zmr zmb mt zca zcw c zg zt zs zf zy zso zsf zsm nt nsh ztp zrw zpp tn pn rdw rdh zsz zit zk itk f kp zc 16 5 (by omega) (by omega) l) [0, 1, 8] [2, 3, 4, 5, 6, 7] [] rfl 0 9 rfl rfl rfl rfl rfl rfl ⟨rfl, rfl, by decide⟩ rfl rfl (Nat.le_of_ble_eq_true rfl) dX9_carriesAll_9 (fun v w hq => ?_)
  obtain ⟨rfl, rfl⟩ := hq
  refine j_ws [6, 7, 0, 1, 2, 3, 4, 5, 8] (ws' := [(md, .inr (9, [.int (nI W), .int (nI H), .int t, .int (nI m), .int (nI k), .ref zc, .ref zr, .ref zb, .ref z1, .ref z2, .ref z3, .ref z4, .ref z5, .ref zm, .ref zmr, .ref zmb, .int mt, .ref zca, .ref zcw, .int (nI c), .ref zg, .ref zt, .ref zs, .ref zf, .ref zy, .ref zso, .ref zsf, .ref zsm, .int nt, .int nsh, .ref ztp, .ref zrw, .ref zpp, .int (nI tn), .int (nI pn), .int rdw, .int rdh, .ref zsz, .ref zit, .ref zk, .int (bI itk)])), (zc, ia G 16 f), (zr, ia G 16 (fun ι => nI (p ι))), (z1, ia G 5 s0), (z2, ia G 5 (fun ι => nI (s1 ι))), (z3, ia G 5 s2), (z4, ia G 8 (fun ι => nI (e0 ι))), (z5, ia G 8 (fun ι => nI (e1 ι))), (zk, ia G 66 (fun z => if 5 ≤ z ∧ z < 5 + 16 then f (z - 5) else kp z))]) rfl rfl ?_
  refine j_istore_n (pc := 12) (lv' := [(2, .int (nI (5 + 16))), (0, .ref md), (1, .int (nI 0))]) hX dX9_carriesAll_12 (by decide) rfl ?_
  refine j_aload_n (pc := 13) hX dX9_carriesAll_13 1 rfl ?_
  refine j_aload_n (pc := 14) hX dX9_carriesAll_14 1 rfl ?_
  refine j_get (pc := 15) hX f_RX9_22 0 rfl rfl dX9_carriesAll_15 ?_
  refine j_bipush (pc := 18) (v := nI 16) hX dX9_carriesAll_18 (by decide) ?_
  refine j_iload_n (pc := 20) hX dX9_carriesAll_20 0 rfl ?_
  refine j_iload_n (pc := 21) hX dX9_carriesAll_21 2 rfl ?_
  refine j_callV (pc := 22) hX kX9_carries kVX9_carries l_RX9_288 (fun l => c_X9_carries_out G md W H t m k zc zr zb z1 z2 z3 z4 z5 zm zmr zmb mt zca zcw c zg zt zs zf zy zso zsf zsm nt nsh ztp zrw zpp tn pn rdw rdh zsz zit zk itk (fun ι => nI (p ι)) (fun z => if 5 ≤ z ∧ z < 5 + 16 then f (z - 5) else kp z) zr 16 (5 + 16) (by omega) (by omega) l) [0, 2, 8] [1, 3, 4, 5, 6, 7] [] rfl 0 9 rfl rfl rfl rfl rfl rfl ⟨rfl, rfl, by decide⟩ rfl rfl (Nat.le_of_ble_eq_true rfl) dX9_carriesAll_22 (fun v w hq => ?_)
  obtain ⟨rfl, rfl⟩ := hq
  refine j_ws [6, 0, 7, 1, 2, 3, 4, 5, 8] (ws' := [(md, .inr (9, [.int (nI W), .int (nI H), .int t, .int (nI m), .int (nI k), .ref zc, .ref zr, .ref zb, .ref z1, .ref z2, .ref z3, .ref z4, .ref z5, .ref zm, .ref zmr, .ref zmb, .int mt, .ref zca, .ref zcw, .int (nI c), .ref zg, .ref zt, .ref zs, .ref zf, .ref zy, .ref zso, .ref zsf, .ref zsm, .int nt, .int nsh, .ref ztp, .ref zrw, .ref zpp, .int (nI tn), .int (nI pn), .int rdw, .int rdh, .ref zsz, .ref zit, .ref zk, .int (bI itk)])), (zc, ia G 16 f), (zr, ia G 16 (fun ι => nI (p ι))), (z1, ia G 5 s0), (z2, ia G 5 (fun ι => nI (s1 ι))), (z3, ia G 5 s2), (z4, ia G 8 (fun ι => nI (e0 ι))), (z5, ia G 8 (fun ι => nI (e1 ι))), (zk, ia G 66 (fun z => if (5 + 16) ≤ z ∧ z < (5 + 16) + 16 then (fun ι => nI (p ι)) (z - (5 + 16)) else (fun z => if 5 ≤ z ∧ z < 5 + 16 then f (z - 5) else kp z) z))]) rfl rfl ?_
  refine j_istore_n (pc := 25) (lv' := [(2, .int (nI ((5 + 16) + 16))), (0, .ref md), (1, .int (nI 0))]) hX dX9_carriesAll_25 (by decide) rfl ?_
  refine j_aload_n (pc := 26) hX dX9_carriesAll_26 1 rfl ?_
  refine j_aload_n (pc := 27) hX dX9_carriesAll_27 1 rfl ?_
  refine j_get (pc := 28) hX f_RX9_28 0 rfl rfl dX9_carriesAll_28 ?_
  refine j_iconstN (pc := 31) (j := 5) hX dX9_carriesAll_31 rfl ?_
  refine j_iload_n (pc := 32) hX dX9_carriesAll_32 0 rfl ?_
  refine j_iload_n (pc := 33) hX dX9_carriesAll_33 2 rfl ?_
  refine j_callV (pc := 34) hX kX9_carries kVX9_carries l_RX9_288 (fun l => c_X9_carries_out G md W H t m k zc zr zb z1 z2 z3 z4 z5 zm zmr zmb mt zca zcw c zg zt zs zf zy zso zsf zsm nt nsh ztp zrw zpp tn pn rdw rdh zsz zit zk itk s0 (fun z => if (5 + 16) ≤ z ∧ z < (5 + 16) + 16 then (fun ι => nI (p ι)) (z - (5 + 16)) else (fun z => if 5 ≤ z ∧ z < 5 + 16 then f (z - 5) else kp z) z) z1 5 ((5 + 16) + 16) (by omega) (by omega) l) [0, 3, 8] [1, 2, 4, 5, 6, 7] [] rfl 0 9 rfl rfl rfl rfl rfl rfl ⟨rfl, rfl, by decide⟩ rfl rfl (Nat.le_of_ble_eq_true rfl) dX9_carriesAll_34 (fun v w hq => ?_)
  obtain ⟨rfl, rfl⟩ := hq
  refine j_ws [6, 0, 1, 7, 2, 3, 4, 5, 8] (ws' := [(md, .inr (9, [.int (nI W), .int (nI H), .int t, .int (nI m), .int (nI k), .ref zc, .ref zr, .ref zb, .ref z1, .ref z2, .ref z3, .ref z4, .ref z5, .ref zm, .ref zmr, .ref zmb, .int mt, .ref zca, .ref zcw, .int (nI c), .ref zg, .ref zt, .ref zs, .ref zf, .ref zy, .ref zso, .ref zsf, .ref zsm, .int nt, .int nsh, .ref ztp, .ref zrw, .ref zpp, .int (nI tn), .int (nI pn), .int rdw, .int rdh, .ref zsz, .ref zit, .ref zk, .int (bI itk)])), (zc, ia G 16 f), (zr, ia G 16 (fun ι => nI (p ι))), (z1, ia G 5 s0), (z2, ia G 5 (fun ι => nI (s1 ι))), (z3, ia G 5 s2), (z4, ia G 8 (fun ι => nI (e0 ι))), (z5, ia G 8 (fun ι => nI (e1 ι))), (zk, ia G 66 (fun z => if ((5 + 16) + 16) ≤ z ∧ z < ((5 + 16) + 16) + 5 then s0 (z - ((5 + 16) + 16)) else (fun z => if (5 + 16) ≤ z ∧ z < (5 + 16) + 16 then (fun ι => nI (p ι)) (z - (5 + 16)) else (fun z => if 5 ≤ z ∧ z < 5 + 16 then f (z - 5) else kp z) z) z))]) rfl rfl ?_
  refine j_istore_n (pc := 37) (lv' := [(2, .int (nI (((5 + 16) + 16) + 5))), (0, .ref md), (1, .int (nI 0))]) hX dX9_carriesAll_37 (by decide) rfl ?_
  refine j_aload_n (pc := 38) hX dX9_carriesAll_38 1 rfl ?_
  refine j_aload_n (pc := 39) hX dX9_carriesAll_39 1 rfl ?_
  refine j_get (pc := 40) hX f_RX9_31 0 rfl rfl dX9_carriesAll_40 ?_
  refine j_iconstN (pc := 43) (j := 5) hX dX9_carriesAll_43 rfl ?_
  refine j_iload_n (pc := 44) hX dX9_carriesAll_44 0 rfl ?_
  refine j_iload_n (pc := 45) hX dX9_carriesAll_45 2 rfl ?_
  refine j_callV (pc := 46) hX kX9_carries kVX9_carries l_RX9_288 (fun l => c_X9_carries_out G md W H t m k zc zr zb z1 z2 z3 z4 z5 zm zmr zmb mt zca zcw c zg zt zs zf zy zso zsf zsm nt nsh ztp zrw zpp tn pn rdw rdh zsz zit zk itk (fun ι => nI (s1 ι)) (fun z => if ((5 + 16) + 16) ≤ z ∧ z < ((5 + 16) + 16) + 5 then s0 (z - ((5 + 16) + 16)) else (fun z => if (5 + 16) ≤ z ∧ z < (5 + 16) + 16 then (fun ι => nI (p ι)) (z - (5 + 16)) else (fun z => if 5 ≤ z ∧ z < 5 + 16 then f (z - 5) else kp z) z) z) z2 5 (((5 + 16) + 16) + 5) (by omega) (by omega) l) [0, 4, 8] [1, 2, 3, 5, 6, 7] [] rfl 0 9 rfl rfl rfl rfl rfl rfl ⟨rfl, rfl, by decide⟩ rfl rfl (Nat.le_of_ble_eq_true rfl) dX9_carriesAll_46 (fun v w hq => ?_)
  obtain ⟨rfl, rfl⟩ := hq
  refine j_ws [6, 0, 1, 2, 7, 3, 4, 5, 8] (ws' := [(md, .inr (9, [.int (nI W), .int (nI H), .int t, .int (nI m), .int (nI k), .ref zc, .ref zr, .ref zb, .ref z1, .ref z2, .ref z3, .ref z4, .ref z5, .ref zm, .ref zmr, .ref zmb, .int mt, .ref zca, .ref zcw, .int (nI c), .ref zg, .ref zt, .ref zs, .ref zf, .ref zy, .ref zso, .ref zsf, .ref zsm, .int nt, .int nsh, .ref ztp, .ref zrw, .ref zpp, .int (nI tn), .int (nI pn), .int rdw, .int rdh, .ref zsz, .ref zit, .ref zk, .int (bI itk)])), (zc, ia G 16 f), (zr, ia G 16 (fun ι => nI (p ι))), (z1, ia G 5 s0), (z2, ia G 5 (fun ι => nI (s1 ι))), (z3, ia G 5 s2), (z4, ia G 8 (fun ι => nI (e0 ι))), (z5, ia G 8 (fun ι => nI (e1 ι))), (zk, ia G 66 (fun z => if (((5 + 16) + 16) + 5) ≤ z ∧ z < (((5 + 16) + 16) + 5) + 5 then (fun ι => nI (s1 ι)) (z - (((5 + 16) + 16) + 5)) else (fun z => if ((5 + 16) + 16) ≤ z ∧ z < ((5 + 16) + 16) + 5 then s0 (z - ((5 + 16) + 16)) else (fun z => if (5 + 16) ≤ z ∧ z < (5 + 16) + 16 then (fun ι => nI (p ι)) (z - (5 + 16)) else (fun z => if 5 ≤ z ∧ z < 5 + 16 then f (z - 5) else kp z) z) z) z))]) rfl rfl ?_
  refine j_istore_n (pc := 49) (lv' := [(2, .int (nI ((((5 + 16) + 16) + 5) + 5))), (0, .ref md), (1, .int (nI 0))]) hX dX9_carriesAll_49 (by decide) rfl ?_
  refine j_aload_n (pc := 50) hX dX9_carriesAll_50 1 rfl ?_
  refine j_aload_n (pc := 51) hX dX9_carriesAll_51 1 rfl ?_
  refine j_get (pc := 52) hX f_RX9_34 0 rfl rfl dX9_carriesAll_52 ?_
  refine j_iconstN (pc := 55) (j := 5) hX dX9_carriesAll_55 rfl ?_
  refine j_iload_n (pc := 56) hX dX9_carriesAll_56 0 rfl ?_
  refine j_iload_n (pc := 57) hX dX9_carriesAll_57 2 rfl ?_
  refine j_callV (pc := 58) hX kX9_carries kVX9_carries l_RX9_288 (fun l => c_X9_carries_out G md W H t m k zc zr zb z1 z2 z3 z4 z5 zm zmr zmb mt zca zcw c zg zt zs zf zy zso zsf zsm nt nsh ztp zrw zpp tn pn rdw rdh zsz zit zk itk s2 (fun z => if (((5 + 16) + 16) + 5) ≤ z ∧ z < (((5 + 16) + 16) + 5) + 5 then (fun ι => nI (s1 ι)) (z - (((5 + 16) + 16) + 5)) else (fun z => if ((5 + 16) + 16) ≤ z ∧ z < ((5 + 16) + 16) + 5 then s0 (z - ((5 + 16) + 16)) else (fun z => if (5 + 16) ≤ z ∧ z < (5 + 16) + 16 then (fun ι => nI (p ι)) (z - (5 + 16)) else (fun z => if 5 ≤ z ∧ z < 5 + 16 then f (z - 5) else kp z) z) z) z) z3 5 ((((5 + 16) + 16) + 5) + 5) (by omega) (by omega) l) [0, 5, 8] [1, 2, 3, 4, 6, 7] [] rfl 0 9 rfl rfl rfl rfl rfl rfl ⟨rfl, rfl, by decide⟩ rfl rfl (Nat.le_of_ble_eq_true rfl) dX9_carriesAll_58 (fun v w hq => ?_)
  obtain ⟨rfl, rfl⟩ := hq
  refine j_ws [6, 0, 1, 2, 3, 7, 4, 5, 8] (ws' := [(md, .inr (9, [.int (nI W), .int (nI H), .int t, .int (nI m), .int (nI k), .ref zc, .ref zr, .ref zb, .ref z1, .ref z2, .ref z3, .ref z4, .ref z5, .ref zm, .ref zmr, .ref zmb, .int mt, .ref zca, .ref zcw, .int (nI c), .ref zg, .ref zt, .ref zs, .ref zf, .ref zy, .ref zso, .ref zsf, .ref zsm, .int nt, .int nsh, .ref ztp, .ref zrw, .ref zpp, .int (nI tn), .int (nI pn), .int rdw, .int rdh, .ref zsz, .ref zit, .ref zk, .int (bI itk)])), (zc, ia G 16 f), (zr, ia G 16 (fun ι => nI (p ι))), (z1, ia G 5 s0), (z2, ia G 5 (fun ι => nI (s1 ι))), (z3, ia G 5 s2), (z4, ia G 8 (fun ι => nI (e0 ι))), (z5, ia G 8 (fun ι => nI (e1 ι))), (zk, ia G 66 (fun z => if ((((5 + 16) + 16) + 5) + 5) ≤ z ∧ z < ((((5 + 16) + 16) + 5) + 5) + 5 then s2 (z - ((((5 + 16) + 16) + 5) + 5)) else (fun z => if (((5 + 16) + 16) + 5) ≤ z ∧ z < (((5 + 16) + 16) + 5) + 5 then (fun ι => nI (s1 ι)) (z - (((5 + 16) + 16) + 5)) else (fun z => if ((5 + 16) + 16) ≤ z ∧ z < ((5 + 16) + 16) + 5 then s0 (z - ((5 + 16) + 16)) else (fun z => if (5 + 16) ≤ z ∧ z < (5 + 16) + 16 then (fun ι => nI (p ι)) (z - (5 + 16)) else (fun z => if 5 ≤ z ∧ z < 5 + 16 then f (z - 5) else kp z) z) z) z) z))]) rfl rfl ?_
  refine j_pop (pc := 61) hX dX9_carriesAll_61 rfl ?_
  refine j_iconstN (pc := 62) (j := 0) hX dX9_carriesAll_62 rfl ?_
  refine j_istore_n (pc := 63) (lv' := [(3, .int (nI 0)), (2, .int (nI ((((5 + 16) + 16) + 5) + 5))), (0, .ref md), (1, .int (nI 0))]) hX dX9_carriesAll_63 (by decide) rfl ?_
  have L64 : ∀ (m64 : Nat) (j : Nat) (k4 : Nat → Int32) (hj : j ≤ 8) (hA : ∀ z, z < 52 + j → k4 z = kpF W H t m k f p s0 s1 s2 e0 e1 z), 8 - j < m64 → J X G 4 0 0 [(md, .inr (9, [.int (nI W), .int (nI H), .int t, .int (nI m), .int (nI k), .ref zc, .ref zr, .ref zb, .ref z1, .ref z2, .ref z3, .ref z4, .ref z5, .ref zm, .ref zmr, .ref zmb, .int mt, .ref zca, .ref zcw, .int (nI c), .ref zg, .ref zt, .ref zs, .ref zf, .ref zy, .ref zso, .ref zsf, .ref zsm, .int nt, .int nsh, .ref ztp, .ref zrw, .ref zpp, .int (nI tn), .int (nI pn), .int rdw, .int rdh, .ref zsz, .ref zit, .ref zk, .int (bI itk)])), (zc, ia G 16 f), (zr, ia G 16 (fun ι => nI (p ι))), (z1, ia G 5 s0), (z2, ia G 5 (fun ι => nI (s1 ι))), (z3, ia G 5 s2), (z4, ia G 8 (fun ι => nI (e0 ι))), (z5, ia G 8 (fun ι => nI (e1 ι))), (zk, ia G 66 k4)] [(0, .ref md), (1, .int (nI 0)), (2, .int (nI ((((5 + 16) + 16) + 5) + 5))), (3, .int (nI j))] 64 [] := by
    intro m64
    induction m64 with
    | zero => intro j k4 hj hA hm64; exact absurd hm64 (Nat.not_lt_zero _)
    | succ m64 ih64 =>
      intro j k4 hj hA hm64
      refine j_iload_n (pc := 64) hX dX9_carriesAll_64 3 rfl ?_
      refine j_bipush (pc := 65) (v := nI 8) hX dX9_carriesAll_65 (by decide) ?_
      refine j_icmp_ge (pc := 67) (tgt := 147) hX dX9_carriesAll_67 (by decide) (nI_toInt (n := j) (by omega)) (nI_toInt (n := 8) (by decide)) (fun c67 => ?_) (fun c67 => ?_)
      · skip
        exact j_vret (pc := 147) hX hR dX9_carriesAll_147 ⟨k4, rfl, rfl, (fun z hz => hA z (by omega))⟩
      · skip
        refine j_iload_n (pc := 70) hX dX9_carriesAll_70 1 rfl ?_
        refine j_if_eq (pc := 71) (tgt := 115) hX dX9_carriesAll_71 (by decide) (nI_toInt (n := 0) (by decide)) (fun c71 => ?_) (fun c71 => absurd c71 (by decide))
        refine j_aload_n (pc := 115) hX dX9_carriesAll_115 0 rfl ?_
        refine j_get (pc := 116) hX f_RX9_98 0 rfl rfl dX9_carriesAll_116 ?_
        refine j_bipush (pc := 119) (v := nI 52) hX dX9_carriesAll_119 (by decide) ?_
        refine j_iload_n (pc := 121) hX dX9_carriesAll_121 3 rfl ?_
        refine j_iadd (pc := 122) hX dX9_carriesAll_122 ?_
        refine j_topi (y := nI (52 + j)) (nI_add _ _) ?_
        refine j_sipush (pc := 123) (v := nI 10000) hX dX9_carriesAll_123 (by decide) ?_
        refine j_aload_n (pc := 126) hX dX9_carriesAll_126 0 rfl ?_
        refine j_get (pc := 127) hX f_RX9_37 0 rfl rfl dX9_carriesAll_127 ?_
        refine j_iload_n (pc := 130) hX dX9_carriesAll_130 3 rfl ?_
        refine j_ialdN (pc := 131) (j := j) hX 6 rfl (by omega) (by omega) dX9_carriesAll_131 ?_
        refine j_imul (pc := 132) hX dX9_carriesAll_132 ?_
        refine j_topi (y := nI (10000 * (e0 j))) (pk_mul _ _) ?_
        refine j_aload_n (pc := 133) hX dX9_carriesAll_133 0 rfl ?_
        refine j_get (pc := 134) hX f_RX9_40 0 rfl rfl dX9_carriesAll_134 ?_
        refine j_iload_n (pc := 137) hX dX9_carriesAll_137 3 rfl ?_
        refine j_ialdN (pc := 138) (j := j) hX 7 rfl (by omega) (by omega) dX9_carriesAll_138 ?_
        refine j_iadd (pc := 139) hX dX9_carriesAll_139 ?_
        refine j_topi (y := nI (10000 * (e0 j) + (e1 j))) (nI_add _ _) ?_
        refine j_iastN (pc := 140) (j := 52 + j) (ws' := [(md, .inr (9, [.int (nI W), .int (nI H), .int t, .int (nI m), .int (nI k), .ref zc, .ref zr, .ref zb, .ref z1, .ref z2, .ref z3, .ref z4, .ref z5, .ref zm, .ref zmr, .ref zmb, .int mt, .ref zca, .ref zcw, .int (nI c), .ref zg, .ref zt, .ref zs, .ref zf, .ref zy, .ref zso, .ref zsf, .ref zsm, .int nt, .int nsh, .ref ztp, .ref zrw, .ref zpp, .int (nI tn), .int (nI pn), .int rdw, .int rdh, .ref zsz, .ref zit, .ref zk, .int (bI itk)])), (zc, ia G 16 f), (zr, ia G 16 (fun ι => nI (p ι))), (z1, ia G 5 s0), (z2, ia G 5 (fun ι => nI (s1 ι))), (z3, ia G 5 s2), (z4, ia G 8 (fun ι => nI (e0 ι))), (z5, ia G 8 (fun ι => nI (e1 ι))), (zk, ia G 66 (upd k4 (52 + j) (nI (10000 * (e0 j) + (e1 j)))))]) hX 8 rfl (by omega) (by omega) rfl dX9_carriesAll_140 ?_
        refine j_iinc (pc := 141) (q := 3) (v := nI (j + 1)) (lv' := [(3, .int (nI (j + 1))), (0, .ref md), (1, .int (nI 0)), (2, .int (nI ((((5 + 16) + 16) + 5) + 5)))]) hX dX9_carriesAll_141 rfl (nI_inc _ 1) (by decide) rfl ?_
        refine j_goto (pc := 144) (tgt := 64) hX dX9_carriesAll_144 (by decide) ?_
        refine j_lv [1, 2, 3, 0] (lv' := [(0, .ref md), (1, .int (nI 0)), (2, .int (nI ((((5 + 16) + 16) + 5) + 5))), (3, .int (nI (j + 1)))]) rfl ?_
        exact ih64 (j + 1) (upd k4 (52 + j) (nI (10000 * (e0 j) + (e1 j)))) (by omega) (fun z hz => by unfold upd; split; (rename_i e; rw [e, kp_ev]); exact hA z (by omega)) (by omega)
  refine j_lv [2, 3, 1, 0] (lv' := [(0, .ref md), (1, .int (nI 0)), (2, .int (nI ((((5 + 16) + 16) + 5) + 5))), (3, .int (nI 0))]) rfl ?_
  exact L64 ((8 - 0) + 1) 0 (fun z => if ((((5 + 16) + 16) + 5) + 5) ≤ z ∧ z < ((((5 + 16) + 16) + 5) + 5) + 5 then s2 (z - ((((5 + 16) + 16) + 5) + 5)) else (fun z => if (((5 + 16) + 16) + 5) ≤ z ∧ z < (((5 + 16) + 16) + 5) + 5 then (fun ι => nI (s1 ι)) (z - (((5 + 16) + 16) + 5)) else (fun z => if ((5 + 16) + 16) ≤ z ∧ z < ((5 + 16) + 16) + 5 then s0 (z - ((5 + 16) + 16)) else (fun z => if (5 + 16) ≤ z ∧ z < (5 + 16) + 16 then (fun ι => nI (p ι)) (z - (5 + 16)) else (fun z => if 5 ≤ z ∧ z < 5 + 16 then f (z - 5) else kp z) z) z) z) z) (by omega) (fun z hz => kp_ent hk z (by omega)) (Nat.lt_succ_self _)
set_option maxHeartbeats 4000000 in
set_option maxRecDepth 100000 in
theorem c_X9_carriesAll_in (G : GT) (md : Nat) (W : Nat) (H : Nat) (t : Int32) (m : Nat) (k : Nat) (zc : Nat) (zr : Nat) (zb : Nat) (z1 : Nat) (z2 : Nat) (z3 : Nat) (z4 : Nat) (z5 : Nat) (zm : Nat) (zmr : Nat) (zmb : Nat) (mt : Int32) (zca : Nat) (zcw : Nat) (c : Nat) (zg : Nat) (zt : Nat) (zs : Nat) (zf : Nat) (zy : Nat) (zso : Nat) (zsf : Nat) (zsm : Nat) (nt : Int32) (nsh : Int32) (ztp : Nat) (zrw : Nat) (zpp : Nat) (tn : Nat) (pn : Nat) (rdw : Int32) (rdh : Int32) (zsz : Nat) (zit : Nat) (zk : Nat) (itk : Bool) (f : Nat → Int32) (r0f : Nat → Int32) (s0 : Nat → Int32) (s1f : Nat → Int32) (s2 : Nat → Int32) (e0f : Nat → Int32) (e1f : Nat → Int32) (kp : Nat → Int32) (WT HT : Nat) (tT : Int32) (mT kT : Nat) (fT : Nat → Int32) (pT : Nat → Nat) (s0T : Nat → Int32) (s1T : Nat → Nat) (s2T : Nat → Int32) (e0T e1T : Nat → Nat) (hkp : ∀ z, z < 60 → kp z = kpF WT HT tT mT kT fT pT s0T s1T s2T e0T e1T z) (he : ∀ j, j < 8 → e1T j < 10000 ∧ e0T j ≤ 2) (l : Launch) : CT l G yX9_carriesAll cX9_carriesAll 4 none { frames := 1, cells := 0, slots := 0, locals := 25 } [.ref md, .int (nI 1)] [(md, .inr (9, [.int (nI W), .int (nI H), .int t, .int (nI m), .int (nI k), .ref zc, .ref zr, .ref zb, .ref z1, .ref z2, .ref z3, .ref z4, .ref z5, .ref zm, .ref zmr, .ref zmb, .int mt, .ref zca, .ref zcw, .int (nI c), .ref zg, .ref zt, .ref zs, .ref zf, .ref zy, .ref zso, .ref zsf, .ref zsm, .int nt, .int nsh, .ref ztp, .ref zrw, .ref zpp, .int (nI tn), .int (nI pn), .int rdw, .int rdh, .ref zsz, .ref zit, .ref zk, .int (bI itk)])), (zc, ia G 16 f), (zr, ia G 16 r0f), (z1, ia G 5 s0), (z2, ia G 5 s1f), (z3, ia G 5 s2), (z4, ia G 8 e0f), (z5, ia G 8 e1f), (zk, ia G 66 kp)] (fun vv ww => vv = none ∧ ww = [(md, .inr (9, [.int (nI W), .int (nI H), .int t, .int (nI m), .int (nI k), .ref zc, .ref zr, .ref zb, .ref z1, .ref z2, .ref z3, .ref z4, .ref z5, .ref zm, .ref zmr, .ref zmb, .int mt, .ref zca, .ref zcw, .int (nI c), .ref zg, .ref zt, .ref zs, .ref zf, .ref zy, .ref zso, .ref zsf, .ref zsm, .int nt, .int nsh, .ref ztp, .ref zrw, .ref zpp, .int (nI tn), .int (nI pn), .int rdw, .int rdh, .ref zsz, .ref zit, .ref zk, .int (bI itk)])), (zc, ia G 16 fT), (zr, ia G 16 (fun ι => nI (pT ι))), (z1, ia G 5 s0T), (z2, ia G 5 (fun ι => nI (s1T ι))), (z3, ia G 5 s2T), (z4, ia G 8 (fun ι => nI (e0T ι))), (z5, ia G 8 (fun ι => nI (e1T ι))), (zk, ia G 66 kp)]) := by
  refine CT.of (lv := [(0, .ref md), (1, .int (nI 1))]) RX9 "carriesAll" rfl rfl (by decide +kernel) (Nat.le_of_ble_eq_true rfl) rfl (fun X hX hR => ?_)
  refine j_aload_n (pc := 0) hX dX9_carriesAll_0 0 rfl ?_
  refine j_aload_n (pc := 1) hX dX9_carriesAll_1 0 rfl ?_
  refine j_get (pc := 2) hX f_RX9_18 0 rfl rfl dX9_carriesAll_2 ?_
  refine j_bipush (pc := 5) (v := nI 16) hX dX9_carriesAll_5 (by decide) ?_
  refine j_iconstN (pc := 7) (j := 5) hX dX9_carriesAll_7 rfl ?_
  refine j_iload_n (pc := 8) hX dX9_carriesAll_8 1 rfl ?_
  refine j_callV (pc := 9) hX kX9_carries kVX9_carries l_RX9_288 (fun l => c_X9_carries_in G md W H t m k zc zr zb z1 z2 z3 z4 z5 zm zmr zmb mt zca zcw c zg zt zs zf zy zso zsf zsm nt nsh ztp zrw zpp tn pn rdw rdh zsz zit zk itk f kp zc 16 5 (by omega) (by omega) l) [0, 1, 8] [2, 3, 4, 5, 6, 7] [] rfl 0 9 rfl rfl rfl rfl rfl rfl ⟨rfl, rfl, by decide⟩ rfl rfl (Nat.le_of_ble_eq_true rfl) dX9_carriesAll_9 (fun v w hq => ?_)
  obtain ⟨rfl, rfl⟩ := hq
  refine j_ws [6, 7, 0, 1, 2, 3, 4, 5, 8] (ws' := [(md, .inr (9, [.int (nI W), .int (nI H), .int t, .int (nI m), .int (nI k), .ref zc, .ref zr, .ref zb, .ref z1, .ref z2, .ref z3, .ref z4, .ref z5, .ref zm, .ref zmr, .ref zmb, .int mt, .ref zca, .ref zcw, .int (nI c), .ref zg, .ref zt, .ref zs, .ref zf, .ref zy, .ref zso, .ref zsf, .ref zsm, .int nt, .int nsh, .ref ztp, .ref zrw, .ref zpp, .int (nI tn), .int (nI pn), .int rdw, .int rdh, .ref zsz, .ref zit, .ref zk, .int (bI itk)])), (zc, ia G 16 (fun z => kp (5 + z))), (zr, ia G 16 r0f), (z1, ia G 5 s0), (z2, ia G 5 s1f), (z3, ia G 5 s2), (z4, ia G 8 e0f), (z5, ia G 8 e1f), (zk, ia G 66 kp)]) rfl rfl ?_
  refine j_istore_n (pc := 12) (lv' := [(2, .int (nI (5 + 16))), (0, .ref md), (1, .int (nI 1))]) hX dX9_carriesAll_12 (by decide) rfl ?_
  refine j_aload_n (pc := 13) hX dX9_carriesAll_13 1 rfl ?_
  refine j_aload_n (pc := 14) hX dX9_carriesAll_14 1 rfl ?_
  refine j_get (pc := 15) hX f_RX9_22 0 rfl rfl dX9_carriesAll_15 ?_
  refine j_bipush (pc := 18) (v := nI 16) hX dX9_carriesAll_18 (by decide) ?_
  refine j_iload_n (pc := 20) hX dX9_carriesAll_20 0 rfl ?_
  refine j_iload_n (pc := 21) hX dX9_carriesAll_21 2 rfl ?_
  refine j_callV (pc := 22) hX kX9_carries kVX9_carries l_RX9_288 (fun l => c_X9_carries_in G md W H t m k zc zr zb z1 z2 z3 z4 z5 zm zmr zmb mt zca zcw c zg zt zs zf zy zso zsf zsm nt nsh ztp zrw zpp tn pn rdw rdh zsz zit zk itk r0f kp zr 16 (5 + 16) (by omega) (by omega) l) [0, 2, 8] [1, 3, 4, 5, 6, 7] [] rfl 0 9 rfl rfl rfl rfl rfl rfl ⟨rfl, rfl, by decide⟩ rfl rfl (Nat.le_of_ble_eq_true rfl) dX9_carriesAll_22 (fun v w hq => ?_)
  obtain ⟨rfl, rfl⟩ := hq
  refine j_ws [6, 0, 7, 1, 2, 3, 4, 5, 8] (ws' := [(md, .inr (9, [.int (nI W), .int (nI H), .int t, .int (nI m), .int (nI k), .ref zc, .ref zr, .ref zb, .ref z1, .ref z2, .ref z3, .ref z4, .ref z5, .ref zm, .ref zmr, .ref zmb, .int mt, .ref zca, .ref zcw, .int (nI c), .ref zg, .ref zt, .ref zs, .ref zf, .ref zy, .ref zso, .ref zsf, .ref zsm, .int nt, .int nsh, .ref ztp, .ref zrw, .ref zpp, .int (nI tn), .int (nI pn), .int rdw, .int rdh, .ref zsz, .ref zit, .ref zk, .int (bI itk)])), (zc, ia G 16 (fun z => kp (5 + z))), (zr, ia G 16 (fun z => kp ((5 + 16) + z))), (z1, ia G 5 s0), (z2, ia G 5 s1f), (z3, ia G 5 s2), (z4, ia G 8 e0f), (z5, ia G 8 e1f), (zk, ia G 66 kp)]) rfl rfl ?_
  refine j_istore_n (pc := 25) (lv' := [(2, .int (nI ((5 + 16) + 16))), (0, .ref md), (1, .int (nI 1))]) hX dX9_carriesAll_25 (by decide) rfl ?_
  refine j_aload_n (pc := 26) hX dX9_carriesAll_26 1 rfl ?_
  refine j_aload_n (pc := 27) hX dX9_carriesAll_27 1 rfl ?_
  refine j_get (pc := 28) hX f_RX9_28 0 rfl rfl dX9_carriesAll_28 ?_
  refine j_iconstN (pc := 31) (j := 5) hX dX9_carriesAll_31 rfl ?_
  refine j_iload_n (pc := 32) hX dX9_carriesAll_32 0 rfl ?_
  refine j_iload_n (pc := 33) hX dX9_carriesAll_33 2 rfl ?_
  refine j_callV (pc := 34) hX kX9_carries kVX9_carries l_RX9_288 (fun l => c_X9_carries_in G md W H t m k zc zr zb z1 z2 z3 z4 z5 zm zmr zmb mt zca zcw c zg zt zs zf zy zso zsf zsm nt nsh ztp zrw zpp tn pn rdw rdh zsz zit zk itk s0 kp z1 5 ((5 + 16) + 16) (by omega) (by omega) l) [0, 3, 8] [1, 2, 4, 5, 6, 7] [] rfl 0 9 rfl rfl rfl rfl rfl rfl ⟨rfl, rfl, by decide⟩ rfl rfl (Nat.le_of_ble_eq_true rfl) dX9_carriesAll_34 (fun v w hq => ?_)
  obtain ⟨rfl, rfl⟩ := hq
  refine j_ws [6, 0, 1, 7, 2, 3, 4, 5, 8] (ws' := [(md, .inr (9, [.int (nI W), .int (nI H), .int t, .int (nI m), .int (nI k), .ref zc, .ref zr, .ref zb, .ref z1, .ref z2, .ref z3, .ref z4, .ref z5, .ref zm, .ref zmr, .ref zmb, .int mt, .ref zca, .ref zcw, .int (nI c), .ref zg, .ref zt, .ref zs, .ref zf, .ref zy, .ref zso, .ref zsf, .ref zsm, .int nt, .int nsh, .ref ztp, .ref zrw, .ref zpp, .int (nI tn), .int (nI pn), .int rdw, .int rdh, .ref zsz, .ref zit, .ref zk, .int (bI itk)])), (zc, ia G 16 (fun z => kp (5 + z))), (zr, ia G 16 (fun z => kp ((5 + 16) + z))), (z1, ia G 5 (fun z => kp (((5 + 16) + 16) + z))), (z2, ia G 5 s1f), (z3, ia G 5 s2), (z4, ia G 8 e0f), (z5, ia G 8 e1f), (zk, ia G 66 kp)]) rfl rfl ?_
  refine j_istore_n (pc := 37) (lv' := [(2, .int (nI (((5 + 16) + 16) + 5))), (0, .ref md), (1, .int (nI 1))]) hX dX9_carriesAll_37 (by decide) rfl ?_
  refine j_aload_n (pc := 38) hX dX9_carriesAll_38 1 rfl ?_
  refine j_aload_n (pc := 39) hX dX9_carriesAll_39 1 rfl ?_
  refine j_get (pc := 40) hX f_RX9_31 0 rfl rfl dX9_carriesAll_40 ?_
  refine j_iconstN (pc := 43) (j := 5) hX dX9_carriesAll_43 rfl ?_
  refine j_iload_n (pc := 44) hX dX9_carriesAll_44 0 rfl ?_
  refine j_iload_n (pc := 45) hX dX9_carriesAll_45 2 rfl ?_
  refine j_callV (pc := 46) hX kX9_carries kVX9_carries l_RX9_288 (fun l => c_X9_carries_in G md W H t m k zc zr zb z1 z2 z3 z4 z5 zm zmr zmb mt zca zcw c zg zt zs zf zy zso zsf zsm nt nsh ztp zrw zpp tn pn rdw rdh zsz zit zk itk s1f kp z2 5 (((5 + 16) + 16) + 5) (by omega) (by omega) l) [0, 4, 8] [1, 2, 3, 5, 6, 7] [] rfl 0 9 rfl rfl rfl rfl rfl rfl ⟨rfl, rfl, by decide⟩ rfl rfl (Nat.le_of_ble_eq_true rfl) dX9_carriesAll_46 (fun v w hq => ?_)
  obtain ⟨rfl, rfl⟩ := hq
  refine j_ws [6, 0, 1, 2, 7, 3, 4, 5, 8] (ws' := [(md, .inr (9, [.int (nI W), .int (nI H), .int t, .int (nI m), .int (nI k), .ref zc, .ref zr, .ref zb, .ref z1, .ref z2, .ref z3, .ref z4, .ref z5, .ref zm, .ref zmr, .ref zmb, .int mt, .ref zca, .ref zcw, .int (nI c), .ref zg, .ref zt, .ref zs, .ref zf, .ref zy, .ref zso, .ref zsf, .ref zsm, .int nt, .int nsh, .ref ztp, .ref zrw, .ref zpp, .int (nI tn), .int (nI pn), .int rdw, .int rdh, .ref zsz, .ref zit, .ref zk, .int (bI itk)])), (zc, ia G 16 (fun z => kp (5 + z))), (zr, ia G 16 (fun z => kp ((5 + 16) + z))), (z1, ia G 5 (fun z => kp (((5 + 16) + 16) + z))), (z2, ia G 5 (fun z => kp ((((5 + 16) + 16) + 5) + z))), (z3, ia G 5 s2), (z4, ia G 8 e0f), (z5, ia G 8 e1f), (zk, ia G 66 kp)]) rfl rfl ?_
  refine j_istore_n (pc := 49) (lv' := [(2, .int (nI ((((5 + 16) + 16) + 5) + 5))), (0, .ref md), (1, .int (nI 1))]) hX dX9_carriesAll_49 (by decide) rfl ?_
  refine j_aload_n (pc := 50) hX dX9_carriesAll_50 1 rfl ?_
  refine j_aload_n (pc := 51) hX dX9_carriesAll_51 1 rfl ?_
  refine j_get (pc := 52) hX f_RX9_34 0 rfl rfl dX9_carriesAll_52 ?_
  refine j_iconstN (pc := 55) (j := 5) hX dX9_carriesAll_55 rfl ?_
  refine j_iload_n (pc := 56) hX dX9_carriesAll_56 0 rfl ?_
  refine j_iload_n (pc := 57) hX dX9_carriesAll_57 2 rfl ?_
  refine j_callV (pc := 58) hX kX9_carries kVX9_carries l_RX9_288 (fun l => c_X9_carries_in G md W H t m k zc zr zb z1 z2 z3 z4 z5 zm zmr zmb mt zca zcw c zg zt zs zf zy zso zsf zsm nt nsh ztp zrw zpp tn pn rdw rdh zsz zit zk itk s2 kp z3 5 ((((5 + 16) + 16) + 5) + 5) (by omega) (by omega) l) [0, 5, 8] [1, 2, 3, 4, 6, 7] [] rfl 0 9 rfl rfl rfl rfl rfl rfl ⟨rfl, rfl, by decide⟩ rfl rfl (Nat.le_of_ble_eq_true rfl) dX9_carriesAll_58 (fun v w hq => ?_)
  obtain ⟨rfl, rfl⟩ := hq
  refine j_ws [6, 0, 1, 2, 3, 7, 4, 5, 8] (ws' := [(md, .inr (9, [.int (nI W), .int (nI H), .int t, .int (nI m), .int (nI k), .ref zc, .ref zr, .ref zb, .ref z1, .ref z2, .ref z3, .ref z4, .ref z5, .ref zm, .ref zmr, .ref zmb, .int mt, .ref zca, .ref zcw, .int (nI c), .ref zg, .ref zt, .ref zs, .ref zf, .ref zy, .ref zso, .ref zsf, .ref zsm, .int nt, .int nsh, .ref ztp, .ref zrw, .ref zpp, .int (nI tn), .int (nI pn), .int rdw, .int rdh, .ref zsz, .ref zit, .ref zk, .int (bI itk)])), (zc, ia G 16 (fun z => kp (5 + z))), (zr, ia G 16 (fun z => kp ((5 + 16) + z))), (z1, ia G 5 (fun z => kp (((5 + 16) + 16) + z))), (z2, ia G 5 (fun z => kp ((((5 + 16) + 16) + 5) + z))), (z3, ia G 5 (fun z => kp (((((5 + 16) + 16) + 5) + 5) + z))), (z4, ia G 8 e0f), (z5, ia G 8 e1f), (zk, ia G 66 kp)]) rfl rfl ?_
  refine j_pop (pc := 61) hX dX9_carriesAll_61 rfl ?_
  refine j_iconstN (pc := 62) (j := 0) hX dX9_carriesAll_62 rfl ?_
  refine j_istore_n (pc := 63) (lv' := [(3, .int (nI 0)), (2, .int (nI ((((5 + 16) + 16) + 5) + 5))), (0, .ref md), (1, .int (nI 1))]) hX dX9_carriesAll_63 (by decide) rfl ?_
  have L64 : ∀ (m64 : Nat) (j : Nat) (a4 a5 : Nat → Int32) (hj : j ≤ 8) (h4 : ∀ z, z < j → a4 z = nI (e0T z)) (h5 : ∀ z, z < j → a5 z = nI (e1T z)), 8 - j < m64 → J X G 4 0 0 [(md, .inr (9, [.int (nI W), .int (nI H), .int t, .int (nI m), .int (nI k), .ref zc, .ref zr, .ref zb, .ref z1, .ref z2, .ref z3, .ref z4, .ref z5, .ref zm, .ref zmr, .ref zmb, .int mt, .ref zca, .ref zcw, .int (nI c), .ref zg, .ref zt, .ref zs, .ref zf, .ref zy, .ref zso, .ref zsf, .ref zsm, .int nt, .int nsh, .ref ztp, .ref zrw, .ref zpp, .int (nI tn), .int (nI pn), .int rdw, .int rdh, .ref zsz, .ref zit, .ref zk, .int (bI itk)])), (zc, ia G 16 (fun z => kp (5 + z))), (zr, ia G 16 (fun z => kp ((5 + 16) + z))), (z1, ia G 5 (fun z => kp (((5 + 16) + 16) + z))), (z2, ia G 5 (fun z => kp ((((5 + 16) + 16) + 5) + z))), (z3, ia G 5 (fun z => kp (((((5 + 16) + 16) + 5) + 5) + z))), (z4, ia G 8 a4), (z5, ia G 8 a5), (zk, ia G 66 kp)] [(0, .ref md), (1, .int (nI 1)), (2, .int (nI ((((5 + 16) + 16) + 5) + 5))), (3, .int (nI j))] 64 [] := by
    intro m64
    induction m64 with
    | zero => intro j a4 a5 hj h4 h5 hm64; exact absurd hm64 (Nat.not_lt_zero _)
    | succ m64 ih64 =>
      intro j a4 a5 hj h4 h5 hm64
      refine j_iload_n (pc := 64) hX dX9_carriesAll_64 3 rfl ?_
      refine j_bipush (pc := 65) (v := nI 8) hX dX9_carriesAll_65 (by decide) ?_
      refine j_icmp_ge (pc := 67) (tgt := 147) hX dX9_carriesAll_67 (by decide) (nI_toInt (n := j) (by omega)) (nI_toInt (n := 8) (by decide)) (fun c67 => ?_) (fun c67 => ?_)
      · skip
        refine j_ia (q0 := 1) (f := fun z => kp (5 + z)) (g := fT) rfl (fun z hz => by exact (hkp _ (by omega)).trans (kp_c hz)) (ws' := [(md, .inr (9, [.int (nI W), .int (nI H), .int t, .int (nI m), .int (nI k), .ref zc, .ref zr, .ref zb, .ref z1, .ref z2, .ref z3, .ref z4, .ref z5, .ref zm, .ref zmr, .ref zmb, .int mt, .ref zca, .ref zcw, .int (nI c), .ref zg, .ref zt, .ref zs, .ref zf, .ref zy, .ref zso, .ref zsf, .ref zsm, .int nt, .int nsh, .ref ztp, .ref zrw, .ref zpp, .int (nI tn), .int (nI pn), .int rdw, .int rdh, .ref zsz, .ref zit, .ref zk, .int (bI itk)])), (zc, ia G 16 fT), (zr, ia G 16 (fun z => kp ((5 + 16) + z))), (z1, ia G 5 (fun z => kp (((5 + 16) + 16) + z))), (z2, ia G 5 (fun z => kp ((((5 + 16) + 16) + 5) + z))), (z3, ia G 5 (fun z => kp (((((5 + 16) + 16) + 5) + 5) + z))), (z4, ia G 8 a4), (z5, ia G 8 a5), (zk, ia G 66 kp)]) rfl ?_
        refine j_ia (q0 := 2) (f := fun z => kp ((5 + 16) + z)) (g := fun ι => nI (pT ι)) rfl (fun z hz => by exact (hkp _ (by omega)).trans (kp_r hz)) (ws' := [(md, .inr (9, [.int (nI W), .int (nI H), .int t, .int (nI m), .int (nI k), .ref zc, .ref zr, .ref zb, .ref z1, .ref z2, .ref z3, .ref z4, .ref z5, .ref zm, .ref zmr, .ref zmb, .int mt, .ref zca, .ref zcw, .int (nI c), .ref zg, .ref zt, .ref zs, .ref zf, .ref zy, .ref zso, .ref zsf, .ref zsm, .int nt, .int nsh, .ref ztp, .ref zrw, .ref zpp, .int (nI tn), .int (nI pn), .int rdw, .int rdh, .ref zsz, .ref zit, .ref zk, .int (bI itk)])), (zc, ia G 16 fT), (zr, ia G 16 (fun ι => nI (pT ι))), (z1, ia G 5 (fun z => kp (((5 + 16) + 16) + z))), (z2, ia G 5 (fun z => kp ((((5 + 16) + 16) + 5) + z))), (z3, ia G 5 (fun z => kp (((((5 + 16) + 16) + 5) + 5) + z))), (z4, ia G 8 a4), (z5, ia G 8 a5), (zk, ia G 66 kp)]) rfl ?_
        refine j_ia (q0 := 3) (f := fun z => kp (((5 + 16) + 16) + z)) (g := s0T) rfl (fun z hz => by exact (hkp _ (by omega)).trans (kp_1 hz)) (ws' := [(md, .inr (9, [.int (nI W), .int (nI H), .int t, .int (nI m), .int (nI k), .ref zc, .ref zr, .ref zb, .ref z1, .ref z2, .ref z3, .ref z4, .ref z5, .ref zm, .ref zmr, .ref zmb, .int mt, .ref zca, .ref zcw, .int (nI c), .ref zg, .ref zt, .ref zs, .ref zf, .ref zy, .ref zso, .ref zsf, .ref zsm, .int nt, .int nsh, .ref ztp, .ref zrw, .ref zpp, .int (nI tn), .int (nI pn), .int rdw, .int rdh, .ref zsz, .ref zit, .ref zk, .int (bI itk)])), (zc, ia G 16 fT), (zr, ia G 16 (fun ι => nI (pT ι))), (z1, ia G 5 s0T), (z2, ia G 5 (fun z => kp ((((5 + 16) + 16) + 5) + z))), (z3, ia G 5 (fun z => kp (((((5 + 16) + 16) + 5) + 5) + z))), (z4, ia G 8 a4), (z5, ia G 8 a5), (zk, ia G 66 kp)]) rfl ?_
        refine j_ia (q0 := 4) (f := fun z => kp ((((5 + 16) + 16) + 5) + z)) (g := fun ι => nI (s1T ι)) rfl (fun z hz => by exact (hkp _ (by omega)).trans (kp_2 hz)) (ws' := [(md, .inr (9, [.int (nI W), .int (nI H), .int t, .int (nI m), .int (nI k), .ref zc, .ref zr, .ref zb, .ref z1, .ref z2, .ref z3, .ref z4, .ref z5, .ref zm, .ref zmr, .ref zmb, .int mt, .ref zca, .ref zcw, .int (nI c), .ref zg, .ref zt, .ref zs, .ref zf, .ref zy, .ref zso, .ref zsf, .ref zsm, .int nt, .int nsh, .ref ztp, .ref zrw, .ref zpp, .int (nI tn), .int (nI pn), .int rdw, .int rdh, .ref zsz, .ref zit, .ref zk, .int (bI itk)])), (zc, ia G 16 fT), (zr, ia G 16 (fun ι => nI (pT ι))), (z1, ia G 5 s0T), (z2, ia G 5 (fun ι => nI (s1T ι))), (z3, ia G 5 (fun z => kp (((((5 + 16) + 16) + 5) + 5) + z))), (z4, ia G 8 a4), (z5, ia G 8 a5), (zk, ia G 66 kp)]) rfl ?_
        refine j_ia (q0 := 5) (f := fun z => kp (((((5 + 16) + 16) + 5) + 5) + z)) (g := s2T) rfl (fun z hz => by exact (hkp _ (by omega)).trans (kp_3 hz)) (ws' := [(md, .inr (9, [.int (nI W), .int (nI H), .int t, .int (nI m), .int (nI k), .ref zc, .ref zr, .ref zb, .ref z1, .ref z2, .ref z3, .ref z4, .ref z5, .ref zm, .ref zmr, .ref zmb, .int mt, .ref zca, .ref zcw, .int (nI c), .ref zg, .ref zt, .ref zs, .ref zf, .ref zy, .ref zso, .ref zsf, .ref zsm, .int nt, .int nsh, .ref ztp, .ref zrw, .ref zpp, .int (nI tn), .int (nI pn), .int rdw, .int rdh, .ref zsz, .ref zit, .ref zk, .int (bI itk)])), (zc, ia G 16 fT), (zr, ia G 16 (fun ι => nI (pT ι))), (z1, ia G 5 s0T), (z2, ia G 5 (fun ι => nI (s1T ι))), (z3, ia G 5 s2T), (z4, ia G 8 a4), (z5, ia G 8 a5), (zk, ia G 66 kp)]) rfl ?_
        refine j_ia (q0 := 6) (f := a4) (g := fun ι => nI (e0T ι)) rfl (fun z hz => by exact h4 z (by omega)) (ws' := [(md, .inr (9, [.int (nI W), .int (nI H), .int t, .int (nI m), .int (nI k), .ref zc, .ref zr, .ref zb, .ref z1, .ref z2, .ref z3, .ref z4, .ref z5, .ref zm, .ref zmr, .ref zmb, .int mt, .ref zca, .ref zcw, .int (nI c), .ref zg, .ref zt, .ref zs, .ref zf, .ref zy, .ref zso, .ref zsf, .ref zsm, .int nt, .int nsh, .ref ztp, .ref zrw, .ref zpp, .int (nI tn), .int (nI pn), .int rdw, .int rdh, .ref zsz, .ref zit, .ref zk, .int (bI itk)])), (zc, ia G 16 fT), (zr, ia G 16 (fun ι => nI (pT ι))), (z1, ia G 5 s0T), (z2, ia G 5 (fun ι => nI (s1T ι))), (z3, ia G 5 s2T), (z4, ia G 8 (fun ι => nI (e0T ι))), (z5, ia G 8 a5), (zk, ia G 66 kp)]) rfl ?_
        refine j_ia (q0 := 7) (f := a5) (g := fun ι => nI (e1T ι)) rfl (fun z hz => by exact h5 z (by omega)) (ws' := [(md, .inr (9, [.int (nI W), .int (nI H), .int t, .int (nI m), .int (nI k), .ref zc, .ref zr, .ref zb, .ref z1, .ref z2, .ref z3, .ref z4, .ref z5, .ref zm, .ref zmr, .ref zmb, .int mt, .ref zca, .ref zcw, .int (nI c), .ref zg, .ref zt, .ref zs, .ref zf, .ref zy, .ref zso, .ref zsf, .ref zsm, .int nt, .int nsh, .ref ztp, .ref zrw, .ref zpp, .int (nI tn), .int (nI pn), .int rdw, .int rdh, .ref zsz, .ref zit, .ref zk, .int (bI itk)])), (zc, ia G 16 fT), (zr, ia G 16 (fun ι => nI (pT ι))), (z1, ia G 5 s0T), (z2, ia G 5 (fun ι => nI (s1T ι))), (z3, ia G 5 s2T), (z4, ia G 8 (fun ι => nI (e0T ι))), (z5, ia G 8 (fun ι => nI (e1T ι))), (zk, ia G 66 kp)]) rfl ?_
        exact j_vret (pc := 147) hX hR dX9_carriesAll_147 ⟨rfl, rfl⟩
      · skip
        refine j_iload_n (pc := 70) hX dX9_carriesAll_70 1 rfl ?_
        refine j_if_eq (pc := 71) (tgt := 115) hX dX9_carriesAll_71 (by decide) (nI_toInt (n := 1) (by decide)) (fun c71 => absurd c71 (by decide)) (fun c71 => ?_)
        have hej := he j (by omega)
        refine j_aload_n (pc := 74) hX dX9_carriesAll_74 0 rfl ?_
        refine j_get (pc := 75) hX f_RX9_37 0 rfl rfl dX9_carriesAll_75 ?_
        refine j_iload_n (pc := 78) hX dX9_carriesAll_78 3 rfl ?_
        refine j_aload_n (pc := 79) hX dX9_carriesAll_79 0 rfl ?_
        refine j_get (pc := 80) hX f_RX9_98 0 rfl rfl dX9_carriesAll_80 ?_
        refine j_bipush (pc := 83) (v := nI 52) hX dX9_carriesAll_83 (by decide) ?_
        refine j_iload_n (pc := 85) hX dX9_carriesAll_85 3 rfl ?_
        refine j_iadd (pc := 86) hX dX9_carriesAll_86 ?_
        refine j_topi (y := nI (52 + j)) (nI_add _ _) ?_
        refine j_ialdN (pc := 87) (j := 52 + j) hX 8 rfl (by omega) (by omega) dX9_carriesAll_87 ?_
        refine j_topi (y := nI (10000 * e0T j + e1T j)) ((hkp _ (by omega)).trans (kp_ev j)) ?_
        refine j_sipush (pc := 88) (v := nI 10000) hX dX9_carriesAll_88 (by decide) ?_
        refine j_idiv (pc := 91) hX dX9_carriesAll_91 (by decide) ?_
        refine j_topi (y := nI (e0T j)) (by rw [pk_div (by omega) (by omega) (by omega), show (10000 * e0T j + e1T j) / 10000 = e0T j from by omega]) ?_
        refine j_iastN (pc := 92) (j := j) (ws' := [(md, .inr (9, [.int (nI W), .int (nI H), .int t, .int (nI m), .int (nI k), .ref zc, .ref zr, .ref zb, .ref z1, .ref z2, .ref z3, .ref z4, .ref z5, .ref zm, .ref zmr, .ref zmb, .int mt, .ref zca, .ref zcw, .int (nI c), .ref zg, .ref zt, .ref zs, .ref zf, .ref zy, .ref zso, .ref zsf, .ref zsm, .int nt, .int nsh, .ref ztp, .ref zrw, .ref zpp, .int (nI tn), .int (nI pn), .int rdw, .int rdh, .ref zsz, .ref zit, .ref zk, .int (bI itk)])), (zc, ia G 16 (fun z => kp (5 + z))), (zr, ia G 16 (fun z => kp ((5 + 16) + z))), (z1, ia G 5 (fun z => kp (((5 + 16) + 16) + z))), (z2, ia G 5 (fun z => kp ((((5 + 16) + 16) + 5) + z))), (z3, ia G 5 (fun z => kp (((((5 + 16) + 16) + 5) + 5) + z))), (z4, ia G 8 (upd a4 j (nI (e0T j)))), (z5, ia G 8 a5), (zk, ia G 66 kp)]) hX 6 rfl (by omega) (by omega) rfl dX9_carriesAll_92 ?_
        refine j_aload_n (pc := 93) hX dX9_carriesAll_93 0 rfl ?_
        refine j_get (pc := 94) hX f_RX9_40 0 rfl rfl dX9_carriesAll_94 ?_
        refine j_iload_n (pc := 97) hX dX9_carriesAll_97 3 rfl ?_
        refine j_aload_n (pc := 98) hX dX9_carriesAll_98 0 rfl ?_
        refine j_get (pc := 99) hX f_RX9_98 0 rfl rfl dX9_carriesAll_99 ?_
        refine j_bipush (pc := 102) (v := nI 52) hX dX9_carriesAll_102 (by decide) ?_
        refine j_iload_n (pc := 104) hX dX9_carriesAll_104 3 rfl ?_
        refine j_iadd (pc := 105) hX dX9_carriesAll_105 ?_
        refine j_topi (y := nI (52 + j)) (nI_add _ _) ?_
        refine j_ialdN (pc := 106) (j := 52 + j) hX 8 rfl (by omega) (by omega) dX9_carriesAll_106 ?_
        refine j_topi (y := nI (10000 * e0T j + e1T j)) ((hkp _ (by omega)).trans (kp_ev j)) ?_
        refine j_sipush (pc := 107) (v := nI 10000) hX dX9_carriesAll_107 (by decide) ?_
        refine j_irem (pc := 110) hX dX9_carriesAll_110 (by decide) ?_
        refine j_topi (y := nI (e1T j)) (by rw [pk_rem (by omega) (by omega) (by omega), show (10000 * e0T j + e1T j) % 10000 = e1T j from by omega]) ?_
        refine j_iastN (pc := 111) (j := j) (ws' := [(md, .inr (9, [.int (nI W), .int (nI H), .int t, .int (nI m), .int (nI k), .ref zc, .ref zr, .ref zb, .ref z1, .ref z2, .ref z3, .ref z4, .ref z5, .ref zm, .ref zmr, .ref zmb, .int mt, .ref zca, .ref zcw, .int (nI c), .ref zg, .ref zt, .ref zs, .ref zf, .ref zy, .ref zso, .ref zsf, .ref zsm, .int nt, .int nsh, .ref ztp, .ref zrw, .ref zpp, .int (nI tn), .int (nI pn), .int rdw, .int rdh, .ref zsz, .ref zit, .ref zk, .int (bI itk)])), (zc, ia G 16 (fun z => kp (5 + z))), (zr, ia G 16 (fun z => kp ((5 + 16) + z))), (z1, ia G 5 (fun z => kp (((5 + 16) + 16) + z))), (z2, ia G 5 (fun z => kp ((((5 + 16) + 16) + 5) + z))), (z3, ia G 5 (fun z => kp (((((5 + 16) + 16) + 5) + 5) + z))), (z4, ia G 8 (upd a4 j (nI (e0T j)))), (z5, ia G 8 (upd a5 j (nI (e1T j)))), (zk, ia G 66 kp)]) hX 7 rfl (by omega) (by omega) rfl dX9_carriesAll_111 ?_
        refine j_goto (pc := 112) (tgt := 141) hX dX9_carriesAll_112 (by decide) ?_
        refine j_iinc (pc := 141) (q := 3) (v := nI (j + 1)) (lv' := [(3, .int (nI (j + 1))), (0, .ref md), (1, .int (nI 1)), (2, .int (nI ((((5 + 16) + 16) + 5) + 5)))]) hX dX9_carriesAll_141 rfl (nI_inc _ 1) (by decide) rfl ?_
        refine j_goto (pc := 144) (tgt := 64) hX dX9_carriesAll_144 (by decide) ?_
        refine j_lv [1, 2, 3, 0] (lv' := [(0, .ref md), (1, .int (nI 1)), (2, .int (nI ((((5 + 16) + 16) + 5) + 5))), (3, .int (nI (j + 1)))]) rfl ?_
        exact ih64 (j + 1) (upd a4 j (nI (e0T j))) (upd a5 j (nI (e1T j))) (by omega) (fun z hz => by unfold upd; split; (rename_i e; rw [e]); exact h4 z (by omega)) (fun z hz => by unfold upd; split; (rename_i e; rw [e]); exact h5 z (by omega)) (by omega)
  refine j_lv [2, 3, 1, 0] (lv' := [(0, .ref md), (1, .int (nI 1)), (2, .int (nI ((((5 + 16) + 16) + 5) + 5))), (3, .int (nI 0))]) rfl ?_
  exact L64 ((8 - 0) + 1) 0 e0f e1f (by omega) (fun z hz => absurd hz (Nat.not_lt_zero _)) (fun z hz => absurd hz (Nat.not_lt_zero _)) (Nat.lt_succ_self _)
set_option maxHeartbeats 4000000 in
set_option maxRecDepth 100000 in
theorem c_X9_image (G : GT) (md : Nat) (W : Nat) (H : Nat) (t : Int32) (m : Nat) (k : Nat) (zc : Nat) (zr : Nat) (zb : Nat) (z1 : Nat) (z2 : Nat) (z3 : Nat) (z4 : Nat) (z5 : Nat) (zm : Nat) (zmr : Nat) (zmb : Nat) (mt : Int32) (zca : Nat) (zcw : Nat) (c : Nat) (zg : Nat) (zt : Nat) (zs : Nat) (zf : Nat) (zy : Nat) (zso : Nat) (zsf : Nat) (zsm : Nat) (nt : Int32) (nsh : Int32) (ztp : Nat) (zrw : Nat) (zpp : Nat) (tn : Nat) (pn : Nat) (rdw : Int32) (rdh : Int32) (zsz : Nat) (zit : Nat) (zk : Nat) (itk : Bool) (f : Nat → Int32) (p : Nat → Nat) (s0 : Nat → Int32) (s1 : Nat → Nat) (s2 : Nat → Int32) (e0 : Nat → Nat) (e1 : Nat → Nat) (kp : Nat → Int32) (hW1 : 2 ≤ W) (hW2 : W ≤ 16) (hH1 : 2 ≤ H) (hH2 : H ≤ 16) (hf : ∀ y, rN (f y) < 65536) (l : Launch) : CT l G yX9_image cX9_image 1 (some .int) { frames := 2, cells := 0, slots := 0, locals := 48 } [.ref md] [(md, .inr (9, [.int (nI W), .int (nI H), .int t, .int (nI m), .int (nI k), .ref zc, .ref zr, .ref zb, .ref z1, .ref z2, .ref z3, .ref z4, .ref z5, .ref zm, .ref zmr, .ref zmb, .int mt, .ref zca, .ref zcw, .int (nI c), .ref zg, .ref zt, .ref zs, .ref zf, .ref zy, .ref zso, .ref zsf, .ref zsm, .int nt, .int nsh, .ref ztp, .ref zrw, .ref zpp, .int (nI tn), .int (nI pn), .int rdw, .int rdh, .ref zsz, .ref zit, .ref zk, .int (bI itk)])), (zc, ia G 16 f), (zr, ia G 16 (fun ι => nI (p ι))), (z1, ia G 5 s0), (z2, ia G 5 (fun ι => nI (s1 ι))), (z3, ia G 5 s2), (z4, ia G 8 (fun ι => nI (e0 ι))), (z5, ia G 8 (fun ι => nI (e1 ι))), (zk, ia G 66 kp)] (fun vv ww => ∃ (kp2 : Nat → Int32), vv = some (.int (nI (cnt f H))) ∧ ww = [(md, .inr (9, [.int (nI W), .int (nI H), .int t, .int (nI m), .int (nI k), .ref zc, .ref zr, .ref zb, .ref z1, .ref z2, .ref z3, .ref z4, .ref z5, .ref zm, .ref zmr, .ref zmb, .int mt, .ref zca, .ref zcw, .int (nI c), .ref zg, .ref zt, .ref zs, .ref zf, .ref zy, .ref zso, .ref zsf, .ref zsm, .int nt, .int nsh, .ref ztp, .ref zrw, .ref zpp, .int (nI tn), .int (nI pn), .int rdw, .int rdh, .ref zsz, .ref zit, .ref zk, .int (nI 1)])), (zc, ia G 16 f), (zr, ia G 16 (fun ι => nI (p ι))), (z1, ia G 5 s0), (z2, ia G 5 (fun ι => nI (s1 ι))), (z3, ia G 5 s2), (z4, ia G 8 (fun ι => nI (e0 ι))), (z5, ia G 8 (fun ι => nI (e1 ι))), (zk, ia G 66 kp2)] ∧ (∀ z, z < 60 → kp2 z = kpF W H t m k f p s0 s1 s2 e0 e1 z)) := by
  refine CT.of (lv := [(0, .ref md)]) RX9 "image" rfl rfl (by decide +kernel) (Nat.le_of_ble_eq_true rfl) rfl (fun X hX hR => ?_)
  refine j_aload_n (pc := 0) hX dX9_image_0 0 rfl ?_
  refine j_get (pc := 1) hX f_RX9_98 0 rfl rfl dX9_image_1 ?_
  refine j_iconstN (pc := 4) (j := 0) hX dX9_image_4 rfl ?_
  refine j_aload_n (pc := 5) hX dX9_image_5 0 rfl ?_
  refine j_get (pc := 6) hX f_RX9_9 0 rfl rfl dX9_image_6 ?_
  refine j_iastN (pc := 9) (j := 0) (ws' := [(md, .inr (9, [.int (nI W), .int (nI H), .int t, .int (nI m), .int (nI k), .ref zc, .ref zr, .ref zb, .ref z1, .ref z2, .ref z3, .ref z4, .ref z5, .ref zm, .ref zmr, .ref zmb, .int mt, .ref zca, .ref zcw, .int (nI c), .ref zg, .ref zt, .ref zs, .ref zf, .ref zy, .ref zso, .ref zsf, .ref zsm, .int nt, .int nsh, .ref ztp, .ref zrw, .ref zpp, .int (nI tn), .int (nI pn), .int rdw, .int rdh, .ref zsz, .ref zit, .ref zk, .int (bI itk)])), (zc, ia G 16 f), (zr, ia G 16 (fun ι => nI (p ι))), (z1, ia G 5 s0), (z2, ia G 5 (fun ι => nI (s1 ι))), (z3, ia G 5 s2), (z4, ia G 8 (fun ι => nI (e0 ι))), (z5, ia G 8 (fun ι => nI (e1 ι))), (zk, ia G 66 (upd kp 0 (nI W)))]) hX 8 rfl (by omega) (by omega) rfl dX9_image_9 ?_
  refine j_aload_n (pc := 10) hX dX9_image_10 0 rfl ?_
  refine j_get (pc := 11) hX f_RX9_98 0 rfl rfl dX9_image_11 ?_
  refine j_iconstN (pc := 14) (j := 1) hX dX9_image_14 rfl ?_
  refine j_aload_n (pc := 15) hX dX9_image_15 0 rfl ?_
  refine j_get (pc := 16) hX f_RX9_15 0 rfl rfl dX9_image_16 ?_
  refine j_iastN (pc := 19) (j := 1) (ws' := [(md, .inr (9, [.int (nI W), .int (nI H), .int t, .int (nI m), .int (nI k), .ref zc, .ref zr, .ref zb, .ref z1, .ref z2, .ref z3, .ref z4, .ref z5, .ref zm, .ref zmr, .ref zmb, .int mt, .ref zca, .ref zcw, .int (nI c), .ref zg, .ref zt, .ref zs, .ref zf, .ref zy, .ref zso, .ref zsf, .ref zsm, .int nt, .int nsh, .ref ztp, .ref zrw, .ref zpp, .int (nI tn), .int (nI pn), .int rdw, .int rdh, .ref zsz, .ref zit, .ref zk, .int (bI itk)])), (zc, ia G 16 f), (zr, ia G 16 (fun ι => nI (p ι))), (z1, ia G 5 s0), (z2, ia G 5 (fun ι => nI (s1 ι))), (z3, ia G 5 s2), (z4, ia G 8 (fun ι => nI (e0 ι))), (z5, ia G 8 (fun ι => nI (e1 ι))), (zk, ia G 66 (upd (upd kp 0 (nI W)) 1 (nI H)))]) hX 8 rfl (by omega) (by omega) rfl dX9_image_19 ?_
  refine j_aload_n (pc := 20) hX dX9_image_20 0 rfl ?_
  refine j_get (pc := 21) hX f_RX9_98 0 rfl rfl dX9_image_21 ?_
  refine j_iconstN (pc := 24) (j := 2) hX dX9_image_24 rfl ?_
  refine j_aload_n (pc := 25) hX dX9_image_25 0 rfl ?_
  refine j_get (pc := 26) hX f_RX9_142 0 rfl rfl dX9_image_26 ?_
  refine j_iastN (pc := 29) (j := 2) (ws' := [(md, .inr (9, [.int (nI W), .int (nI H), .int t, .int (nI m), .int (nI k), .ref zc, .ref zr, .ref zb, .ref z1, .ref z2, .ref z3, .ref z4, .ref z5, .ref zm, .ref zmr, .ref zmb, .int mt, .ref zca, .ref zcw, .int (nI c), .ref zg, .ref zt, .ref zs, .ref zf, .ref zy, .ref zso, .ref zsf, .ref zsm, .int nt, .int nsh, .ref ztp, .ref zrw, .ref zpp, .int (nI tn), .int (nI pn), .int rdw, .int rdh, .ref zsz, .ref zit, .ref zk, .int (bI itk)])), (zc, ia G 16 f), (zr, ia G 16 (fun ι => nI (p ι))), (z1, ia G 5 s0), (z2, ia G 5 (fun ι => nI (s1 ι))), (z3, ia G 5 s2), (z4, ia G 8 (fun ι => nI (e0 ι))), (z5, ia G 8 (fun ι => nI (e1 ι))), (zk, ia G 66 (upd (upd (upd kp 0 (nI W)) 1 (nI H)) 2 t))]) hX 8 rfl (by omega) (by omega) rfl dX9_image_29 ?_
  refine j_aload_n (pc := 30) hX dX9_image_30 0 rfl ?_
  refine j_get (pc := 31) hX f_RX9_98 0 rfl rfl dX9_image_31 ?_
  refine j_iconstN (pc := 34) (j := 3) hX dX9_image_34 rfl ?_
  refine j_aload_n (pc := 35) hX dX9_image_35 0 rfl ?_
  refine j_get (pc := 36) hX f_RX9_266 0 rfl rfl dX9_image_36 ?_
  refine j_iastN (pc := 39) (j := 3) (ws' := [(md, .inr (9, [.int (nI W), .int (nI H), .int t, .int (nI m), .int (nI k), .ref zc, .ref zr, .ref zb, .ref z1, .ref z2, .ref z3, .ref z4, .ref z5, .ref zm, .ref zmr, .ref zmb, .int mt, .ref zca, .ref zcw, .int (nI c), .ref zg, .ref zt, .ref zs, .ref zf, .ref zy, .ref zso, .ref zsf, .ref zsm, .int nt, .int nsh, .ref ztp, .ref zrw, .ref zpp, .int (nI tn), .int (nI pn), .int rdw, .int rdh, .ref zsz, .ref zit, .ref zk, .int (bI itk)])), (zc, ia G 16 f), (zr, ia G 16 (fun ι => nI (p ι))), (z1, ia G 5 s0), (z2, ia G 5 (fun ι => nI (s1 ι))), (z3, ia G 5 s2), (z4, ia G 8 (fun ι => nI (e0 ι))), (z5, ia G 8 (fun ι => nI (e1 ι))), (zk, ia G 66 (upd (upd (upd (upd kp 0 (nI W)) 1 (nI H)) 2 t) 3 (nI m)))]) hX 8 rfl (by omega) (by omega) rfl dX9_image_39 ?_
  refine j_aload_n (pc := 40) hX dX9_image_40 0 rfl ?_
  refine j_get (pc := 41) hX f_RX9_98 0 rfl rfl dX9_image_41 ?_
  refine j_iconstN (pc := 44) (j := 4) hX dX9_image_44 rfl ?_
  refine j_aload_n (pc := 45) hX dX9_image_45 0 rfl ?_
  refine j_get (pc := 46) hX f_RX9_279 0 rfl rfl dX9_image_46 ?_
  refine j_iastN (pc := 49) (j := 4) (ws' := [(md, .inr (9, [.int (nI W), .int (nI H), .int t, .int (nI m), .int (nI k), .ref zc, .ref zr, .ref zb, .ref z1, .ref z2, .ref z3, .ref z4, .ref z5, .ref zm, .ref zmr, .ref zmb, .int mt, .ref zca, .ref zcw, .int (nI c), .ref zg, .ref zt, .ref zs, .ref zf, .ref zy, .ref zso, .ref zsf, .ref zsm, .int nt, .int nsh, .ref ztp, .ref zrw, .ref zpp, .int (nI tn), .int (nI pn), .int rdw, .int rdh, .ref zsz, .ref zit, .ref zk, .int (bI itk)])), (zc, ia G 16 f), (zr, ia G 16 (fun ι => nI (p ι))), (z1, ia G 5 s0), (z2, ia G 5 (fun ι => nI (s1 ι))), (z3, ia G 5 s2), (z4, ia G 8 (fun ι => nI (e0 ι))), (z5, ia G 8 (fun ι => nI (e1 ι))), (zk, ia G 66 (upd (upd (upd (upd (upd kp 0 (nI W)) 1 (nI H)) 2 t) 3 (nI m)) 4 (nI k)))]) hX 8 rfl (by omega) (by omega) rfl dX9_image_49 ?_
  refine j_aload_n (pc := 50) hX dX9_image_50 0 rfl ?_
  refine j_iconstN (pc := 51) (j := 0) hX dX9_image_51 rfl ?_
  refine j_callV (pc := 52) hX kX9_carriesAll kVX9_carriesAll l_RX9_292 (fun l => c_X9_carriesAll_out G md W H t m k zc zr zb z1 z2 z3 z4 z5 zm zmr zmb mt zca zcw c zg zt zs zf zy zso zsf zsm nt nsh ztp zrw zpp tn pn rdw rdh zsz zit zk itk f p s0 s1 s2 e0 e1 (upd (upd (upd (upd (upd kp 0 (nI W)) 1 (nI H)) 2 t) 3 (nI m)) 4 (nI k)) (fun z hz => by rcases (show z = 0 ∨ z = 1 ∨ z = 2 ∨ z = 3 ∨ z = 4 from by omega) with rfl | rfl | rfl | rfl | rfl <;> rfl) l) [0, 1, 2, 3, 4, 5, 6, 7, 8] [] [] rfl 0 9 rfl rfl rfl rfl rfl rfl ⟨rfl, rfl, by decide⟩ rfl rfl (Nat.le_of_ble_eq_true rfl) dX9_image_52 (fun v w hq => ?_)
  obtain ⟨kp2_52, rfl, rfl, h52_0⟩ := hq
  refine j_ws [0, 1, 2, 3, 4, 5, 6, 7, 8] (ws' := [(md, .inr (9, [.int (nI W), .int (nI H), .int t, .int (nI m), .int (nI k), .ref zc, .ref zr, .ref zb, .ref z1, .ref z2, .ref z3, .ref z4, .ref z5, .ref zm, .ref zmr, .ref zmb, .int mt, .ref zca, .ref zcw, .int (nI c), .ref zg, .ref zt, .ref zs, .ref zf, .ref zy, .ref zso, .ref zsf, .ref zsm, .int nt, .int nsh, .ref ztp, .ref zrw, .ref zpp, .int (nI tn), .int (nI pn), .int rdw, .int rdh, .ref zsz, .ref zit, .ref zk, .int (bI itk)])), (zc, ia G 16 f), (zr, ia G 16 (fun ι => nI (p ι))), (z1, ia G 5 s0), (z2, ia G 5 (fun ι => nI (s1 ι))), (z3, ia G 5 s2), (z4, ia G 8 (fun ι => nI (e0 ι))), (z5, ia G 8 (fun ι => nI (e1 ι))), (zk, ia G 66 kp2_52)]) rfl rfl ?_
  refine j_aload_n (pc := 55) hX dX9_image_55 0 rfl ?_
  refine j_iconstN (pc := 56) (j := 1) hX dX9_image_56 rfl ?_
  refine j_put (pc := 57) (ws' := [(md, .inr (9, [.int (nI W), .int (nI H), .int t, .int (nI m), .int (nI k), .ref zc, .ref zr, .ref zb, .ref z1, .ref z2, .ref z3, .ref z4, .ref z5, .ref zm, .ref zmr, .ref zmb, .int mt, .ref zca, .ref zcw, .int (nI c), .ref zg, .ref zt, .ref zs, .ref zf, .ref zy, .ref zso, .ref zsf, .ref zsm, .int nt, .int nsh, .ref ztp, .ref zrw, .ref zpp, .int (nI tn), .int (nI pn), .int rdw, .int rdh, .ref zsz, .ref zit, .ref zk, .int (nI 1)])), (zc, ia G 16 f), (zr, ia G 16 (fun ι => nI (p ι))), (z1, ia G 5 s0), (z2, ia G 5 (fun ι => nI (s1 ι))), (z3, ia G 5 s2), (z4, ia G 8 (fun ι => nI (e0 ι))), (z5, ia G 8 (fun ι => nI (e1 ι))), (zk, ia G 66 kp2_52)]) hX f_RX9_296 0 rfl (by decide) rfl (Nat.le_of_ble_eq_true rfl) rfl dX9_image_57 ?_
  refine j_aload_n (pc := 60) hX dX9_image_60 0 rfl ?_
  refine j_aload_n (pc := 61) hX dX9_image_61 0 rfl ?_
  refine j_get (pc := 62) hX f_RX9_18 0 rfl rfl dX9_image_62 ?_
  refine j_callV (pc := 65) hX kX9_countOf kVX9_countOf l_RX9_163 (fun l => c_X9_countOf G md W H t m k zc zr zb z1 z2 z3 z4 z5 zm zmr zmb mt zca zcw c zg zt zs zf zy zso zsf zsm nt nsh ztp zrw zpp tn pn rdw rdh zsz zit zk true f zc f (by omega) (by omega) (by omega) (by omega) (by assumption) l) [0, 1] [2, 3, 4, 5, 6, 7, 8] [] rfl 0 9 rfl rfl rfl rfl rfl rfl ⟨rfl, rfl, by decide⟩ rfl rfl (Nat.le_of_ble_eq_true rfl) dX9_image_65 (fun v w hq => ?_)
  obtain ⟨rfl, rfl⟩ := hq
  refine j_ws [7, 8, 0, 1, 2, 3, 4, 5, 6] (ws' := [(md, .inr (9, [.int (nI W), .int (nI H), .int t, .int (nI m), .int (nI k), .ref zc, .ref zr, .ref zb, .ref z1, .ref z2, .ref z3, .ref z4, .ref z5, .ref zm, .ref zmr, .ref zmb, .int mt, .ref zca, .ref zcw, .int (nI c), .ref zg, .ref zt, .ref zs, .ref zf, .ref zy, .ref zso, .ref zsf, .ref zsm, .int nt, .int nsh, .ref ztp, .ref zrw, .ref zpp, .int (nI tn), .int (nI pn), .int rdw, .int rdh, .ref zsz, .ref zit, .ref zk, .int (bI true)])), (zc, ia G 16 f), (zr, ia G 16 (fun ι => nI (p ι))), (z1, ia G 5 s0), (z2, ia G 5 (fun ι => nI (s1 ι))), (z3, ia G 5 s2), (z4, ia G 8 (fun ι => nI (e0 ι))), (z5, ia G 8 (fun ι => nI (e1 ι))), (zk, ia G 66 kp2_52)]) rfl rfl ?_
  refine j_eqw (ws' := [(md, .inr (9, [.int (nI W), .int (nI H), .int t, .int (nI m), .int (nI k), .ref zc, .ref zr, .ref zb, .ref z1, .ref z2, .ref z3, .ref z4, .ref z5, .ref zm, .ref zmr, .ref zmb, .int mt, .ref zca, .ref zcw, .int (nI c), .ref zg, .ref zt, .ref zs, .ref zf, .ref zy, .ref zso, .ref zsf, .ref zsm, .int nt, .int nsh, .ref ztp, .ref zrw, .ref zpp, .int (nI tn), .int (nI pn), .int rdw, .int rdh, .ref zsz, .ref zit, .ref zk, .int (nI 1)])), (zc, ia G 16 f), (zr, ia G 16 (fun ι => nI (p ι))), (z1, ia G 5 s0), (z2, ia G 5 (fun ι => nI (s1 ι))), (z3, ia G 5 s2), (z4, ia G 8 (fun ι => nI (e0 ι))), (z5, ia G 8 (fun ι => nI (e1 ι))), (zk, ia G 66 kp2_52)]) (congrArg (fun ζ : Int32 => ([(md, .inr (9, [.int (nI W), .int (nI H), .int t, .int (nI m), .int (nI k), .ref zc, .ref zr, .ref zb, .ref z1, .ref z2, .ref z3, .ref z4, .ref z5, .ref zm, .ref zmr, .ref zmb, .int mt, .ref zca, .ref zcw, .int (nI c), .ref zg, .ref zt, .ref zs, .ref zf, .ref zy, .ref zso, .ref zsf, .ref zsm, .int nt, .int nsh, .ref ztp, .ref zrw, .ref zpp, .int (nI tn), .int (nI pn), .int rdw, .int rdh, .ref zsz, .ref zit, .ref zk, .int ζ])), (zc, ia G 16 f), (zr, ia G 16 (fun ι => nI (p ι))), (z1, ia G 5 s0), (z2, ia G 5 (fun ι => nI (s1 ι))), (z3, ia G 5 s2), (z4, ia G 8 (fun ι => nI (e0 ι))), (z5, ia G 8 (fun ι => nI (e1 ι))), (zk, ia G 66 kp2_52)] : va_W)) (show bI true = nI 1 from by rfl)) ?_
  exact j_iret (pc := 68) hX hR dX9_image_68 ⟨kp2_52, rfl, rfl, (by assumption)⟩
set_option maxHeartbeats 4000000 in
set_option maxRecDepth 100000 in
theorem c_X9_back_no (G : GT) (md : Nat) (W : Nat) (H : Nat) (t : Int32) (m : Nat) (k : Nat) (zc : Nat) (zr : Nat) (zb : Nat) (z1 : Nat) (z2 : Nat) (z3 : Nat) (z4 : Nat) (z5 : Nat) (zm : Nat) (zmr : Nat) (zmb : Nat) (mt : Int32) (zca : Nat) (zcw : Nat) (c : Nat) (zg : Nat) (zt : Nat) (zs : Nat) (zf : Nat) (zy : Nat) (zso : Nat) (zsf : Nat) (zsm : Nat) (nt : Int32) (nsh : Int32) (ztp : Nat) (zrw : Nat) (zpp : Nat) (tn : Nat) (pn : Nat) (rdw : Int32) (rdh : Int32) (zsz : Nat) (zit : Nat) (zk : Nat)  (l : Launch) : CT l G yX9_back cX9_back 1 (some .int) { frames := 2, cells := 0, slots := 0, locals := 48 } [.ref md] [(md, .inr (9, [.int (nI W), .int (nI H), .int t, .int (nI m), .int (nI k), .ref zc, .ref zr, .ref zb, .ref z1, .ref z2, .ref z3, .ref z4, .ref z5, .ref zm, .ref zmr, .ref zmb, .int mt, .ref zca, .ref zcw, .int (nI c), .ref zg, .ref zt, .ref zs, .ref zf, .ref zy, .ref zso, .ref zsf, .ref zsm, .int nt, .int nsh, .ref ztp, .ref zrw, .ref zpp, .int (nI tn), .int (nI pn), .int rdw, .int rdh, .ref zsz, .ref zit, .ref zk, .int (nI 0)]))] (fun vv ww => vv = some (.int (-3)) ∧ ww = [(md, .inr (9, [.int (nI W), .int (nI H), .int t, .int (nI m), .int (nI k), .ref zc, .ref zr, .ref zb, .ref z1, .ref z2, .ref z3, .ref z4, .ref z5, .ref zm, .ref zmr, .ref zmb, .int mt, .ref zca, .ref zcw, .int (nI c), .ref zg, .ref zt, .ref zs, .ref zf, .ref zy, .ref zso, .ref zsf, .ref zsm, .int nt, .int nsh, .ref ztp, .ref zrw, .ref zpp, .int (nI tn), .int (nI pn), .int rdw, .int rdh, .ref zsz, .ref zit, .ref zk, .int (nI 0)]))]) := by
  refine CT.of (lv := [(0, .ref md)]) RX9 "back" rfl rfl (by decide +kernel) (Nat.le_of_ble_eq_true rfl) rfl (fun X hX hR => ?_)
  refine j_aload_n (pc := 0) hX dX9_back_0 0 rfl ?_
  refine j_get (pc := 1) hX f_RX9_296 0 rfl rfl dX9_back_1 ?_
  refine j_if_ne (pc := 4) (tgt := 10) hX dX9_back_4 (by decide) (nI_toInt (n := 0) (by decide)) (fun c4 => absurd c4 (by decide)) (fun c4 => ?_)
  refine j_bipush (pc := 7) (v := (-3)) hX dX9_back_7 (by decide) ?_
  exact j_iret (pc := 9) hX hR dX9_back_9 ⟨rfl, rfl⟩
set_option maxHeartbeats 4000000 in
set_option maxRecDepth 100000 in
theorem c_X9_back_ok (G : GT) (md : Nat) (W : Nat) (H : Nat) (t : Int32) (m : Nat) (k : Nat) (zc : Nat) (zr : Nat) (zb : Nat) (z1 : Nat) (z2 : Nat) (z3 : Nat) (z4 : Nat) (z5 : Nat) (zm : Nat) (zmr : Nat) (zmb : Nat) (mt : Int32) (zca : Nat) (zcw : Nat) (c : Nat) (zg : Nat) (zt : Nat) (zs : Nat) (zf : Nat) (zy : Nat) (zso : Nat) (zsf : Nat) (zsm : Nat) (nt : Int32) (nsh : Int32) (ztp : Nat) (zrw : Nat) (zpp : Nat) (tn : Nat) (pn : Nat) (rdw : Int32) (rdh : Int32) (zsz : Nat) (zit : Nat) (zk : Nat) (f : Nat → Int32) (r0f : Nat → Int32) (s0 : Nat → Int32) (s1f : Nat → Int32) (s2 : Nat → Int32) (e0f : Nat → Int32) (e1f : Nat → Int32) (kp : Nat → Int32) (WT HT : Nat) (tT : Int32) (mT kT : Nat) (fT : Nat → Int32) (pT : Nat → Nat) (s0T : Nat → Int32) (s1T : Nat → Nat) (s2T : Nat → Int32) (e0T e1T : Nat → Nat) (hW1 : 2 ≤ WT) (hW2 : WT ≤ 16) (hH1 : 2 ≤ HT) (hH2 : HT ≤ 16) (hf : ∀ y, rN (fT y) < 65536) (hkp : ∀ z, z < 60 → kp z = kpF WT HT tT mT kT fT pT s0T s1T s2T e0T e1T z) (he : ∀ j, j < 8 → e1T j < 10000 ∧ e0T j ≤ 2) (l : Launch) : CT l G yX9_back cX9_back 1 (some .int) { frames := 2, cells := 0, slots := 0, locals := 48 } [.ref md] [(md, .inr (9, [.int (nI W), .int (nI H), .int t, .int (nI m), .int (nI k), .ref zc, .ref zr, .ref zb, .ref z1, .ref z2, .ref z3, .ref z4, .ref z5, .ref zm, .ref zmr, .ref zmb, .int mt, .ref zca, .ref zcw, .int (nI c), .ref zg, .ref zt, .ref zs, .ref zf, .ref zy, .ref zso, .ref zsf, .ref zsm, .int nt, .int nsh, .ref ztp, .ref zrw, .ref zpp, .int (nI tn), .int (nI pn), .int rdw, .int rdh, .ref zsz, .ref zit, .ref zk, .int (nI 1)])), (zc, ia G 16 f), (zr, ia G 16 r0f), (z1, ia G 5 s0), (z2, ia G 5 s1f), (z3, ia G 5 s2), (z4, ia G 8 e0f), (z5, ia G 8 e1f), (zk, ia G 66 kp)] (fun vv ww => vv = some (.int (nI (cnt fT HT))) ∧ ww = [(md, .inr (9, [.int (nI WT), .int (nI HT), .int tT, .int (nI mT), .int (nI kT), .ref zc, .ref zr, .ref zb, .ref z1, .ref z2, .ref z3, .ref z4, .ref z5, .ref zm, .ref zmr, .ref zmb, .int mt, .ref zca, .ref zcw, .int (nI 0), .ref zg, .ref zt, .ref zs, .ref zf, .ref zy, .ref zso, .ref zsf, .ref zsm, .int nt, .int nsh, .ref ztp, .ref zrw, .ref zpp, .int (nI tn), .int (nI pn), .int rdw, .int rdh, .ref zsz, .ref zit, .ref zk, .int (nI 1)])), (zc, ia G 16 fT), (zr, ia G 16 (fun ι => nI (pT ι))), (z1, ia G 5 s0T), (z2, ia G 5 (fun ι => nI (s1T ι))), (z3, ia G 5 s2T), (z4, ia G 8 (fun ι => nI (e0T ι))), (z5, ia G 8 (fun ι => nI (e1T ι))), (zk, ia G 66 kp)]) := by
  refine CT.of (lv := [(0, .ref md)]) RX9 "back" rfl rfl (by decide +kernel) (Nat.le_of_ble_eq_true rfl) rfl (fun X hX hR => ?_)
  refine j_aload_n (pc := 0) hX dX9_back_0 0 rfl ?_
  refine j_get (pc := 1) hX f_RX9_296 0 rfl rfl dX9_back_1 ?_
  refine j_if_ne (pc := 4) (tgt := 10) hX dX9_back_4 (by decide) (nI_toInt (n := 1) (by decide)) (fun c4 => ?_) (fun c4 => absurd c4 (by decide))
  refine j_aload_n (pc := 10) hX dX9_back_10 0 rfl ?_
  refine j_aload_n (pc := 11) hX dX9_back_11 0 rfl ?_
  refine j_get (pc := 12) hX f_RX9_98 0 rfl rfl dX9_back_12 ?_
  refine j_iconstN (pc := 15) (j := 0) hX dX9_back_15 rfl ?_
  refine j_ialdN (pc := 16) (j := 0) hX 8 rfl (by omega) (by omega) dX9_back_16 ?_
  refine j_topi (y := nI WT) (hkp _ (by omega)) ?_
  refine j_put (pc := 17) (ws' := [(md, .inr (9, [.int (nI WT), .int (nI H), .int t, .int (nI m), .int (nI k), .ref zc, .ref zr, .ref zb, .ref z1, .ref z2, .ref z3, .ref z4, .ref z5, .ref zm, .ref zmr, .ref zmb, .int mt, .ref zca, .ref zcw, .int (nI c), .ref zg, .ref zt, .ref zs, .ref zf, .ref zy, .ref zso, .ref zsf, .ref zsm, .int nt, .int nsh, .ref ztp, .ref zrw, .ref zpp, .int (nI tn), .int (nI pn), .int rdw, .int rdh, .ref zsz, .ref zit, .ref zk, .int (nI 1)])), (zc, ia G 16 f), (zr, ia G 16 r0f), (z1, ia G 5 s0), (z2, ia G 5 s1f), (z3, ia G 5 s2), (z4, ia G 8 e0f), (z5, ia G 8 e1f), (zk, ia G 66 kp)]) hX f_RX9_9 0 rfl rfl rfl (Nat.le_of_ble_eq_true rfl) rfl dX9_back_17 ?_
  refine j_aload_n (pc := 20) hX dX9_back_20 0 rfl ?_
  refine j_aload_n (pc := 21) hX dX9_back_21 0 rfl ?_
  refine j_get (pc := 22) hX f_RX9_98 0 rfl rfl dX9_back_22 ?_
  refine j_iconstN (pc := 25) (j := 1) hX dX9_back_25 rfl ?_
  refine j_ialdN (pc := 26) (j := 1) hX 8 rfl (by omega) (by omega) dX9_back_26 ?_
  refine j_topi (y := nI HT) (hkp _ (by omega)) ?_
  refine j_put (pc := 27) (ws' := [(md, .inr (9, [.int (nI WT), .int (nI HT), .int t, .int (nI m), .int (nI k), .ref zc, .ref zr, .ref zb, .ref z1, .ref z2, .ref z3, .ref z4, .ref z5, .ref zm, .ref zmr, .ref zmb, .int mt, .ref zca, .ref zcw, .int (nI c), .ref zg, .ref zt, .ref zs, .ref zf, .ref zy, .ref zso, .ref zsf, .ref zsm, .int nt, .int nsh, .ref ztp, .ref zrw, .ref zpp, .int (nI tn), .int (nI pn), .int rdw, .int rdh, .ref zsz, .ref zit, .ref zk, .int (nI 1)])), (zc, ia G 16 f), (zr, ia G 16 r0f), (z1, ia G 5 s0), (z2, ia G 5 s1f), (z3, ia G 5 s2), (z4, ia G 8 e0f), (z5, ia G 8 e1f), (zk, ia G 66 kp)]) hX f_RX9_15 0 rfl rfl rfl (Nat.le_of_ble_eq_true rfl) rfl dX9_back_27 ?_
  refine j_aload_n (pc := 30) hX dX9_back_30 0 rfl ?_
  refine j_aload_n (pc := 31) hX dX9_back_31 0 rfl ?_
  refine j_get (pc := 32) hX f_RX9_98 0 rfl rfl dX9_back_32 ?_
  refine j_iconstN (pc := 35) (j := 2) hX dX9_back_35 rfl ?_
  refine j_ialdN (pc := 36) (j := 2) hX 8 rfl (by omega) (by omega) dX9_back_36 ?_
  refine j_topi (y := tT) (hkp _ (by omega)) ?_
  refine j_put (pc := 37) (ws' := [(md, .inr (9, [.int (nI WT), .int (nI HT), .int tT, .int (nI m), .int (nI k), .ref zc, .ref zr, .ref zb, .ref z1, .ref z2, .ref z3, .ref z4, .ref z5, .ref zm, .ref zmr, .ref zmb, .int mt, .ref zca, .ref zcw, .int (nI c), .ref zg, .ref zt, .ref zs, .ref zf, .ref zy, .ref zso, .ref zsf, .ref zsm, .int nt, .int nsh, .ref ztp, .ref zrw, .ref zpp, .int (nI tn), .int (nI pn), .int rdw, .int rdh, .ref zsz, .ref zit, .ref zk, .int (nI 1)])), (zc, ia G 16 f), (zr, ia G 16 r0f), (z1, ia G 5 s0), (z2, ia G 5 s1f), (z3, ia G 5 s2), (z4, ia G 8 e0f), (z5, ia G 8 e1f), (zk, ia G 66 kp)]) hX f_RX9_142 0 rfl rfl rfl (Nat.le_of_ble_eq_true rfl) rfl dX9_back_37 ?_
  refine j_aload_n (pc := 40) hX dX9_back_40 0 rfl ?_
  refine j_aload_n (pc := 41) hX dX9_back_41 0 rfl ?_
  refine j_get (pc := 42) hX f_RX9_98 0 rfl rfl dX9_back_42 ?_
  refine j_iconstN (pc := 45) (j := 3) hX dX9_back_45 rfl ?_
  refine j_ialdN (pc := 46) (j := 3) hX 8 rfl (by omega) (by omega) dX9_back_46 ?_
  refine j_topi (y := nI mT) (hkp _ (by omega)) ?_
  refine j_put (pc := 47) (ws' := [(md, .inr (9, [.int (nI WT), .int (nI HT), .int tT, .int (nI mT), .int (nI k), .ref zc, .ref zr, .ref zb, .ref z1, .ref z2, .ref z3, .ref z4, .ref z5, .ref zm, .ref zmr, .ref zmb, .int mt, .ref zca, .ref zcw, .int (nI c), .ref zg, .ref zt, .ref zs, .ref zf, .ref zy, .ref zso, .ref zsf, .ref zsm, .int nt, .int nsh, .ref ztp, .ref zrw, .ref zpp, .int (nI tn), .int (nI pn), .int rdw, .int rdh, .ref zsz, .ref zit, .ref zk, .int (nI 1)])), (zc, ia G 16 f), (zr, ia G 16 r0f), (z1, ia G 5 s0), (z2, ia G 5 s1f), (z3, ia G 5 s2), (z4, ia G 8 e0f), (z5, ia G 8 e1f), (zk, ia G 66 kp)]) hX f_RX9_266 0 rfl rfl rfl (Nat.le_of_ble_eq_true rfl) rfl dX9_back_47 ?_
  refine j_aload_n (pc := 50) hX dX9_back_50 0 rfl ?_
  refine j_aload_n (pc := 51) hX dX9_back_51 0 rfl ?_
  refine j_get (pc := 52) hX f_RX9_98 0 rfl rfl dX9_back_52 ?_
  refine j_iconstN (pc := 55) (j := 4) hX dX9_back_55 rfl ?_
  refine j_ialdN (pc := 56) (j := 4) hX 8 rfl (by omega) (by omega) dX9_back_56 ?_
  refine j_topi (y := nI kT) (hkp _ (by omega)) ?_
  refine j_put (pc := 57) (ws' := [(md, .inr (9, [.int (nI WT), .int (nI HT), .int tT, .int (nI mT), .int (nI kT), .ref zc, .ref zr, .ref zb, .ref z1, .ref z2, .ref z3, .ref z4, .ref z5, .ref zm, .ref zmr, .ref zmb, .int mt, .ref zca, .ref zcw, .int (nI c), .ref zg, .ref zt, .ref zs, .ref zf, .ref zy, .ref zso, .ref zsf, .ref zsm, .int nt, .int nsh, .ref ztp, .ref zrw, .ref zpp, .int (nI tn), .int (nI pn), .int rdw, .int rdh, .ref zsz, .ref zit, .ref zk, .int (nI 1)])), (zc, ia G 16 f), (zr, ia G 16 r0f), (z1, ia G 5 s0), (z2, ia G 5 s1f), (z3, ia G 5 s2), (z4, ia G 8 e0f), (z5, ia G 8 e1f), (zk, ia G 66 kp)]) hX f_RX9_279 0 rfl rfl rfl (Nat.le_of_ble_eq_true rfl) rfl dX9_back_57 ?_
  refine j_aload_n (pc := 60) hX dX9_back_60 0 rfl ?_
  refine j_iconstN (pc := 61) (j := 1) hX dX9_back_61 rfl ?_
  refine j_callV (pc := 62) hX kX9_carriesAll kVX9_carriesAll l_RX9_292 (fun l => c_X9_carriesAll_in G md WT HT tT mT kT zc zr zb z1 z2 z3 z4 z5 zm zmr zmb mt zca zcw c zg zt zs zf zy zso zsf zsm nt nsh ztp zrw zpp tn pn rdw rdh zsz zit zk true f r0f s0 s1f s2 e0f e1f kp WT HT tT mT kT fT pT s0T s1T s2T e0T e1T (by assumption) (by assumption) l) [0, 1, 2, 3, 4, 5, 6, 7, 8] [] [] rfl 0 9 rfl rfl rfl rfl rfl rfl ⟨rfl, rfl, by decide⟩ rfl rfl (Nat.le_of_ble_eq_true rfl) dX9_back_62 (fun v w hq => ?_)
  obtain ⟨rfl, rfl⟩ := hq
  refine j_ws [0, 1, 2, 3, 4, 5, 6, 7, 8] (ws' := [(md, .inr (9, [.int (nI WT), .int (nI HT), .int tT, .int (nI mT), .int (nI kT), .ref zc, .ref zr, .ref zb, .ref z1, .ref z2, .ref z3, .ref z4, .ref z5, .ref zm, .ref zmr, .ref zmb, .int mt, .ref zca, .ref zcw, .int (nI c), .ref zg, .ref zt, .ref zs, .ref zf, .ref zy, .ref zso, .ref zsf, .ref zsm, .int nt, .int nsh, .ref ztp, .ref zrw, .ref zpp, .int (nI tn), .int (nI pn), .int rdw, .int rdh, .ref zsz, .ref zit, .ref zk, .int (bI true)])), (zc, ia G 16 fT), (zr, ia G 16 (fun ι => nI (pT ι))), (z1, ia G 5 s0T), (z2, ia G 5 (fun ι => nI (s1T ι))), (z3, ia G 5 s2T), (z4, ia G 8 (fun ι => nI (e0T ι))), (z5, ia G 8 (fun ι => nI (e1T ι))), (zk, ia G 66 kp)]) rfl rfl ?_
  refine j_aload_n (pc := 65) hX dX9_back_65 0 rfl ?_
  refine j_iconstN (pc := 66) (j := 0) hX dX9_back_66 rfl ?_
  refine j_put (pc := 67) (ws' := [(md, .inr (9, [.int (nI WT), .int (nI HT), .int tT, .int (nI mT), .int (nI kT), .ref zc, .ref zr, .ref zb, .ref z1, .ref z2, .ref z3, .ref z4, .ref z5, .ref zm, .ref zmr, .ref zmb, .int mt, .ref zca, .ref zcw, .int (nI 0), .ref zg, .ref zt, .ref zs, .ref zf, .ref zy, .ref zso, .ref zsf, .ref zsm, .int nt, .int nsh, .ref ztp, .ref zrw, .ref zpp, .int (nI tn), .int (nI pn), .int rdw, .int rdh, .ref zsz, .ref zit, .ref zk, .int (bI true)])), (zc, ia G 16 fT), (zr, ia G 16 (fun ι => nI (pT ι))), (z1, ia G 5 s0T), (z2, ia G 5 (fun ι => nI (s1T ι))), (z3, ia G 5 s2T), (z4, ia G 8 (fun ι => nI (e0T ι))), (z5, ia G 8 (fun ι => nI (e1T ι))), (zk, ia G 66 kp)]) hX f_RX9_156 0 rfl rfl rfl (Nat.le_of_ble_eq_true rfl) rfl dX9_back_67 ?_
  refine j_aload_n (pc := 70) hX dX9_back_70 0 rfl ?_
  refine j_aload_n (pc := 71) hX dX9_back_71 0 rfl ?_
  refine j_get (pc := 72) hX f_RX9_18 0 rfl rfl dX9_back_72 ?_
  refine j_callV (pc := 75) hX kX9_countOf kVX9_countOf l_RX9_163 (fun l => c_X9_countOf G md WT HT tT mT kT zc zr zb z1 z2 z3 z4 z5 zm zmr zmb mt zca zcw 0 zg zt zs zf zy zso zsf zsm nt nsh ztp zrw zpp tn pn rdw rdh zsz zit zk true fT zc fT (by omega) (by omega) (by omega) (by omega) (by assumption) l) [0, 1] [2, 3, 4, 5, 6, 7, 8] [] rfl 0 9 rfl rfl rfl rfl rfl rfl ⟨rfl, rfl, by decide⟩ rfl rfl (Nat.le_of_ble_eq_true rfl) dX9_back_75 (fun v w hq => ?_)
  obtain ⟨rfl, rfl⟩ := hq
  refine j_ws [7, 8, 0, 1, 2, 3, 4, 5, 6] (ws' := [(md, .inr (9, [.int (nI WT), .int (nI HT), .int tT, .int (nI mT), .int (nI kT), .ref zc, .ref zr, .ref zb, .ref z1, .ref z2, .ref z3, .ref z4, .ref z5, .ref zm, .ref zmr, .ref zmb, .int mt, .ref zca, .ref zcw, .int (nI 0), .ref zg, .ref zt, .ref zs, .ref zf, .ref zy, .ref zso, .ref zsf, .ref zsm, .int nt, .int nsh, .ref ztp, .ref zrw, .ref zpp, .int (nI tn), .int (nI pn), .int rdw, .int rdh, .ref zsz, .ref zit, .ref zk, .int (bI true)])), (zc, ia G 16 fT), (zr, ia G 16 (fun ι => nI (pT ι))), (z1, ia G 5 s0T), (z2, ia G 5 (fun ι => nI (s1T ι))), (z3, ia G 5 s2T), (z4, ia G 8 (fun ι => nI (e0T ι))), (z5, ia G 8 (fun ι => nI (e1T ι))), (zk, ia G 66 kp)]) rfl rfl ?_
  refine j_eqw (ws' := [(md, .inr (9, [.int (nI WT), .int (nI HT), .int tT, .int (nI mT), .int (nI kT), .ref zc, .ref zr, .ref zb, .ref z1, .ref z2, .ref z3, .ref z4, .ref z5, .ref zm, .ref zmr, .ref zmb, .int mt, .ref zca, .ref zcw, .int (nI 0), .ref zg, .ref zt, .ref zs, .ref zf, .ref zy, .ref zso, .ref zsf, .ref zsm, .int nt, .int nsh, .ref ztp, .ref zrw, .ref zpp, .int (nI tn), .int (nI pn), .int rdw, .int rdh, .ref zsz, .ref zit, .ref zk, .int (nI 1)])), (zc, ia G 16 fT), (zr, ia G 16 (fun ι => nI (pT ι))), (z1, ia G 5 s0T), (z2, ia G 5 (fun ι => nI (s1T ι))), (z3, ia G 5 s2T), (z4, ia G 8 (fun ι => nI (e0T ι))), (z5, ia G 8 (fun ι => nI (e1T ι))), (zk, ia G 66 kp)]) (congrArg (fun ζ : Int32 => ([(md, .inr (9, [.int (nI WT), .int (nI HT), .int tT, .int (nI mT), .int (nI kT), .ref zc, .ref zr, .ref zb, .ref z1, .ref z2, .ref z3, .ref z4, .ref z5, .ref zm, .ref zmr, .ref zmb, .int mt, .ref zca, .ref zcw, .int (nI 0), .ref zg, .ref zt, .ref zs, .ref zf, .ref zy, .ref zso, .ref zsf, .ref zsm, .int nt, .int nsh, .ref ztp, .ref zrw, .ref zpp, .int (nI tn), .int (nI pn), .int rdw, .int rdh, .ref zsz, .ref zit, .ref zk, .int ζ])), (zc, ia G 16 fT), (zr, ia G 16 (fun ι => nI (pT ι))), (z1, ia G 5 s0T), (z2, ia G 5 (fun ι => nI (s1T ι))), (z3, ia G 5 s2T), (z4, ia G 8 (fun ι => nI (e0T ι))), (z5, ia G 8 (fun ι => nI (e1T ι))), (zk, ia G 66 kp)] : va_W)) (show bI true = nI 1 from by rfl)) ?_
  exact j_iret (pc := 78) hX hR dX9_back_78 ⟨rfl, rfl⟩
set_option maxHeartbeats 4000000 in
set_option maxRecDepth 100000 in
theorem c_X9_count_0 (G : GT) (md : Nat) (W : Nat) (H : Nat) (t : Int32) (m : Nat) (k : Nat) (zc : Nat) (zr : Nat) (zb : Nat) (z1 : Nat) (z2 : Nat) (z3 : Nat) (z4 : Nat) (z5 : Nat) (zm : Nat) (zmr : Nat) (zmb : Nat) (mt : Int32) (zca : Nat) (zcw : Nat) (c : Nat) (zg : Nat) (zt : Nat) (zs : Nat) (zf : Nat) (zy : Nat) (zso : Nat) (zsf : Nat) (zsm : Nat) (nt : Int32) (nsh : Int32) (ztp : Nat) (zrw : Nat) (zpp : Nat) (tn : Nat) (pn : Nat) (rdw : Int32) (rdh : Int32) (zsz : Nat) (zit : Nat) (zk : Nat) (itk : Bool)  (l : Launch) : CT l G yX9_count cX9_count 2 (some .int) { frames := 0, cells := 0, slots := 0, locals := 0 } [.ref md, .int (nI 0)] [(md, .inr (9, [.int (nI W), .int (nI H), .int t, .int (nI m), .int (nI k), .ref zc, .ref zr, .ref zb, .ref z1, .ref z2, .ref z3, .ref z4, .ref z5, .ref zm, .ref zmr, .ref zmb, .int mt, .ref zca, .ref zcw, .int (nI c), .ref zg, .ref zt, .ref zs, .ref zf, .ref zy, .ref zso, .ref zsf, .ref zsm, .int nt, .int nsh, .ref ztp, .ref zrw, .ref zpp, .int (nI tn), .int (nI pn), .int rdw, .int rdh, .ref zsz, .ref zit, .ref zk, .int (bI itk)]))] (fun vv ww => vv = some (.int (nI m)) ∧ ww = [(md, .inr (9, [.int (nI W), .int (nI H), .int t, .int (nI m), .int (nI k), .ref zc, .ref zr, .ref zb, .ref z1, .ref z2, .ref z3, .ref z4, .ref z5, .ref zm, .ref zmr, .ref zmb, .int mt, .ref zca, .ref zcw, .int (nI c), .ref zg, .ref zt, .ref zs, .ref zf, .ref zy, .ref zso, .ref zsf, .ref zsm, .int nt, .int nsh, .ref ztp, .ref zrw, .ref zpp, .int (nI tn), .int (nI pn), .int rdw, .int rdh, .ref zsz, .ref zit, .ref zk, .int (bI itk)]))]) := by
  refine CT.of (lv := [(0, .ref md), (1, .int (nI 0))]) RX9 "count" rfl rfl (by decide +kernel) (Nat.le_of_ble_eq_true rfl) rfl (fun X hX hR => ?_)
  refine j_iload_n (pc := 0) hX dX9_count_0 1 rfl ?_
  refine j_tsIn (pc := 1) (off := 31) (tgt := 32) hX dX9_count_1 (0) (nI_toInt (by decide)) (by decide) (by decide) rfl (by decide) ?_
  refine j_aload_n (pc := 32) hX dX9_count_32 0 rfl ?_
  refine j_get (pc := 33) hX f_RX9_266 0 rfl rfl dX9_count_33 ?_
  exact j_iret (pc := 36) hX hR dX9_count_36 ⟨rfl, rfl⟩
set_option maxHeartbeats 4000000 in
set_option maxRecDepth 100000 in
theorem c_X9_count_1 (G : GT) (md : Nat) (W : Nat) (H : Nat) (t : Int32) (m : Nat) (k : Nat) (zc : Nat) (zr : Nat) (zb : Nat) (z1 : Nat) (z2 : Nat) (z3 : Nat) (z4 : Nat) (z5 : Nat) (zm : Nat) (zmr : Nat) (zmb : Nat) (mt : Int32) (zca : Nat) (zcw : Nat) (c : Nat) (zg : Nat) (zt : Nat) (zs : Nat) (zf : Nat) (zy : Nat) (zso : Nat) (zsf : Nat) (zsm : Nat) (nt : Int32) (nsh : Int32) (ztp : Nat) (zrw : Nat) (zpp : Nat) (tn : Nat) (pn : Nat) (rdw : Int32) (rdh : Int32) (zsz : Nat) (zit : Nat) (zk : Nat) (itk : Bool)  (l : Launch) : CT l G yX9_count cX9_count 2 (some .int) { frames := 0, cells := 0, slots := 0, locals := 0 } [.ref md, .int (nI 1)] [(md, .inr (9, [.int (nI W), .int (nI H), .int t, .int (nI m), .int (nI k), .ref zc, .ref zr, .ref zb, .ref z1, .ref z2, .ref z3, .ref z4, .ref z5, .ref zm, .ref zmr, .ref zmb, .int mt, .ref zca, .ref zcw, .int (nI c), .ref zg, .ref zt, .ref zs, .ref zf, .ref zy, .ref zso, .ref zsf, .ref zsm, .int nt, .int nsh, .ref ztp, .ref zrw, .ref zpp, .int (nI tn), .int (nI pn), .int rdw, .int rdh, .ref zsz, .ref zit, .ref zk, .int (bI itk)]))] (fun vv ww => vv = some (.int (nI k)) ∧ ww = [(md, .inr (9, [.int (nI W), .int (nI H), .int t, .int (nI m), .int (nI k), .ref zc, .ref zr, .ref zb, .ref z1, .ref z2, .ref z3, .ref z4, .ref z5, .ref zm, .ref zmr, .ref zmb, .int mt, .ref zca, .ref zcw, .int (nI c), .ref zg, .ref zt, .ref zs, .ref zf, .ref zy, .ref zso, .ref zsf, .ref zsm, .int nt, .int nsh, .ref ztp, .ref zrw, .ref zpp, .int (nI tn), .int (nI pn), .int rdw, .int rdh, .ref zsz, .ref zit, .ref zk, .int (bI itk)]))]) := by
  refine CT.of (lv := [(0, .ref md), (1, .int (nI 1))]) RX9 "count" rfl rfl (by decide +kernel) (Nat.le_of_ble_eq_true rfl) rfl (fun X hX hR => ?_)
  refine j_iload_n (pc := 0) hX dX9_count_0 1 rfl ?_
  refine j_tsIn (pc := 1) (off := 36) (tgt := 37) hX dX9_count_1 (1) (nI_toInt (by decide)) (by decide) (by decide) rfl (by decide) ?_
  refine j_aload_n (pc := 37) hX dX9_count_37 0 rfl ?_
  refine j_get (pc := 38) hX f_RX9_279 0 rfl rfl dX9_count_38 ?_
  exact j_iret (pc := 41) hX hR dX9_count_41 ⟨rfl, rfl⟩
set_option maxHeartbeats 4000000 in
set_option maxRecDepth 100000 in
theorem c_X9_count_2 (G : GT) (md : Nat) (W : Nat) (H : Nat) (t : Int32) (m : Nat) (k : Nat) (zc : Nat) (zr : Nat) (zb : Nat) (z1 : Nat) (z2 : Nat) (z3 : Nat) (z4 : Nat) (z5 : Nat) (zm : Nat) (zmr : Nat) (zmb : Nat) (mt : Int32) (zca : Nat) (zcw : Nat) (c : Nat) (zg : Nat) (zt : Nat) (zs : Nat) (zf : Nat) (zy : Nat) (zso : Nat) (zsf : Nat) (zsm : Nat) (nt : Int32) (nsh : Int32) (ztp : Nat) (zrw : Nat) (zpp : Nat) (tn : Nat) (pn : Nat) (rdw : Int32) (rdh : Int32) (zsz : Nat) (zit : Nat) (zk : Nat) (itk : Bool)  (l : Launch) : CT l G yX9_count cX9_count 2 (some .int) { frames := 0, cells := 0, slots := 0, locals := 0 } [.ref md, .int (nI 2)] [(md, .inr (9, [.int (nI W), .int (nI H), .int t, .int (nI m), .int (nI k), .ref zc, .ref zr, .ref zb, .ref z1, .ref z2, .ref z3, .ref z4, .ref z5, .ref zm, .ref zmr, .ref zmb, .int mt, .ref zca, .ref zcw, .int (nI c), .ref zg, .ref zt, .ref zs, .ref zf, .ref zy, .ref zso, .ref zsf, .ref zsm, .int nt, .int nsh, .ref ztp, .ref zrw, .ref zpp, .int (nI tn), .int (nI pn), .int rdw, .int rdh, .ref zsz, .ref zit, .ref zk, .int (bI itk)]))] (fun vv ww => vv = some (.int (nI tn)) ∧ ww = [(md, .inr (9, [.int (nI W), .int (nI H), .int t, .int (nI m), .int (nI k), .ref zc, .ref zr, .ref zb, .ref z1, .ref z2, .ref z3, .ref z4, .ref z5, .ref zm, .ref zmr, .ref zmb, .int mt, .ref zca, .ref zcw, .int (nI c), .ref zg, .ref zt, .ref zs, .ref zf, .ref zy, .ref zso, .ref zsf, .ref zsm, .int nt, .int nsh, .ref ztp, .ref zrw, .ref zpp, .int (nI tn), .int (nI pn), .int rdw, .int rdh, .ref zsz, .ref zit, .ref zk, .int (bI itk)]))]) := by
  refine CT.of (lv := [(0, .ref md), (1, .int (nI 2))]) RX9 "count" rfl rfl (by decide +kernel) (Nat.le_of_ble_eq_true rfl) rfl (fun X hX hR => ?_)
  refine j_iload_n (pc := 0) hX dX9_count_0 1 rfl ?_
  refine j_tsIn (pc := 1) (off := 41) (tgt := 42) hX dX9_count_1 (2) (nI_toInt (by decide)) (by decide) (by decide) rfl (by decide) ?_
  refine j_aload_n (pc := 42) hX dX9_count_42 0 rfl ?_
  refine j_get (pc := 43) hX f_RX9_240 0 rfl rfl dX9_count_43 ?_
  exact j_iret (pc := 46) hX hR dX9_count_46 ⟨rfl, rfl⟩
set_option maxHeartbeats 4000000 in
set_option maxRecDepth 100000 in
theorem c_X9_count_3 (G : GT) (md : Nat) (W : Nat) (H : Nat) (t : Int32) (m : Nat) (k : Nat) (zc : Nat) (zr : Nat) (zb : Nat) (z1 : Nat) (z2 : Nat) (z3 : Nat) (z4 : Nat) (z5 : Nat) (zm : Nat) (zmr : Nat) (zmb : Nat) (mt : Int32) (zca : Nat) (zcw : Nat) (c : Nat) (zg : Nat) (zt : Nat) (zs : Nat) (zf : Nat) (zy : Nat) (zso : Nat) (zsf : Nat) (zsm : Nat) (nt : Int32) (nsh : Int32) (ztp : Nat) (zrw : Nat) (zpp : Nat) (tn : Nat) (pn : Nat) (rdw : Int32) (rdh : Int32) (zsz : Nat) (zit : Nat) (zk : Nat) (itk : Bool)  (l : Launch) : CT l G yX9_count cX9_count 2 (some .int) { frames := 0, cells := 0, slots := 0, locals := 0 } [.ref md, .int (nI 3)] [(md, .inr (9, [.int (nI W), .int (nI H), .int t, .int (nI m), .int (nI k), .ref zc, .ref zr, .ref zb, .ref z1, .ref z2, .ref z3, .ref z4, .ref z5, .ref zm, .ref zmr, .ref zmb, .int mt, .ref zca, .ref zcw, .int (nI c), .ref zg, .ref zt, .ref zs, .ref zf, .ref zy, .ref zso, .ref zsf, .ref zsm, .int nt, .int nsh, .ref ztp, .ref zrw, .ref zpp, .int (nI tn), .int (nI pn), .int rdw, .int rdh, .ref zsz, .ref zit, .ref zk, .int (bI itk)]))] (fun vv ww => vv = some (.int (nI pn)) ∧ ww = [(md, .inr (9, [.int (nI W), .int (nI H), .int t, .int (nI m), .int (nI k), .ref zc, .ref zr, .ref zb, .ref z1, .ref z2, .ref z3, .ref z4, .ref z5, .ref zm, .ref zmr, .ref zmb, .int mt, .ref zca, .ref zcw, .int (nI c), .ref zg, .ref zt, .ref zs, .ref zf, .ref zy, .ref zso, .ref zsf, .ref zsm, .int nt, .int nsh, .ref ztp, .ref zrw, .ref zpp, .int (nI tn), .int (nI pn), .int rdw, .int rdh, .ref zsz, .ref zit, .ref zk, .int (bI itk)]))]) := by
  refine CT.of (lv := [(0, .ref md), (1, .int (nI 3))]) RX9 "count" rfl rfl (by decide +kernel) (Nat.le_of_ble_eq_true rfl) rfl (fun X hX hR => ?_)
  refine j_iload_n (pc := 0) hX dX9_count_0 1 rfl ?_
  refine j_tsIn (pc := 1) (off := 46) (tgt := 47) hX dX9_count_1 (3) (nI_toInt (by decide)) (by decide) (by decide) rfl (by decide) ?_
  refine j_aload_n (pc := 47) hX dX9_count_47 0 rfl ?_
  refine j_get (pc := 48) hX f_RX9_252 0 rfl rfl dX9_count_48 ?_
  exact j_iret (pc := 51) hX hR dX9_count_51 ⟨rfl, rfl⟩
set_option maxHeartbeats 4000000 in
set_option maxRecDepth 100000 in
theorem c_X9_count_bad (G : GT) (md : Nat) (W : Nat) (H : Nat) (t : Int32) (m : Nat) (k : Nat) (zc : Nat) (zr : Nat) (zb : Nat) (z1 : Nat) (z2 : Nat) (z3 : Nat) (z4 : Nat) (z5 : Nat) (zm : Nat) (zmr : Nat) (zmb : Nat) (mt : Int32) (zca : Nat) (zcw : Nat) (c : Nat) (zg : Nat) (zt : Nat) (zs : Nat) (zf : Nat) (zy : Nat) (zso : Nat) (zsf : Nat) (zsm : Nat) (nt : Int32) (nsh : Int32) (ztp : Nat) (zrw : Nat) (zpp : Nat) (tn : Nat) (pn : Nat) (rdw : Int32) (rdh : Int32) (zsz : Nat) (zit : Nat) (zk : Nat) (itk : Bool) (w : Int32) (hb : w.toInt < 0 ∨ 3 < w.toInt) (l : Launch) : CT l G yX9_count cX9_count 2 (some .int) { frames := 0, cells := 0, slots := 0, locals := 0 } [.ref md, .int w] [(md, .inr (9, [.int (nI W), .int (nI H), .int t, .int (nI m), .int (nI k), .ref zc, .ref zr, .ref zb, .ref z1, .ref z2, .ref z3, .ref z4, .ref z5, .ref zm, .ref zmr, .ref zmb, .int mt, .ref zca, .ref zcw, .int (nI c), .ref zg, .ref zt, .ref zs, .ref zf, .ref zy, .ref zso, .ref zsf, .ref zsm, .int nt, .int nsh, .ref ztp, .ref zrw, .ref zpp, .int (nI tn), .int (nI pn), .int rdw, .int rdh, .ref zsz, .ref zit, .ref zk, .int (bI itk)]))] (fun vv ww => vv = some (.int (-2)) ∧ ww = [(md, .inr (9, [.int (nI W), .int (nI H), .int t, .int (nI m), .int (nI k), .ref zc, .ref zr, .ref zb, .ref z1, .ref z2, .ref z3, .ref z4, .ref z5, .ref zm, .ref zmr, .ref zmb, .int mt, .ref zca, .ref zcw, .int (nI c), .ref zg, .ref zt, .ref zs, .ref zf, .ref zy, .ref zso, .ref zsf, .ref zsm, .int nt, .int nsh, .ref ztp, .ref zrw, .ref zpp, .int (nI tn), .int (nI pn), .int rdw, .int rdh, .ref zsz, .ref zit, .ref zk, .int (bI itk)]))]) := by
  refine CT.of (lv := [(0, .ref md), (1, .int w)]) RX9 "count" rfl rfl (by decide +kernel) (Nat.le_of_ble_eq_true rfl) rfl (fun X hX hR => ?_)
  refine j_iload_n (pc := 0) hX dX9_count_0 1 rfl ?_
  rcases (show w.toInt = 0 ∨ w.toInt = 1 ∨ w.toInt = 2 ∨ w.toInt = 3 ∨ (w.toInt < 0 ∨ 3 < w.toInt) from by omega) with s1 | s1 | s1 | s1 | s1
  · skip
    exfalso; omega
  · skip
    exfalso; omega
  · skip
    exfalso; omega
  · skip
    exfalso; omega
  · skip
    refine j_tsOut (pc := 1) (tgt := 52) hX dX9_count_1 s1 (by decide) ?_
    refine j_bipush (pc := 52) (v := (-2)) hX dX9_count_52 (by decide) ?_
    exact j_iret (pc := 54) hX hR dX9_count_54 ⟨rfl, rfl⟩
set_option maxHeartbeats 4000000 in
set_option maxRecDepth 100000 in
theorem c_X9_told_bad (G : GT) (md : Nat) (W : Nat) (H : Nat) (t : Int32) (m : Nat) (k : Nat) (zc : Nat) (zr : Nat) (zb : Nat) (z1 : Nat) (z2 : Nat) (z3 : Nat) (z4 : Nat) (z5 : Nat) (zm : Nat) (zmr : Nat) (zmb : Nat) (mt : Int32) (zca : Nat) (zcw : Nat) (c : Nat) (zg : Nat) (zt : Nat) (zs : Nat) (zf : Nat) (zy : Nat) (zso : Nat) (zsf : Nat) (zsm : Nat) (nt : Int32) (nsh : Int32) (ztp : Nat) (zrw : Nat) (zpp : Nat) (tn : Nat) (pn : Nat) (rdw : Int32) (rdh : Int32) (zsz : Nat) (zit : Nat) (zk : Nat) (itk : Bool) (w : Int32) (hb : w.toInt < 0 ∨ 7 < w.toInt) (l : Launch) : CT l G yX9_told cX9_told 2 (some .int) { frames := 2, cells := 0, slots := 0, locals := 50 } [.ref md, .int w] [(md, .inr (9, [.int (nI W), .int (nI H), .int t, .int (nI m), .int (nI k), .ref zc, .ref zr, .ref zb, .ref z1, .ref z2, .ref z3, .ref z4, .ref z5, .ref zm, .ref zmr, .ref zmb, .int mt, .ref zca, .ref zcw, .int (nI c), .ref zg, .ref zt, .ref zs, .ref zf, .ref zy, .ref zso, .ref zsf, .ref zsm, .int nt, .int nsh, .ref ztp, .ref zrw, .ref zpp, .int (nI tn), .int (nI pn), .int rdw, .int rdh, .ref zsz, .ref zit, .ref zk, .int (bI itk)]))] (fun vv ww => vv = some (.int (-1)) ∧ ww = [(md, .inr (9, [.int (nI W), .int (nI H), .int t, .int (nI m), .int (nI k), .ref zc, .ref zr, .ref zb, .ref z1, .ref z2, .ref z3, .ref z4, .ref z5, .ref zm, .ref zmr, .ref zmb, .int mt, .ref zca, .ref zcw, .int (nI c), .ref zg, .ref zt, .ref zs, .ref zf, .ref zy, .ref zso, .ref zsf, .ref zsm, .int nt, .int nsh, .ref ztp, .ref zrw, .ref zpp, .int (nI tn), .int (nI pn), .int rdw, .int rdh, .ref zsz, .ref zit, .ref zk, .int (bI itk)]))]) := by
  refine CT.of (lv := [(0, .ref md), (1, .int w)]) RX9 "told" rfl rfl (by decide +kernel) (Nat.le_of_ble_eq_true rfl) rfl (fun X hX hR => ?_)
  refine j_iload_n (pc := 0) hX dX9_told_0 1 rfl ?_
  rcases (show w.toInt = 0 ∨ w.toInt = 1 ∨ w.toInt = 2 ∨ w.toInt = 3 ∨ w.toInt = 4 ∨ w.toInt = 5 ∨ w.toInt = 6 ∨ w.toInt = 7 ∨ (w.toInt < 0 ∨ 7 < w.toInt) from by omega) with s1 | s1 | s1 | s1 | s1 | s1 | s1 | s1 | s1
  · skip
    exfalso; omega
  · skip
    exfalso; omega
  · skip
    exfalso; omega
  · skip
    exfalso; omega
  · skip
    exfalso; omega
  · skip
    exfalso; omega
  · skip
    exfalso; omega
  · skip
    exfalso; omega
  · skip
    refine j_tsOut (pc := 1) (tgt := 114) hX dX9_told_1 s1 (by decide) ?_
    refine j_iconst (pc := 114) (v := (-1)) hX dX9_told_114 (by decide) ?_
    exact j_iret (pc := 115) hX hR dX9_told_115 ⟨rfl, rfl⟩
