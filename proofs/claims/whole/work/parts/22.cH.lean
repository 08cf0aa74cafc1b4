set_option maxHeartbeats 4000000 in
set_option maxRecDepth 100000 in
theorem c_X9_size_ok (G : GT) (md : Nat) (W : Nat) (H : Nat) (t : Int32) (m : Nat) (k : Nat) (zc : Nat) (zr : Nat) (zb : Nat) (z1 : Nat) (z2 : Nat) (z3 : Nat) (z4 : Nat) (z5 : Nat) (zm : Nat) (zmr : Nat) (zmb : Nat) (mt : Int32) (zca : Nat) (zcw : Nat) (c : Nat) (zg : Nat) (zt : Nat) (zs : Nat) (zf : Nat) (zy : Nat) (zso : Nat) (zsf : Nat) (zsm : Nat) (nt : Int32) (nsh : Int32) (ztp : Nat) (zrw : Nat) (zpp : Nat) (tn : Nat) (pn : Nat) (rdw : Int32) (rdh : Int32) (zsz : Nat) (zit : Nat) (zk : Nat) (itk : Bool) (f : Nat → Int32) (w h : Nat) (hw : 2 ≤ w ∧ w ≤ 16 ∧ w % 2 = 0) (hh : 2 ≤ h ∧ h ≤ 16 ∧ h % 2 = 0) (l : Launch) : CT l G yX9_size cX9_size 5 (some .int) { frames := 1, cells := 0, slots := 0, locals := 25 } [.ref md, .int (nI w), .int (nI h)] [(md, .inr (9, [.int (nI W), .int (nI H), .int t, .int (nI m), .int (nI k), .ref zc, .ref zr, .ref zb, .ref z1, .ref z2, .ref z3, .ref z4, .ref z5, .ref zm, .ref zmr, .ref zmb, .int mt, .ref zca, .ref zcw, .int (nI c), .ref zg, .ref zt, .ref zs, .ref zf, .ref zy, .ref zso, .ref zsf, .ref zsm, .int nt, .int nsh, .ref ztp, .ref zrw, .ref zpp, .int (nI tn), .int (nI pn), .int rdw, .int rdh, .ref zsz, .ref zit, .ref zk, .int (bI itk)])), (zc, ia G 16 f)] (fun vv ww => vv = some (.int (nI (100 * W + H))) ∧ ww = [(md, .inr (9, [.int (nI w), .int (nI h), .int (nI 0), .int (nI m), .int (nI k), .ref zc, .ref zr, .ref zb, .ref z1, .ref z2, .ref z3, .ref z4, .ref z5, .ref zm, .ref zmr, .ref zmb, .int mt, .ref zca, .ref zcw, .int (nI 0), .ref zg, .ref zt, .ref zs, .ref zf, .ref zy, .ref zso, .ref zsf, .ref zsm, .int nt, .int nsh, .ref ztp, .ref zrw, .ref zpp, .int (nI tn), .int (nI pn), .int rdw, .int rdh, .ref zsz, .ref zit, .ref zk, .int (bI itk)])), (zc, ia G 16 (fun _ => 0))]) := by
  refine CT.of (lv := [(0, .ref md), (1, .int (nI w)), (2, .int (nI h))]) RX9 "size" rfl rfl (by decide +kernel) (Nat.le_of_ble_eq_true rfl) rfl (fun X hX hR => ?_)
  refine j_iload_n (pc := 0) hX dX9_size_0 1 rfl ?_
  refine j_i2l (pc := 1) hX dX9_size_1 ?_
  refine j_ldc2 (pc := 2) (v := (2)) hX k_RX9_152 dX9_size_2 ?_
  refine j_ldc2 (pc := 5) (v := (16)) hX k_RX9_154 dX9_size_5 ?_
  refine j_callS (pc := 8) hX kX9_isIn kSX9_isIn l_RX9_105 (fun l => c_X9_isIn G ((nI w).toInt64) (2) (16) (rngB (nI w) (2) (16)) (inL_of (toL _) (show ((2) : Int64).toInt = 2 from by decide) (show ((16) : Int64).toInt = 16 from by decide)) l) [] [0, 1] [] rfl rfl rfl rfl ⟨rfl, rfl, by decide⟩ rfl rfl (Nat.le_of_ble_eq_true rfl) dX9_size_8 (fun v w hq => ?_)
  obtain ⟨rfl, rfl⟩ := hq
  refine j_ws [0, 1] (ws' := [(md, .inr (9, [.int (nI W), .int (nI H), .int t, .int (nI m), .int (nI k), .ref zc, .ref zr, .ref zb, .ref z1, .ref z2, .ref z3, .ref z4, .ref z5, .ref zm, .ref zmr, .ref zmb, .int mt, .ref zca, .ref zcw, .int (nI c), .ref zg, .ref zt, .ref zs, .ref zf, .ref zy, .ref zso, .ref zsf, .ref zsm, .int nt, .int nsh, .ref ztp, .ref zrw, .ref zpp, .int (nI tn), .int (nI pn), .int rdw, .int rdh, .ref zsz, .ref zit, .ref zk, .int (bI itk)])), (zc, ia G 16 f)]) rfl rfl ?_
  refine j_ifB_eq (pc := 11) (tgt := 40) hX dX9_size_11 (by decide) (fun c11 => by rw [rng_t (x := nI w) (A := 2) (B := 16) (by rw [nI_toInt (by omega)]; omega)] at c11; cases c11) (fun c11 => ?_)
  refine j_iload_n (pc := 14) hX dX9_size_14 2 rfl ?_
  refine j_i2l (pc := 15) hX dX9_size_15 ?_
  refine j_ldc2 (pc := 16) (v := (2)) hX k_RX9_152 dX9_size_16 ?_
  refine j_ldc2 (pc := 19) (v := (16)) hX k_RX9_154 dX9_size_19 ?_
  refine j_callS (pc := 22) hX kX9_isIn kSX9_isIn l_RX9_105 (fun l => c_X9_isIn G ((nI h).toInt64) (2) (16) (rngB (nI h) (2) (16)) (inL_of (toL _) (show ((2) : Int64).toInt = 2 from by decide) (show ((16) : Int64).toInt = 16 from by decide)) l) [] [0, 1] [] rfl rfl rfl rfl ⟨rfl, rfl, by decide⟩ rfl rfl (Nat.le_of_ble_eq_true rfl) dX9_size_22 (fun v w hq => ?_)
  obtain ⟨rfl, rfl⟩ := hq
  refine j_ws [0, 1] (ws' := [(md, .inr (9, [.int (nI W), .int (nI H), .int t, .int (nI m), .int (nI k), .ref zc, .ref zr, .ref zb, .ref z1, .ref z2, .ref z3, .ref z4, .ref z5, .ref zm, .ref zmr, .ref zmb, .int mt, .ref zca, .ref zcw, .int (nI c), .ref zg, .ref zt, .ref zs, .ref zf, .ref zy, .ref zso, .ref zsf, .ref zsm, .int nt, .int nsh, .ref ztp, .ref zrw, .ref zpp, .int (nI tn), .int (nI pn), .int rdw, .int rdh, .ref zsz, .ref zit, .ref zk, .int (bI itk)])), (zc, ia G 16 f)]) rfl rfl ?_
  refine j_ifB_eq (pc := 25) (tgt := 40) hX dX9_size_25 (by decide) (fun c25 => by rw [rng_t (x := nI h) (A := 2) (B := 16) (by rw [nI_toInt (by omega)]; omega)] at c25; cases c25) (fun c25 => ?_)
  refine j_iload_n (pc := 28) hX dX9_size_28 1 rfl ?_
  refine j_iconstN (pc := 29) (j := 2) hX dX9_size_29 rfl ?_
  refine j_irem (pc := 30) hX dX9_size_30 (by decide) ?_
  refine j_topi (y := nI (w % 2)) (pk_rem (by omega) (by omega) (by omega)) ?_
  refine j_if_ne (pc := 31) (tgt := 40) hX dX9_size_31 (by decide) (nI_toInt (n := w % 2) (by omega)) (fun c31 => by exfalso; omega) (fun c31 => ?_)
  refine j_iload_n (pc := 34) hX dX9_size_34 2 rfl ?_
  refine j_iconstN (pc := 35) (j := 2) hX dX9_size_35 rfl ?_
  refine j_irem (pc := 36) hX dX9_size_36 (by decide) ?_
  refine j_topi (y := nI (h % 2)) (pk_rem (by omega) (by omega) (by omega)) ?_
  refine j_if_eq (pc := 37) (tgt := 43) hX dX9_size_37 (by decide) (nI_toInt (n := h % 2) (by omega)) (fun c37 => ?_) (fun c37 => by exfalso; omega)
  refine j_bipush (pc := 43) (v := nI 100) hX dX9_size_43 (by decide) ?_
  refine j_aload_n (pc := 45) hX dX9_size_45 0 rfl ?_
  refine j_get (pc := 46) hX f_RX9_9 0 rfl rfl dX9_size_46 ?_
  refine j_imul (pc := 49) hX dX9_size_49 ?_
  refine j_topi (y := nI (100 * W)) (pk_mul _ _) ?_
  refine j_aload_n (pc := 50) hX dX9_size_50 0 rfl ?_
  refine j_get (pc := 51) hX f_RX9_15 0 rfl rfl dX9_size_51 ?_
  refine j_iadd (pc := 54) hX dX9_size_54 ?_
  refine j_topi (y := nI (100 * W + H)) (nI_add _ _) ?_
  refine j_istore_n (pc := 55) (lv' := [(3, .int (nI (100 * W + H))), (0, .ref md), (1, .int (nI w)), (2, .int (nI h))]) hX dX9_size_55 (by decide) rfl ?_
  refine j_aload_n (pc := 56) hX dX9_size_56 1 rfl ?_
  refine j_iload_n (pc := 57) hX dX9_size_57 2 rfl ?_
  refine j_put (pc := 58) (ws' := [(md, .inr (9, [.int (nI w), .int (nI H), .int t, .int (nI m), .int (nI k), .ref zc, .ref zr, .ref zb, .ref z1, .ref z2, .ref z3, .ref z4, .ref z5, .ref zm, .ref zmr, .ref zmb, .int mt, .ref zca, .ref zcw, .int (nI c), .ref zg, .ref zt, .ref zs, .ref zf, .ref zy, .ref zso, .ref zsf, .ref zsm, .int nt, .int nsh, .ref ztp, .ref zrw, .ref zpp, .int (nI tn), .int (nI pn), .int rdw, .int rdh, .ref zsz, .ref zit, .ref zk, .int (bI itk)])), (zc, ia G 16 f)]) hX f_RX9_9 0 rfl rfl rfl (Nat.le_of_ble_eq_true rfl) rfl dX9_size_58 ?_
  refine j_aload_n (pc := 61) hX dX9_size_61 1 rfl ?_
  refine j_iload_n (pc := 62) hX dX9_size_62 3 rfl ?_
  refine j_put (pc := 63) (ws' := [(md, .inr (9, [.int (nI w), .int (nI h), .int t, .int (nI m), .int (nI k), .ref zc, .ref zr, .ref zb, .ref z1, .ref z2, .ref z3, .ref z4, .ref z5, .ref zm, .ref zmr, .ref zmb, .int mt, .ref zca, .ref zcw, .int (nI c), .ref zg, .ref zt, .ref zs, .ref zf, .ref zy, .ref zso, .ref zsf, .ref zsm, .int nt, .int nsh, .ref ztp, .ref zrw, .ref zpp, .int (nI tn), .int (nI pn), .int rdw, .int rdh, .ref zsz, .ref zit, .ref zk, .int (bI itk)])), (zc, ia G 16 f)]) hX f_RX9_15 0 rfl rfl rfl (Nat.le_of_ble_eq_true rfl) rfl dX9_size_63 ?_
  refine j_iconstN (pc := 66) (j := 0) hX dX9_size_66 rfl ?_
  refine j_istore (pc := 67) (lv' := [(4, .int (nI 0)), (3, .int (nI (100 * W + H))), (0, .ref md), (1, .int (nI w)), (2, .int (nI h))]) hX dX9_size_67 (by decide) rfl ?_
  have L69 : ∀ (m69 : Nat) (y : Nat) (g2 : Nat → Int32) (hy : y ≤ 16) (hg : ∀ z, z < y → g2 z = 0), 16 - y < m69 → J X G 5 0 0 [(md, .inr (9, [.int (nI w), .int (nI h), .int t, .int (nI m), .int (nI k), .ref zc, .ref zr, .ref zb, .ref z1, .ref z2, .ref z3, .ref z4, .ref z5, .ref zm, .ref zmr, .ref zmb, .int mt, .ref zca, .ref zcw, .int (nI c), .ref zg, .ref zt, .ref zs, .ref zf, .ref zy, .ref zso, .ref zsf, .ref zsm, .int nt, .int nsh, .ref ztp, .ref zrw, .ref zpp, .int (nI tn), .int (nI pn), .int rdw, .int rdh, .ref zsz, .ref zit, .ref zk, .int (bI itk)])), (zc, ia G 16 g2)] [(0, .ref md), (1, .int (nI w)), (2, .int (nI h)), (3, .int (nI (100 * W + H))), (4, .int (nI y))] 69 [] := by
    intro m69
    induction m69 with
    | zero => intro y g2 hy hg hm69; exact absurd hm69 (Nat.not_lt_zero _)
    | succ m69 ih69 =>
      intro y g2 hy hg hm69
      refine j_iload (pc := 69) hX dX9_size_69 4 rfl ?_
      refine j_bipush (pc := 71) (v := nI 16) hX dX9_size_71 (by decide) ?_
      refine j_icmp_ge (pc := 73) (tgt := 90) hX dX9_size_73 (by decide) (nI_toInt (n := y) (by omega)) (nI_toInt (n := 16) (by decide)) (fun c73 => ?_) (fun c73 => ?_)
      · skip
        refine j_aload_n (pc := 90) hX dX9_size_90 0 rfl ?_
        refine j_iconstN (pc := 91) (j := 0) hX dX9_size_91 rfl ?_
        refine j_put (pc := 92) (ws' := [(md, .inr (9, [.int (nI w), .int (nI h), .int (nI 0), .int (nI m), .int (nI k), .ref zc, .ref zr, .ref zb, .ref z1, .ref z2, .ref z3, .ref z4, .ref z5, .ref zm, .ref zmr, .ref zmb, .int mt, .ref zca, .ref zcw, .int (nI c), .ref zg, .ref zt, .ref zs, .ref zf, .ref zy, .ref zso, .ref zsf, .ref zsm, .int nt, .int nsh, .ref ztp, .ref zrw, .ref zpp, .int (nI tn), .int (nI pn), .int rdw, .int rdh, .ref zsz, .ref zit, .ref zk, .int (bI itk)])), (zc, ia G 16 g2)]) hX f_RX9_142 0 rfl rfl rfl (Nat.le_of_ble_eq_true rfl) rfl dX9_size_92 ?_
        refine j_aload_n (pc := 95) hX dX9_size_95 0 rfl ?_
        refine j_iconstN (pc := 96) (j := 0) hX dX9_size_96 rfl ?_
        refine j_put (pc := 97) (ws' := [(md, .inr (9, [.int (nI w), .int (nI h), .int (nI 0), .int (nI m), .int (nI k), .ref zc, .ref zr, .ref zb, .ref z1, .ref z2, .ref z3, .ref z4, .ref z5, .ref zm, .ref zmr, .ref zmb, .int mt, .ref zca, .ref zcw, .int (nI 0), .ref zg, .ref zt, .ref zs, .ref zf, .ref zy, .ref zso, .ref zsf, .ref zsm, .int nt, .int nsh, .ref ztp, .ref zrw, .ref zpp, .int (nI tn), .int (nI pn), .int rdw, .int rdh, .ref zsz, .ref zit, .ref zk, .int (bI itk)])), (zc, ia G 16 g2)]) hX f_RX9_156 0 rfl rfl rfl (Nat.le_of_ble_eq_true rfl) rfl dX9_size_97 ?_
        refine j_iload_n (pc := 100) hX dX9_size_100 3 rfl ?_
        refine j_ia (q0 := 1) (f := g2) (g := fun _ => 0) rfl (fun z hz => by exact hg z (by omega)) (ws' := [(md, .inr (9, [.int (nI w), .int (nI h), .int (nI 0), .int (nI m), .int (nI k), .ref zc, .ref zr, .ref zb, .ref z1, .ref z2, .ref z3, .ref z4, .ref z5, .ref zm, .ref zmr, .ref zmb, .int mt, .ref zca, .ref zcw, .int (nI 0), .ref zg, .ref zt, .ref zs, .ref zf, .ref zy, .ref zso, .ref zsf, .ref zsm, .int nt, .int nsh, .ref ztp, .ref zrw, .ref zpp, .int (nI tn), .int (nI pn), .int rdw, .int rdh, .ref zsz, .ref zit, .ref zk, .int (bI itk)])), (zc, ia G 16 (fun _ => 0))]) rfl ?_
        exact j_iret (pc := 101) hX hR dX9_size_101 ⟨rfl, rfl⟩
      · skip
        refine j_aload_n (pc := 76) hX dX9_size_76 0 rfl ?_
        refine j_get (pc := 77) hX f_RX9_18 0 rfl rfl dX9_size_77 ?_
        refine j_iload (pc := 80) hX dX9_size_80 4 rfl ?_
        refine j_iconstN (pc := 82) (j := 0) hX dX9_size_82 rfl ?_
        refine j_iastN (pc := 83) (j := y) (ws' := [(md, .inr (9, [.int (nI w), .int (nI h), .int t, .int (nI m), .int (nI k), .ref zc, .ref zr, .ref zb, .ref z1, .ref z2, .ref z3, .ref z4, .ref z5, .ref zm, .ref zmr, .ref zmb, .int mt, .ref zca, .ref zcw, .int (nI c), .ref zg, .ref zt, .ref zs, .ref zf, .ref zy, .ref zso, .ref zsf, .ref zsm, .int nt, .int nsh, .ref ztp, .ref zrw, .ref zpp, .int (nI tn), .int (nI pn), .int rdw, .int rdh, .ref zsz, .ref zit, .ref zk, .int (bI itk)])), (zc, ia G 16 (upd g2 y (nI 0)))]) hX 1 rfl (by omega) (by omega) rfl dX9_size_83 ?_
        refine j_iinc (pc := 84) (q := 4) (v := nI (y + 1)) (lv' := [(4, .int (nI (y + 1))), (0, .ref md), (1, .int (nI w)), (2, .int (nI h)), (3, .int (nI (100 * W + H)))]) hX dX9_size_84 rfl (nI_inc _ 1) (by decide) rfl ?_
        refine j_goto (pc := 87) (tgt := 69) hX dX9_size_87 (by decide) ?_
        refine j_lv [1, 2, 3, 4, 0] (lv' := [(0, .ref md), (1, .int (nI w)), (2, .int (nI h)), (3, .int (nI (100 * W + H))), (4, .int (nI (y + 1)))]) rfl ?_
        exact ih69 (y + 1) (upd g2 y (nI 0)) (by omega) (upd_fill (f := fun _ => 0) hg) (by omega)
  refine j_lv [2, 3, 4, 1, 0] (lv' := [(0, .ref md), (1, .int (nI w)), (2, .int (nI h)), (3, .int (nI (100 * W + H))), (4, .int (nI 0))]) rfl ?_
  exact L69 ((16 - 0) + 1) 0 f (by omega) (fun z hz => absurd hz (Nat.not_lt_zero _)) (Nat.lt_succ_self _)
set_option maxHeartbeats 4000000 in
set_option maxRecDepth 100000 in
theorem c_X9_size_bad (G : GT) (md : Nat) (W : Nat) (H : Nat) (t : Int32) (m : Nat) (k : Nat) (zc : Nat) (zr : Nat) (zb : Nat) (z1 : Nat) (z2 : Nat) (z3 : Nat) (z4 : Nat) (z5 : Nat) (zm : Nat) (zmr : Nat) (zmb : Nat) (mt : Int32) (zca : Nat) (zcw : Nat) (c : Nat) (zg : Nat) (zt : Nat) (zs : Nat) (zf : Nat) (zy : Nat) (zso : Nat) (zsf : Nat) (zsm : Nat) (nt : Int32) (nsh : Int32) (ztp : Nat) (zrw : Nat) (zpp : Nat) (tn : Nat) (pn : Nat) (rdw : Int32) (rdh : Int32) (zsz : Nat) (zit : Nat) (zk : Nat) (itk : Bool) (w h : Int32) (hb : (sideB w && sideB h) = false) (l : Launch) : CT l G yX9_size cX9_size 5 (some .int) { frames := 1, cells := 0, slots := 0, locals := 25 } [.ref md, .int w, .int h] [(md, .inr (9, [.int (nI W), .int (nI H), .int t, .int (nI m), .int (nI k), .ref zc, .ref zr, .ref zb, .ref z1, .ref z2, .ref z3, .ref z4, .ref z5, .ref zm, .ref zmr, .ref zmb, .int mt, .ref zca, .ref zcw, .int (nI c), .ref zg, .ref zt, .ref zs, .ref zf, .ref zy, .ref zso, .ref zsf, .ref zsm, .int nt, .int nsh, .ref ztp, .ref zrw, .ref zpp, .int (nI tn), .int (nI pn), .int rdw, .int rdh, .ref zsz, .ref zit, .ref zk, .int (bI itk)]))] (fun vv ww => vv = some (.int (-2)) ∧ ww = [(md, .inr (9, [.int (nI W), .int (nI H), .int t, .int (nI m), .int (nI k), .ref zc, .ref zr, .ref zb, .ref z1, .ref z2, .ref z3, .ref z4, .ref z5, .ref zm, .ref zmr, .ref zmb, .int mt, .ref zca, .ref zcw, .int (nI c), .ref zg, .ref zt, .ref zs, .ref zf, .ref zy, .ref zso, .ref zsf, .ref zsm, .int nt, .int nsh, .ref ztp, .ref zrw, .ref zpp, .int (nI tn), .int (nI pn), .int rdw, .int rdh, .ref zsz, .ref zit, .ref zk, .int (bI itk)]))]) := by
  refine CT.of (lv := [(0, .ref md), (1, .int w), (2, .int h)]) RX9 "size" rfl rfl (by decide +kernel) (Nat.le_of_ble_eq_true rfl) rfl (fun X hX hR => ?_)
  refine j_iload_n (pc := 0) hX dX9_size_0 1 rfl ?_
  refine j_i2l (pc := 1) hX dX9_size_1 ?_
  refine j_ldc2 (pc := 2) (v := (2)) hX k_RX9_152 dX9_size_2 ?_
  refine j_ldc2 (pc := 5) (v := (16)) hX k_RX9_154 dX9_size_5 ?_
  refine j_callS (pc := 8) hX kX9_isIn kSX9_isIn l_RX9_105 (fun l => c_X9_isIn G w.toInt64 (2) (16) (rngB w (2) (16)) (inL_of (toL _) (show ((2) : Int64).toInt = 2 from by decide) (show ((16) : Int64).toInt = 16 from by decide)) l) [] [0] [] rfl rfl rfl rfl ⟨rfl, rfl, by decide⟩ rfl rfl (Nat.le_of_ble_eq_true rfl) dX9_size_8 (fun v w hq => ?_)
  obtain ⟨rfl, rfl⟩ := hq
  refine j_ws [0] (ws' := [(md, .inr (9, [.int (nI W), .int (nI H), .int t, .int (nI m), .int (nI k), .ref zc, .ref zr, .ref zb, .ref z1, .ref z2, .ref z3, .ref z4, .ref z5, .ref zm, .ref zmr, .ref zmb, .int mt, .ref zca, .ref zcw, .int (nI c), .ref zg, .ref zt, .ref zs, .ref zf, .ref zy, .ref zso, .ref zsf, .ref zsm, .int nt, .int nsh, .ref ztp, .ref zrw, .ref zpp, .int (nI tn), .int (nI pn), .int rdw, .int rdh, .ref zsz, .ref zit, .ref zk, .int (bI itk)]))]) rfl rfl ?_
  refine j_ifB_eq (pc := 11) (tgt := 40) hX dX9_size_11 (by decide) (fun c11 => ?_) (fun c11 => ?_)
  · skip
    refine j_bipush (pc := 40) (v := (-2)) hX dX9_size_40 (by decide) ?_
    exact j_iret (pc := 42) hX hR dX9_size_42 ⟨rfl, rfl⟩
  · skip
    have c11 := of_decide_eq_true c11
    refine j_iload_n (pc := 14) hX dX9_size_14 2 rfl ?_
    refine j_i2l (pc := 15) hX dX9_size_15 ?_
    refine j_ldc2 (pc := 16) (v := (2)) hX k_RX9_152 dX9_size_16 ?_
    refine j_ldc2 (pc := 19) (v := (16)) hX k_RX9_154 dX9_size_19 ?_
    refine j_callS (pc := 22) hX kX9_isIn kSX9_isIn l_RX9_105 (fun l => c_X9_isIn G h.toInt64 (2) (16) (rngB h (2) (16)) (inL_of (toL _) (show ((2) : Int64).toInt = 2 from by decide) (show ((16) : Int64).toInt = 16 from by decide)) l) [] [0] [] rfl rfl rfl rfl ⟨rfl, rfl, by decide⟩ rfl rfl (Nat.le_of_ble_eq_true rfl) dX9_size_22 (fun v w hq => ?_)
    obtain ⟨rfl, rfl⟩ := hq
    refine j_ws [0] (ws' := [(md, .inr (9, [.int (nI W), .int (nI H), .int t, .int (nI m), .int (nI k), .ref zc, .ref zr, .ref zb, .ref z1, .ref z2, .ref z3, .ref z4, .ref z5, .ref zm, .ref zmr, .ref zmb, .int mt, .ref zca, .ref zcw, .int (nI c), .ref zg, .ref zt, .ref zs, .ref zf, .ref zy, .ref zso, .ref zsf, .ref zsm, .int nt, .int nsh, .ref ztp, .ref zrw, .ref zpp, .int (nI tn), .int (nI pn), .int rdw, .int rdh, .ref zsz, .ref zit, .ref zk, .int (bI itk)]))]) rfl rfl ?_
    refine j_ifB_eq (pc := 25) (tgt := 40) hX dX9_size_25 (by decide) (fun c25 => ?_) (fun c25 => ?_)
    · skip
      refine j_bipush (pc := 40) (v := (-2)) hX dX9_size_40 (by decide) ?_
      exact j_iret (pc := 42) hX hR dX9_size_42 ⟨rfl, rfl⟩
    · skip
      have c25 := of_decide_eq_true c25
      refine j_iload_n (pc := 28) hX dX9_size_28 1 rfl ?_
      refine j_iconstN (pc := 29) (j := 2) hX dX9_size_29 rfl ?_
      refine j_irem (pc := 30) hX dX9_size_30 (by decide) ?_
      refine j_topi (y := nI ((w.toInt % 2).toNat)) ((div_nI (x := w) (by omega) 2 (by decide) (by decide)).2) ?_
      have hwb := fb_rng w
      refine j_if_ne (pc := 31) (tgt := 40) hX dX9_size_31 (by decide) (nI_toInt (n := (w.toInt % 2).toNat) (by omega)) (fun c31 => ?_) (fun c31 => ?_)
      · skip
        refine j_bipush (pc := 40) (v := (-2)) hX dX9_size_40 (by decide) ?_
        exact j_iret (pc := 42) hX hR dX9_size_42 ⟨rfl, rfl⟩
      · skip
        refine j_iload_n (pc := 34) hX dX9_size_34 2 rfl ?_
        refine j_iconstN (pc := 35) (j := 2) hX dX9_size_35 rfl ?_
        refine j_irem (pc := 36) hX dX9_size_36 (by decide) ?_
        refine j_topi (y := nI ((h.toInt % 2).toNat)) ((div_nI (x := h) (by omega) 2 (by decide) (by decide)).2) ?_
        have hhb := fb_rng h
        refine j_if_eq (pc := 37) (tgt := 43) hX dX9_size_37 (by decide) (nI_toInt (n := (h.toInt % 2).toNat) (by omega)) (fun c37 => by exfalso; rw [show sideB w = true from decide_eq_true (by omega), show sideB h = true from decide_eq_true (by omega)] at hb; cases hb) (fun c37 => ?_)
        refine j_bipush (pc := 40) (v := (-2)) hX dX9_size_40 (by decide) ?_
        exact j_iret (pc := 42) hX hR dX9_size_42 ⟨rfl, rfl⟩
set_option maxHeartbeats 4000000 in
set_option maxRecDepth 100000 in
theorem c_X9_toggle_ok (G : GT) (md : Nat) (W : Nat) (H : Nat) (t : Int32) (m : Nat) (k : Nat) (zc : Nat) (zr : Nat) (zb : Nat) (z1 : Nat) (z2 : Nat) (z3 : Nat) (z4 : Nat) (z5 : Nat) (zm : Nat) (zmr : Nat) (zmb : Nat) (mt : Int32) (zca : Nat) (zcw : Nat) (c : Nat) (zg : Nat) (zt : Nat) (zs : Nat) (zf : Nat) (zy : Nat) (zso : Nat) (zsf : Nat) (zsm : Nat) (nt : Int32) (nsh : Int32) (ztp : Nat) (zrw : Nat) (zpp : Nat) (tn : Nat) (pn : Nat) (rdw : Int32) (rdh : Int32) (zsz : Nat) (zit : Nat) (zk : Nat) (itk : Bool) (f : Nat → Int32) (ca : Nat → Nat) (c2 : Nat → Int32) (xx yy : Nat) (hW1 : 2 ≤ W) (hW2 : W ≤ 16) (hH1 : 2 ≤ H) (hH2 : H ≤ 16) (hX1 : xx < W) (hY1 : yy < H) (hc : c < 12) (l : Launch) : CT l G yX9_toggle cX9_toggle 4 (some .int) { frames := 2, cells := 0, slots := 0, locals := 47 } [.ref md, .int (nI xx), .int (nI yy)] [(md, .inr (9, [.int (nI W), .int (nI H), .int t, .int (nI m), .int (nI k), .ref zc, .ref zr, .ref zb, .ref z1, .ref z2, .ref z3, .ref z4, .ref z5, .ref zm, .ref zmr, .ref zmb, .int mt, .ref zca, .ref zcw, .int (nI c), .ref zg, .ref zt, .ref zs, .ref zf, .ref zy, .ref zso, .ref zsf, .ref zsm, .int nt, .int nsh, .ref ztp, .ref zrw, .ref zpp, .int (nI tn), .int (nI pn), .int rdw, .int rdh, .ref zsz, .ref zit, .ref zk, .int (bI itk)])), (zc, ia G 16 f), (zca, ia G 12 (fun ι => nI (ca ι))), (zcw, ia G 12 c2)] (fun vv ww => vv = some (.int (bI (bt (flp W H f xx yy yy) xx))) ∧ ww = [(md, .inr (9, [.int (nI W), .int (nI H), .int t, .int (nI m), .int (nI k), .ref zc, .ref zr, .ref zb, .ref z1, .ref z2, .ref z3, .ref z4, .ref z5, .ref zm, .ref zmr, .ref zmb, .int mt, .ref zca, .ref zcw, .int (nI (c + 1)), .ref zg, .ref zt, .ref zs, .ref zf, .ref zy, .ref zso, .ref zsf, .ref zsm, .int nt, .int nsh, .ref ztp, .ref zrw, .ref zpp, .int (nI tn), .int (nI pn), .int rdw, .int rdh, .ref zsz, .ref zit, .ref zk, .int (bI itk)])), (zc, ia G 16 (flp W H f xx yy)), (zca, ia G 12 (fun ι => nI (updN ca c (100 * xx + yy) ι))), (zcw, ia G 12 (upd c2 c t))]) := by
  refine CT.of (lv := [(0, .ref md), (1, .int (nI xx)), (2, .int (nI yy))]) RX9 "toggle" rfl rfl (by decide +kernel) (Nat.le_of_ble_eq_true rfl) rfl (fun X hX hR => ?_)
  refine j_aload_n (pc := 0) hX dX9_toggle_0 0 rfl ?_
  refine j_iload_n (pc := 1) hX dX9_toggle_1 1 rfl ?_
  refine j_iload_n (pc := 2) hX dX9_toggle_2 2 rfl ?_
  refine j_callV (pc := 3) hX kX9_isCell kVX9_isCell l_RX9_159 (fun l => c_X9_isCell G md W H t m k zc zr zb z1 z2 z3 z4 z5 zm zmr zmb mt zca zcw c zg zt zs zf zy zso zsf zsm nt nsh ztp zrw zpp tn pn rdw rdh zsz zit zk itk (nI xx) (nI yy) (by omega) (by omega) (by omega) (by omega) l) [0] [1, 2, 3] [] rfl 0 9 rfl rfl rfl rfl rfl rfl ⟨rfl, rfl, by decide⟩ rfl rfl (Nat.le_of_ble_eq_true rfl) dX9_toggle_3 (fun v w hq => ?_)
  obtain ⟨rfl, rfl⟩ := hq
  refine j_ws [3, 0, 1, 2] (ws' := [(md, .inr (9, [.int (nI W), .int (nI H), .int t, .int (nI m), .int (nI k), .ref zc, .ref zr, .ref zb, .ref z1, .ref z2, .ref z3, .ref z4, .ref z5, .ref zm, .ref zmr, .ref zmb, .int mt, .ref zca, .ref zcw, .int (nI c), .ref zg, .ref zt, .ref zs, .ref zf, .ref zy, .ref zso, .ref zsf, .ref zsm, .int nt, .int nsh, .ref ztp, .ref zrw, .ref zpp, .int (nI tn), .int (nI pn), .int rdw, .int rdh, .ref zsz, .ref zit, .ref zk, .int (bI itk)])), (zc, ia G 16 f), (zca, ia G 12 (fun ι => nI (ca ι))), (zcw, ia G 12 c2)]) rfl rfl ?_
  refine j_ifB_ne (pc := 6) (tgt := 11) hX dX9_toggle_6 (by decide) (fun c6 => ?_) (fun c6 => by rw [inG_in (by omega) (by omega) (by omega) (by omega)] at c6; cases c6)
  refine j_aload_n (pc := 11) hX dX9_toggle_11 0 rfl ?_
  refine j_get (pc := 12) hX f_RX9_156 0 rfl rfl dX9_toggle_12 ?_
  refine j_bipush (pc := 15) (v := nI 12) hX dX9_toggle_15 (by decide) ?_
  refine j_icmp_ne (pc := 17) (tgt := 72) hX dX9_toggle_17 (by decide) (nI_toInt (n := c) (by omega)) (nI_toInt (n := 12) (by decide)) (fun c17 => ?_) (fun c17 => by exfalso; omega)
  refine j_aload_n (pc := 72) hX dX9_toggle_72 0 rfl ?_
  refine j_get (pc := 73) hX f_RX9_18 0 rfl rfl dX9_toggle_73 ?_
  refine j_iload_n (pc := 76) hX dX9_toggle_76 2 rfl ?_
  refine j_dup2 (pc := 77) hX dX9_toggle_77 rfl rfl ?_
  refine j_ialdN (pc := 78) (j := yy) hX 1 rfl (by omega) (by omega) dX9_toggle_78 ?_
  refine j_iconstN (pc := 79) (j := 1) hX dX9_toggle_79 rfl ?_
  refine j_iload_n (pc := 80) hX dX9_toggle_80 1 rfl ?_
  refine j_ishl (pc := 81) hX dX9_toggle_81 ?_
  refine j_ixor (pc := 82) hX dX9_toggle_82 ?_
  refine j_iastN (pc := 83) (j := yy) (ws' := [(md, .inr (9, [.int (nI W), .int (nI H), .int t, .int (nI m), .int (nI k), .ref zc, .ref zr, .ref zb, .ref z1, .ref z2, .ref z3, .ref z4, .ref z5, .ref zm, .ref zmr, .ref zmb, .int mt, .ref zca, .ref zcw, .int (nI c), .ref zg, .ref zt, .ref zs, .ref zf, .ref zy, .ref zso, .ref zsf, .ref zsm, .int nt, .int nsh, .ref ztp, .ref zrw, .ref zpp, .int (nI tn), .int (nI pn), .int rdw, .int rdh, .ref zsz, .ref zit, .ref zk, .int (bI itk)])), (zc, ia G 16 (upd f yy ((f yy) ^^^ ((nI 1) <<< ((nI xx) &&& 31))))), (zca, ia G 12 (fun ι => nI (ca ι))), (zcw, ia G 12 c2)]) hX 1 rfl (by omega) (by omega) rfl dX9_toggle_83 ?_
  refine j_ia (q0 := 1) (f := upd f yy ((f yy) ^^^ ((nI 1) <<< ((nI xx) &&& 31)))) (g := flp W H f xx yy) rfl (fun z hz => by rw [flp_in hX1 hY1]) (ws' := [(md, .inr (9, [.int (nI W), .int (nI H), .int t, .int (nI m), .int (nI k), .ref zc, .ref zr, .ref zb, .ref z1, .ref z2, .ref z3, .ref z4, .ref z5, .ref zm, .ref zmr, .ref zmb, .int mt, .ref zca, .ref zcw, .int (nI c), .ref zg, .ref zt, .ref zs, .ref zf, .ref zy, .ref zso, .ref zsf, .ref zsm, .int nt, .int nsh, .ref ztp, .ref zrw, .ref zpp, .int (nI tn), .int (nI pn), .int rdw, .int rdh, .ref zsz, .ref zit, .ref zk, .int (bI itk)])), (zc, ia G 16 (flp W H f xx yy)), (zca, ia G 12 (fun ι => nI (ca ι))), (zcw, ia G 12 c2)]) rfl ?_
  refine j_aload_n (pc := 84) hX dX9_toggle_84 0 rfl ?_
  refine j_get (pc := 85) hX f_RX9_52 0 rfl rfl dX9_toggle_85 ?_
  refine j_aload_n (pc := 88) hX dX9_toggle_88 0 rfl ?_
  refine j_get (pc := 89) hX f_RX9_156 0 rfl rfl dX9_toggle_89 ?_
  refine j_bipush (pc := 92) (v := nI 100) hX dX9_toggle_92 (by decide) ?_
  refine j_iload_n (pc := 94) hX dX9_toggle_94 1 rfl ?_
  refine j_imul (pc := 95) hX dX9_toggle_95 ?_
  refine j_topi (y := nI (100 * xx)) (pk_mul _ _) ?_
  refine j_iload_n (pc := 96) hX dX9_toggle_96 2 rfl ?_
  refine j_iadd (pc := 97) hX dX9_toggle_97 ?_
  refine j_topi (y := nI (100 * xx + yy)) (nI_add _ _) ?_
  refine j_iastN (pc := 98) (j := c) (ws' := [(md, .inr (9, [.int (nI W), .int (nI H), .int t, .int (nI m), .int (nI k), .ref zc, .ref zr, .ref zb, .ref z1, .ref z2, .ref z3, .ref z4, .ref z5, .ref zm, .ref zmr, .ref zmb, .int mt, .ref zca, .ref zcw, .int (nI c), .ref zg, .ref zt, .ref zs, .ref zf, .ref zy, .ref zso, .ref zsf, .ref zsm, .int nt, .int nsh, .ref ztp, .ref zrw, .ref zpp, .int (nI tn), .int (nI pn), .int rdw, .int rdh, .ref zsz, .ref zit, .ref zk, .int (bI itk)])), (zc, ia G 16 (flp W H f xx yy)), (zca, ia G 12 (upd (fun ι => nI (ca ι)) c (nI (100 * xx + yy)))), (zcw, ia G 12 c2)]) hX 2 rfl (by omega) (by omega) rfl dX9_toggle_98 ?_
  refine j_ia (q0 := 2) (f := upd (fun ι => nI (ca ι)) c (nI (100 * xx + yy))) (g := fun ι => nI (updN ca c (100 * xx + yy) ι)) rfl (fun z hz => by exact updNI) (ws' := [(md, .inr (9, [.int (nI W), .int (nI H), .int t, .int (nI m), .int (nI k), .ref zc, .ref zr, .ref zb, .ref z1, .ref z2, .ref z3, .ref z4, .ref z5, .ref zm, .ref zmr, .ref zmb, .int mt, .ref zca, .ref zcw, .int (nI c), .ref zg, .ref zt, .ref zs, .ref zf, .ref zy, .ref zso, .ref zsf, .ref zsm, .int nt, .int nsh, .ref ztp, .ref zrw, .ref zpp, .int (nI tn), .int (nI pn), .int rdw, .int rdh, .ref zsz, .ref zit, .ref zk, .int (bI itk)])), (zc, ia G 16 (flp W H f xx yy)), (zca, ia G 12 (fun ι => nI (updN ca c (100 * xx + yy) ι))), (zcw, ia G 12 c2)]) rfl ?_
  refine j_aload_n (pc := 99) hX dX9_toggle_99 0 rfl ?_
  refine j_get (pc := 100) hX f_RX9_55 0 rfl rfl dX9_toggle_100 ?_
  refine j_aload_n (pc := 103) hX dX9_toggle_103 0 rfl ?_
  refine j_get (pc := 104) hX f_RX9_156 0 rfl rfl dX9_toggle_104 ?_
  refine j_aload_n (pc := 107) hX dX9_toggle_107 0 rfl ?_
  refine j_get (pc := 108) hX f_RX9_142 0 rfl rfl dX9_toggle_108 ?_
  refine j_iastN (pc := 111) (j := c) (ws' := [(md, .inr (9, [.int (nI W), .int (nI H), .int t, .int (nI m), .int (nI k), .ref zc, .ref zr, .ref zb, .ref z1, .ref z2, .ref z3, .ref z4, .ref z5, .ref zm, .ref zmr, .ref zmb, .int mt, .ref zca, .ref zcw, .int (nI c), .ref zg, .ref zt, .ref zs, .ref zf, .ref zy, .ref zso, .ref zsf, .ref zsm, .int nt, .int nsh, .ref ztp, .ref zrw, .ref zpp, .int (nI tn), .int (nI pn), .int rdw, .int rdh, .ref zsz, .ref zit, .ref zk, .int (bI itk)])), (zc, ia G 16 (flp W H f xx yy)), (zca, ia G 12 (fun ι => nI (updN ca c (100 * xx + yy) ι))), (zcw, ia G 12 (upd c2 c t))]) hX 3 rfl (by omega) (by omega) rfl dX9_toggle_111 ?_
  refine j_aload_n (pc := 112) hX dX9_toggle_112 0 rfl ?_
  refine j_dup (pc := 113) hX dX9_toggle_113 rfl ?_
  refine j_get (pc := 114) hX f_RX9_156 0 rfl rfl dX9_toggle_114 ?_
  refine j_iconstN (pc := 117) (j := 1) hX dX9_toggle_117 rfl ?_
  refine j_iadd (pc := 118) hX dX9_toggle_118 ?_
  refine j_topi (y := nI (c + 1)) (nI_add _ _) ?_
  refine j_put (pc := 119) (ws' := [(md, .inr (9, [.int (nI W), .int (nI H), .int t, .int (nI m), .int (nI k), .ref zc, .ref zr, .ref zb, .ref z1, .ref z2, .ref z3, .ref z4, .ref z5, .ref zm, .ref zmr, .ref zmb, .int mt, .ref zca, .ref zcw, .int (nI (c + 1)), .ref zg, .ref zt, .ref zs, .ref zf, .ref zy, .ref zso, .ref zsf, .ref zsm, .int nt, .int nsh, .ref ztp, .ref zrw, .ref zpp, .int (nI tn), .int (nI pn), .int rdw, .int rdh, .ref zsz, .ref zit, .ref zk, .int (bI itk)])), (zc, ia G 16 (flp W H f xx yy)), (zca, ia G 12 (fun ι => nI (updN ca c (100 * xx + yy) ι))), (zcw, ia G 12 (upd c2 c t))]) hX f_RX9_156 0 rfl rfl rfl (Nat.le_of_ble_eq_true rfl) rfl dX9_toggle_119 ?_
  refine j_aload_n (pc := 122) hX dX9_toggle_122 0 rfl ?_
  refine j_get (pc := 123) hX f_RX9_18 0 rfl rfl dX9_toggle_123 ?_
  refine j_iload_n (pc := 126) hX dX9_toggle_126 2 rfl ?_
  refine j_ialdN (pc := 127) (j := yy) hX 1 rfl (by omega) (by omega) dX9_toggle_127 ?_
  refine j_iload_n (pc := 128) hX dX9_toggle_128 1 rfl ?_
  refine j_ishr (pc := 129) hX dX9_toggle_129 ?_
  refine j_iconstN (pc := 130) (j := 1) hX dX9_toggle_130 rfl ?_
  refine j_iand (pc := 131) hX dX9_toggle_131 ?_
  refine j_topi (y := bI (bt (flp W H f xx yy yy) xx)) (bt_raw _ (by omega)) ?_
  exact j_iret (pc := 132) hX hR dX9_toggle_132 ⟨rfl, rfl⟩
set_option maxHeartbeats 4000000 in
set_option maxRecDepth 100000 in
theorem c_X9_toggle_full (G : GT) (md : Nat) (W : Nat) (H : Nat) (t : Int32) (m : Nat) (k : Nat) (zc : Nat) (zr : Nat) (zb : Nat) (z1 : Nat) (z2 : Nat) (z3 : Nat) (z4 : Nat) (z5 : Nat) (zm : Nat) (zmr : Nat) (zmb : Nat) (mt : Int32) (zca : Nat) (zcw : Nat) (zg : Nat) (zt : Nat) (zs : Nat) (zf : Nat) (zy : Nat) (zso : Nat) (zsf : Nat) (zsm : Nat) (nt : Int32) (nsh : Int32) (ztp : Nat) (zrw : Nat) (zpp : Nat) (tn : Nat) (pn : Nat) (rdw : Int32) (rdh : Int32) (zsz : Nat) (zit : Nat) (zk : Nat) (itk : Bool) (f : Nat → Int32) (ca : Nat → Nat) (c2 : Nat → Int32) (xx yy : Nat) (hW1 : 2 ≤ W) (hW2 : W ≤ 16) (hH1 : 2 ≤ H) (hH2 : H ≤ 16) (hX1 : xx < W) (hY1 : yy < H) (l : Launch) : CT l G yX9_toggle cX9_toggle 4 (some .int) { frames := 2, cells := 0, slots := 0, locals := 47 } [.ref md, .int (nI xx), .int (nI yy)] [(md, .inr (9, [.int (nI W), .int (nI H), .int t, .int (nI m), .int (nI k), .ref zc, .ref zr, .ref zb, .ref z1, .ref z2, .ref z3, .ref z4, .ref z5, .ref zm, .ref zmr, .ref zmb, .int mt, .ref zca, .ref zcw, .int (nI 12), .ref zg, .ref zt, .ref zs, .ref zf, .ref zy, .ref zso, .ref zsf, .ref zsm, .int nt, .int nsh, .ref ztp, .ref zrw, .ref zpp, .int (nI tn), .int (nI pn), .int rdw, .int rdh, .ref zsz, .ref zit, .ref zk, .int (bI itk)])), (zc, ia G 16 f), (zca, ia G 12 (fun ι => nI (ca ι))), (zcw, ia G 12 c2)] (fun vv ww => vv = some (.int (bI (bt (flp W H f xx yy yy) xx))) ∧ ww = [(md, .inr (9, [.int (nI W), .int (nI H), .int t, .int (nI m), .int (nI k), .ref zc, .ref zr, .ref zb, .ref z1, .ref z2, .ref z3, .ref z4, .ref z5, .ref zm, .ref zmr, .ref zmb, .int mt, .ref zca, .ref zcw, .int (nI 12), .ref zg, .ref zt, .ref zs, .ref zf, .ref zy, .ref zso, .ref zsf, .ref zsm, .int nt, .int nsh, .ref ztp, .ref zrw, .ref zpp, .int (nI tn), .int (nI pn), .int rdw, .int rdh, .ref zsz, .ref zit, .ref zk, .int (bI itk)])), (zc, ia G 16 (flp W H f xx yy)), (zca, ia G 12 (fun ι => nI (updN (shfN 12 ca) 11 (100 * xx + yy) ι))), (zcw, ia G 12 (upd (shf 12 c2) 11 t))]) := by
  refine CT.of (lv := [(0, .ref md), (1, .int (nI xx)), (2, .int (nI yy))]) RX9 "toggle" rfl rfl (by decide +kernel) (Nat.le_of_ble_eq_true rfl) rfl (fun X hX hR => ?_)
  refine j_aload_n (pc := 0) hX dX9_toggle_0 0 rfl ?_
  refine j_iload_n (pc := 1) hX dX9_toggle_1 1 rfl ?_
  refine j_iload_n (pc := 2) hX dX9_toggle_2 2 rfl ?_
  refine j_callV (pc := 3) hX kX9_isCell kVX9_isCell l_RX9_159 (fun l => c_X9_isCell G md W H t m k zc zr zb z1 z2 z3 z4 z5 zm zmr zmb mt zca zcw 12 zg zt zs zf zy zso zsf zsm nt nsh ztp zrw zpp tn pn rdw rdh zsz zit zk itk (nI xx) (nI yy) (by omega) (by omega) (by omega) (by omega) l) [0] [1, 2, 3] [] rfl 0 9 rfl rfl rfl rfl rfl rfl ⟨rfl, rfl, by decide⟩ rfl rfl (Nat.le_of_ble_eq_true rfl) dX9_toggle_3 (fun v w hq => ?_)
  obtain ⟨rfl, rfl⟩ := hq
  refine j_ws [3, 0, 1, 2] (ws' := [(md, .inr (9, [.int (nI W), .int (nI H), .int t, .int (nI m), .int (nI k), .ref zc, .ref zr, .ref zb, .ref z1, .ref z2, .ref z3, .ref z4, .ref z5, .ref zm, .ref zmr, .ref zmb, .int mt, .ref zca, .ref zcw, .int (nI 12), .ref zg, .ref zt, .ref zs, .ref zf, .ref zy, .ref zso, .ref zsf, .ref zsm, .int nt, .int nsh, .ref ztp, .ref zrw, .ref zpp, .int (nI tn), .int (nI pn), .int rdw, .int rdh, .ref zsz, .ref zit, .ref zk, .int (bI itk)])), (zc, ia G 16 f), (zca, ia G 12 (fun ι => nI (ca ι))), (zcw, ia G 12 c2)]) rfl rfl ?_
  refine j_ifB_ne (pc := 6) (tgt := 11) hX dX9_toggle_6 (by decide) (fun c6 => ?_) (fun c6 => by rw [inG_in (by omega) (by omega) (by omega) (by omega)] at c6; cases c6)
  refine j_aload_n (pc := 11) hX dX9_toggle_11 0 rfl ?_
  refine j_get (pc := 12) hX f_RX9_156 0 rfl rfl dX9_toggle_12 ?_
  refine j_bipush (pc := 15) (v := nI 12) hX dX9_toggle_15 (by decide) ?_
  refine j_icmp_ne (pc := 17) (tgt := 72) hX dX9_toggle_17 (by decide) (nI_toInt (n := 12) (by omega)) (nI_toInt (n := 12) (by decide)) (fun c17 => by exact absurd rfl c17) (fun c17 => ?_)
  refine j_iconstN (pc := 20) (j := 1) hX dX9_toggle_20 rfl ?_
  refine j_istore_n (pc := 21) (lv' := [(3, .int (nI 1)), (0, .ref md), (1, .int (nI xx)), (2, .int (nI yy))]) hX dX9_toggle_21 (by decide) rfl ?_
  have L22 : ∀ (m22 : Nat) (j : Nat) (ca3 : Nat → Nat) (w3 : Nat → Int32) (hj : 1 ≤ j ∧ j ≤ 12) (hA : ∀ z, z + 1 < j → ca3 z = ca (z + 1)) (hA2 : ∀ z, j ≤ z + 1 → ca3 z = ca z) (hB : ∀ z, z + 1 < j → w3 z = c2 (z + 1)) (hB2 : ∀ z, j ≤ z + 1 → w3 z = c2 z), 12 - j < m22 → J X G 4 0 0 [(md, .inr (9, [.int (nI W), .int (nI H), .int t, .int (nI m), .int (nI k), .ref zc, .ref zr, .ref zb, .ref z1, .ref z2, .ref z3, .ref z4, .ref z5, .ref zm, .ref zmr, .ref zmb, .int mt, .ref zca, .ref zcw, .int (nI 12), .ref zg, .ref zt, .ref zs, .ref zf, .ref zy, .ref zso, .ref zsf, .ref zsm, .int nt, .int nsh, .ref ztp, .ref zrw, .ref zpp, .int (nI tn), .int (nI pn), .int rdw, .int rdh, .ref zsz, .ref zit, .ref zk, .int (bI itk)])), (zc, ia G 16 f), (zca, ia G 12 (fun ι => nI (ca3 ι))), (zcw, ia G 12 w3)] [(0, .ref md), (1, .int (nI xx)), (2, .int (nI yy)), (3, .int (nI j))] 22 [] := by
    intro m22
    induction m22 with
    | zero => intro j ca3 w3 hj hA hA2 hB hB2 hm22; exact absurd hm22 (Nat.not_lt_zero _)
    | succ m22 ih22 =>
      intro j ca3 w3 hj hA hA2 hB hB2 hm22
      refine j_iload_n (pc := 22) hX dX9_toggle_22 3 rfl ?_
      refine j_bipush (pc := 23) (v := nI 12) hX dX9_toggle_23 (by decide) ?_
      refine j_icmp_ge (pc := 25) (tgt := 62) hX dX9_toggle_25 (by decide) (nI_toInt (n := j) (by omega)) (nI_toInt (n := 12) (by decide)) (fun c25 => ?_) (fun c25 => ?_)
      · skip
        have hsA : ∀ z, ca3 z = shfN 12 ca z := fun z => by unfold shfN; split; exact hA z (by omega); exact hA2 z (by omega)
        have hsB : ∀ z, w3 z = shf 12 c2 z := fun z => by unfold shf; split; exact hB z (by omega); exact hB2 z (by omega)
        refine j_ia (q0 := 2) (f := fun ι => nI (ca3 ι)) (g := fun ι => nI (shfN 12 ca ι)) rfl (fun z hz => by show nI (ca3 z) = nI (shfN 12 ca z); rw [hsA z]) (ws' := [(md, .inr (9, [.int (nI W), .int (nI H), .int t, .int (nI m), .int (nI k), .ref zc, .ref zr, .ref zb, .ref z1, .ref z2, .ref z3, .ref z4, .ref z5, .ref zm, .ref zmr, .ref zmb, .int mt, .ref zca, .ref zcw, .int (nI 12), .ref zg, .ref zt, .ref zs, .ref zf, .ref zy, .ref zso, .ref zsf, .ref zsm, .int nt, .int nsh, .ref ztp, .ref zrw, .ref zpp, .int (nI tn), .int (nI pn), .int rdw, .int rdh, .ref zsz, .ref zit, .ref zk, .int (bI itk)])), (zc, ia G 16 f), (zca, ia G 12 (fun ι => nI (shfN 12 ca ι))), (zcw, ia G 12 w3)]) rfl ?_
        refine j_ia (q0 := 3) (f := w3) (g := shf 12 c2) rfl (fun z hz => by exact hsB z) (ws' := [(md, .inr (9, [.int (nI W), .int (nI H), .int t, .int (nI m), .int (nI k), .ref zc, .ref zr, .ref zb, .ref z1, .ref z2, .ref z3, .ref z4, .ref z5, .ref zm, .ref zmr, .ref zmb, .int mt, .ref zca, .ref zcw, .int (nI 12), .ref zg, .ref zt, .ref zs, .ref zf, .ref zy, .ref zso, .ref zsf, .ref zsm, .int nt, .int nsh, .ref ztp, .ref zrw, .ref zpp, .int (nI tn), .int (nI pn), .int rdw, .int rdh, .ref zsz, .ref zit, .ref zk, .int (bI itk)])), (zc, ia G 16 f), (zca, ia G 12 (fun ι => nI (shfN 12 ca ι))), (zcw, ia G 12 (shf 12 c2))]) rfl ?_
        refine j_aload_n (pc := 62) hX dX9_toggle_62 0 rfl ?_
        refine j_dup (pc := 63) hX dX9_toggle_63 rfl ?_
        refine j_get (pc := 64) hX f_RX9_156 0 rfl rfl dX9_toggle_64 ?_
        refine j_iconstN (pc := 67) (j := 1) hX dX9_toggle_67 rfl ?_
        refine j_isub (pc := 68) hX dX9_toggle_68 ?_
        refine j_topi (y := nI (12 - 1)) (pk_sub (by omega)) ?_
        refine j_put (pc := 69) (ws' := [(md, .inr (9, [.int (nI W), .int (nI H), .int t, .int (nI m), .int (nI k), .ref zc, .ref zr, .ref zb, .ref z1, .ref z2, .ref z3, .ref z4, .ref z5, .ref zm, .ref zmr, .ref zmb, .int mt, .ref zca, .ref zcw, .int (nI (12 - 1)), .ref zg, .ref zt, .ref zs, .ref zf, .ref zy, .ref zso, .ref zsf, .ref zsm, .int nt, .int nsh, .ref ztp, .ref zrw, .ref zpp, .int (nI tn), .int (nI pn), .int rdw, .int rdh, .ref zsz, .ref zit, .ref zk, .int (bI itk)])), (zc, ia G 16 f), (zca, ia G 12 (fun ι => nI (shfN 12 ca ι))), (zcw, ia G 12 (shf 12 c2))]) hX f_RX9_156 0 rfl rfl rfl (Nat.le_of_ble_eq_true rfl) rfl dX9_toggle_69 ?_
        refine j_aload_n (pc := 72) hX dX9_toggle_72 0 rfl ?_
        refine j_get (pc := 73) hX f_RX9_18 0 rfl rfl dX9_toggle_73 ?_
        refine j_iload_n (pc := 76) hX dX9_toggle_76 2 rfl ?_
        refine j_dup2 (pc := 77) hX dX9_toggle_77 rfl rfl ?_
        refine j_ialdN (pc := 78) (j := yy) hX 1 rfl (by omega) (by omega) dX9_toggle_78 ?_
        refine j_iconstN (pc := 79) (j := 1) hX dX9_toggle_79 rfl ?_
        refine j_iload_n (pc := 80) hX dX9_toggle_80 1 rfl ?_
        refine j_ishl (pc := 81) hX dX9_toggle_81 ?_
        refine j_ixor (pc := 82) hX dX9_toggle_82 ?_
        refine j_iastN (pc := 83) (j := yy) (ws' := [(md, .inr (9, [.int (nI W), .int (nI H), .int t, .int (nI m), .int (nI k), .ref zc, .ref zr, .ref zb, .ref z1, .ref z2, .ref z3, .ref z4, .ref z5, .ref zm, .ref zmr, .ref zmb, .int mt, .ref zca, .ref zcw, .int (nI (12 - 1)), .ref zg, .ref zt, .ref zs, .ref zf, .ref zy, .ref zso, .ref zsf, .ref zsm, .int nt, .int nsh, .ref ztp, .ref zrw, .ref zpp, .int (nI tn), .int (nI pn), .int rdw, .int rdh, .ref zsz, .ref zit, .ref zk, .int (bI itk)])), (zc, ia G 16 (upd f yy ((f yy) ^^^ ((nI 1) <<< ((nI xx) &&& 31))))), (zca, ia G 12 (fun ι => nI (shfN 12 ca ι))), (zcw, ia G 12 (shf 12 c2))]) hX 1 rfl (by omega) (by omega) rfl dX9_toggle_83 ?_
        refine j_ia (q0 := 1) (f := upd f yy ((f yy) ^^^ ((nI 1) <<< ((nI xx) &&& 31)))) (g := flp W H f xx yy) rfl (fun z hz => by rw [flp_in hX1 hY1]) (ws' := [(md, .inr (9, [.int (nI W), .int (nI H), .int t, .int (nI m), .int (nI k), .ref zc, .ref zr, .ref zb, .ref z1, .ref z2, .ref z3, .ref z4, .ref z5, .ref zm, .ref zmr, .ref zmb, .int mt, .ref zca, .ref zcw, .int (nI (12 - 1)), .ref zg, .ref zt, .ref zs, .ref zf, .ref zy, .ref zso, .ref zsf, .ref zsm, .int nt, .int nsh, .ref ztp, .ref zrw, .ref zpp, .int (nI tn), .int (nI pn), .int rdw, .int rdh, .ref zsz, .ref zit, .ref zk, .int (bI itk)])), (zc, ia G 16 (flp W H f xx yy)), (zca, ia G 12 (fun ι => nI (shfN 12 ca ι))), (zcw, ia G 12 (shf 12 c2))]) rfl ?_
        refine j_aload_n (pc := 84) hX dX9_toggle_84 0 rfl ?_
        refine j_get (pc := 85) hX f_RX9_52 0 rfl rfl dX9_toggle_85 ?_
        refine j_aload_n (pc := 88) hX dX9_toggle_88 0 rfl ?_
        refine j_get (pc := 89) hX f_RX9_156 0 rfl rfl dX9_toggle_89 ?_
        refine j_bipush (pc := 92) (v := nI 100) hX dX9_toggle_92 (by decide) ?_
        refine j_iload_n (pc := 94) hX dX9_toggle_94 1 rfl ?_
        refine j_imul (pc := 95) hX dX9_toggle_95 ?_
        refine j_topi (y := nI (100 * xx)) (pk_mul _ _) ?_
        refine j_iload_n (pc := 96) hX dX9_toggle_96 2 rfl ?_
        refine j_iadd (pc := 97) hX dX9_toggle_97 ?_
        refine j_topi (y := nI (100 * xx + yy)) (nI_add _ _) ?_
        refine j_iastN (pc := 98) (j := 12 - 1) (ws' := [(md, .inr (9, [.int (nI W), .int (nI H), .int t, .int (nI m), .int (nI k), .ref zc, .ref zr, .ref zb, .ref z1, .ref z2, .ref z3, .ref z4, .ref z5, .ref zm, .ref zmr, .ref zmb, .int mt, .ref zca, .ref zcw, .int (nI (12 - 1)), .ref zg, .ref zt, .ref zs, .ref zf, .ref zy, .ref zso, .ref zsf, .ref zsm, .int nt, .int nsh, .ref ztp, .ref zrw, .ref zpp, .int (nI tn), .int (nI pn), .int rdw, .int rdh, .ref zsz, .ref zit, .ref zk, .int (bI itk)])), (zc, ia G 16 (flp W H f xx yy)), (zca, ia G 12 (upd (fun ι => nI (shfN 12 ca ι)) (12 - 1) (nI (100 * xx + yy)))), (zcw, ia G 12 (shf 12 c2))]) hX 2 rfl (by omega) (by omega) rfl dX9_toggle_98 ?_
        refine j_ia (q0 := 2) (f := upd (fun ι => nI (shfN 12 ca ι)) (12 - 1) (nI (100 * xx + yy))) (g := fun ι => nI (updN (shfN 12 ca) (12 - 1) (100 * xx + yy) ι)) rfl (fun z hz => by exact updNI) (ws' := [(md, .inr (9, [.int (nI W), .int (nI H), .int t, .int (nI m), .int (nI k), .ref zc, .ref zr, .ref zb, .ref z1, .ref z2, .ref z3, .ref z4, .ref z5, .ref zm, .ref zmr, .ref zmb, .int mt, .ref zca, .ref zcw, .int (nI (12 - 1)), .ref zg, .ref zt, .ref zs, .ref zf, .ref zy, .ref zso, .ref zsf, .ref zsm, .int nt, .int nsh, .ref ztp, .ref zrw, .ref zpp, .int (nI tn), .int (nI pn), .int rdw, .int rdh, .ref zsz, .ref zit, .ref zk, .int (bI itk)])), (zc, ia G 16 (flp W H f xx yy)), (zca, ia G 12 (fun ι => nI (updN (shfN 12 ca) (12 - 1) (100 * xx + yy) ι))), (zcw, ia G 12 (shf 12 c2))]) rfl ?_
        refine j_aload_n (pc := 99) hX dX9_toggle_99 0 rfl ?_
        refine j_get (pc := 100) hX f_RX9_55 0 rfl rfl dX9_toggle_100 ?_
        refine j_aload_n (pc := 103) hX dX9_toggle_103 0 rfl ?_
        refine j_get (pc := 104) hX f_RX9_156 0 rfl rfl dX9_toggle_104 ?_
        refine j_aload_n (pc := 107) hX dX9_toggle_107 0 rfl ?_
        refine j_get (pc := 108) hX f_RX9_142 0 rfl rfl dX9_toggle_108 ?_
        refine j_iastN (pc := 111) (j := 12 - 1) (ws' := [(md, .inr (9, [.int (nI W), .int (nI H), .int t, .int (nI m), .int (nI k), .ref zc, .ref zr, .ref zb, .ref z1, .ref z2, .ref z3, .ref z4, .ref z5, .ref zm, .ref zmr, .ref zmb, .int mt, .ref zca, .ref zcw, .int (nI (12 - 1)), .ref zg, .ref zt, .ref zs, .ref zf, .ref zy, .ref zso, .ref zsf, .ref zsm, .int nt, .int nsh, .ref ztp, .ref zrw, .ref zpp, .int (nI tn), .int (nI pn), .int rdw, .int rdh, .ref zsz, .ref zit, .ref zk, .int (bI itk)])), (zc, ia G 16 (flp W H f xx yy)), (zca, ia G 12 (fun ι => nI (updN (shfN 12 ca) (12 - 1) (100 * xx + yy) ι))), (zcw, ia G 12 (upd (shf 12 c2) (12 - 1) t))]) hX 3 rfl (by omega) (by omega) rfl dX9_toggle_111 ?_
        refine j_aload_n (pc := 112) hX dX9_toggle_112 0 rfl ?_
        refine j_dup (pc := 113) hX dX9_toggle_113 rfl ?_
        refine j_get (pc := 114) hX f_RX9_156 0 rfl rfl dX9_toggle_114 ?_
        refine j_iconstN (pc := 117) (j := 1) hX dX9_toggle_117 rfl ?_
        refine j_iadd (pc := 118) hX dX9_toggle_118 ?_
        refine j_topi (y := nI (12 - 1 + 1)) (nI_add _ _) ?_
        refine j_put (pc := 119) (ws' := [(md, .inr (9, [.int (nI W), .int (nI H), .int t, .int (nI m), .int (nI k), .ref zc, .ref zr, .ref zb, .ref z1, .ref z2, .ref z3, .ref z4, .ref z5, .ref zm, .ref zmr, .ref zmb, .int mt, .ref zca, .ref zcw, .int (nI (12 - 1 + 1)), .ref zg, .ref zt, .ref zs, .ref zf, .ref zy, .ref zso, .ref zsf, .ref zsm, .int nt, .int nsh, .ref ztp, .ref zrw, .ref zpp, .int (nI tn), .int (nI pn), .int rdw, .int rdh, .ref zsz, .ref zit, .ref zk, .int (bI itk)])), (zc, ia G 16 (flp W H f xx yy)), (zca, ia G 12 (fun ι => nI (updN (shfN 12 ca) (12 - 1) (100 * xx + yy) ι))), (zcw, ia G 12 (upd (shf 12 c2) (12 - 1) t))]) hX f_RX9_156 0 rfl rfl rfl (Nat.le_of_ble_eq_true rfl) rfl dX9_toggle_119 ?_
        refine j_aload_n (pc := 122) hX dX9_toggle_122 0 rfl ?_
        refine j_get (pc := 123) hX f_RX9_18 0 rfl rfl dX9_toggle_123 ?_
        refine j_iload_n (pc := 126) hX dX9_toggle_126 2 rfl ?_
        refine j_ialdN (pc := 127) (j := yy) hX 1 rfl (by omega) (by omega) dX9_toggle_127 ?_
        refine j_iload_n (pc := 128) hX dX9_toggle_128 1 rfl ?_
        refine j_ishr (pc := 129) hX dX9_toggle_129 ?_
        refine j_iconstN (pc := 130) (j := 1) hX dX9_toggle_130 rfl ?_
        refine j_iand (pc := 131) hX dX9_toggle_131 ?_
        refine j_topi (y := bI (bt (flp W H f xx yy yy) xx)) (bt_raw _ (by omega)) ?_
        refine j_ia (q0 := 2) (f := fun ι => nI (updN (shfN 12 ca) (12 - 1) (100 * xx + yy) ι)) (g := fun ι => nI (updN (shfN 12 ca) 11 (100 * xx + yy) ι)) rfl (fun z hz => by rfl) (ws' := [(md, .inr (9, [.int (nI W), .int (nI H), .int t, .int (nI m), .int (nI k), .ref zc, .ref zr, .ref zb, .ref z1, .ref z2, .ref z3, .ref z4, .ref z5, .ref zm, .ref zmr, .ref zmb, .int mt, .ref zca, .ref zcw, .int (nI (12 - 1 + 1)), .ref zg, .ref zt, .ref zs, .ref zf, .ref zy, .ref zso, .ref zsf, .ref zsm, .int nt, .int nsh, .ref ztp, .ref zrw, .ref zpp, .int (nI tn), .int (nI pn), .int rdw, .int rdh, .ref zsz, .ref zit, .ref zk, .int (bI itk)])), (zc, ia G 16 (flp W H f xx yy)), (zca, ia G 12 (fun ι => nI (updN (shfN 12 ca) 11 (100 * xx + yy) ι))), (zcw, ia G 12 (upd (shf 12 c2) (12 - 1) t))]) rfl ?_
        refine j_ia (q0 := 3) (f := upd (shf 12 c2) (12 - 1) t) (g := upd (shf 12 c2) 11 t) rfl (fun z hz => by rfl) (ws' := [(md, .inr (9, [.int (nI W), .int (nI H), .int t, .int (nI m), .int (nI k), .ref zc, .ref zr, .ref zb, .ref z1, .ref z2, .ref z3, .ref z4, .ref z5, .ref zm, .ref zmr, .ref zmb, .int mt, .ref zca, .ref zcw, .int (nI (12 - 1 + 1)), .ref zg, .ref zt, .ref zs, .ref zf, .ref zy, .ref zso, .ref zsf, .ref zsm, .int nt, .int nsh, .ref ztp, .ref zrw, .ref zpp, .int (nI tn), .int (nI pn), .int rdw, .int rdh, .ref zsz, .ref zit, .ref zk, .int (bI itk)])), (zc, ia G 16 (flp W H f xx yy)), (zca, ia G 12 (fun ι => nI (updN (shfN 12 ca) 11 (100 * xx + yy) ι))), (zcw, ia G 12 (upd (shf 12 c2) 11 t))]) rfl ?_
        refine j_eqw (ws' := [(md, .inr (9, [.int (nI W), .int (nI H), .int t, .int (nI m), .int (nI k), .ref zc, .ref zr, .ref zb, .ref z1, .ref z2, .ref z3, .ref z4, .ref z5, .ref zm, .ref zmr, .ref zmb, .int mt, .ref zca, .ref zcw, .int (nI 12), .ref zg, .ref zt, .ref zs, .ref zf, .ref zy, .ref zso, .ref zsf, .ref zsm, .int nt, .int nsh, .ref ztp, .ref zrw, .ref zpp, .int (nI tn), .int (nI pn), .int rdw, .int rdh, .ref zsz, .ref zit, .ref zk, .int (bI itk)])), (zc, ia G 16 (flp W H f xx yy)), (zca, ia G 12 (fun ι => nI (updN (shfN 12 ca) 11 (100 * xx + yy) ι))), (zcw, ia G 12 (upd (shf 12 c2) 11 t))]) (congrArg (fun ζ : Int32 => ([(md, .inr (9, [.int (nI W), .int (nI H), .int t, .int (nI m), .int (nI k), .ref zc, .ref zr, .ref zb, .ref z1, .ref z2, .ref z3, .ref z4, .ref z5, .ref zm, .ref zmr, .ref zmb, .int mt, .ref zca, .ref zcw, .int ζ, .ref zg, .ref zt, .ref zs, .ref zf, .ref zy, .ref zso, .ref zsf, .ref zsm, .int nt, .int nsh, .ref ztp, .ref zrw, .ref zpp, .int (nI tn), .int (nI pn), .int rdw, .int rdh, .ref zsz, .ref zit, .ref zk, .int (bI itk)])), (zc, ia G 16 (flp W H f xx yy)), (zca, ia G 12 (fun ι => nI (updN (shfN 12 ca) 11 (100 * xx + yy) ι))), (zcw, ia G 12 (upd (shf 12 c2) 11 t))] : va_W)) (show nI (12 - 1 + 1) = nI 12 from by rfl)) ?_
        exact j_iret (pc := 132) hX hR dX9_toggle_132 ⟨rfl, rfl⟩
      · skip
        refine j_aload_n (pc := 28) hX dX9_toggle_28 0 rfl ?_
        refine j_get (pc := 29) hX f_RX9_52 0 rfl rfl dX9_toggle_29 ?_
        refine j_iload_n (pc := 32) hX dX9_toggle_32 3 rfl ?_
        refine j_iconstN (pc := 33) (j := 1) hX dX9_toggle_33 rfl ?_
        refine j_isub (pc := 34) hX dX9_toggle_34 ?_
        refine j_topi (y := nI (j - 1)) (pk_sub (by omega)) ?_
        refine j_aload_n (pc := 35) hX dX9_toggle_35 0 rfl ?_
        refine j_get (pc := 36) hX f_RX9_52 0 rfl rfl dX9_toggle_36 ?_
        refine j_iload_n (pc := 39) hX dX9_toggle_39 3 rfl ?_
        refine j_ialdN (pc := 40) (j := j) hX 2 rfl (by omega) (by omega) dX9_toggle_40 ?_
        refine j_iastN (pc := 41) (j := j - 1) (ws' := [(md, .inr (9, [.int (nI W), .int (nI H), .int t, .int (nI m), .int (nI k), .ref zc, .ref zr, .ref zb, .ref z1, .ref z2, .ref z3, .ref z4, .ref z5, .ref zm, .ref zmr, .ref zmb, .int mt, .ref zca, .ref zcw, .int (nI 12), .ref zg, .ref zt, .ref zs, .ref zf, .ref zy, .ref zso, .ref zsf, .ref zsm, .int nt, .int nsh, .ref ztp, .ref zrw, .ref zpp, .int (nI tn), .int (nI pn), .int rdw, .int rdh, .ref zsz, .ref zit, .ref zk, .int (bI itk)])), (zc, ia G 16 f), (zca, ia G 12 (upd (fun ι => nI (ca3 ι)) (j - 1) (nI (ca3 j)))), (zcw, ia G 12 w3)]) hX 2 rfl (by omega) (by omega) rfl dX9_toggle_41 ?_
        refine j_ia (q0 := 2) (f := upd (fun ι => nI (ca3 ι)) (j - 1) (nI (ca3 j))) (g := fun ι => nI (updN ca3 (j - 1) (ca3 j) ι)) rfl (fun z hz => by exact updNI) (ws' := [(md, .inr (9, [.int (nI W), .int (nI H), .int t, .int (nI m), .int (nI k), .ref zc, .ref zr, .ref zb, .ref z1, .ref z2, .ref z3, .ref z4, .ref z5, .ref zm, .ref zmr, .ref zmb, .int mt, .ref zca, .ref zcw, .int (nI 12), .ref zg, .ref zt, .ref zs, .ref zf, .ref zy, .ref zso, .ref zsf, .ref zsm, .int nt, .int nsh, .ref ztp, .ref zrw, .ref zpp, .int (nI tn), .int (nI pn), .int rdw, .int rdh, .ref zsz, .ref zit, .ref zk, .int (bI itk)])), (zc, ia G 16 f), (zca, ia G 12 (fun ι => nI (updN ca3 (j - 1) (ca3 j) ι))), (zcw, ia G 12 w3)]) rfl ?_
        refine j_aload_n (pc := 42) hX dX9_toggle_42 0 rfl ?_
        refine j_get (pc := 43) hX f_RX9_55 0 rfl rfl dX9_toggle_43 ?_
        refine j_iload_n (pc := 46) hX dX9_toggle_46 3 rfl ?_
        refine j_iconstN (pc := 47) (j := 1) hX dX9_toggle_47 rfl ?_
        refine j_isub (pc := 48) hX dX9_toggle_48 ?_
        refine j_topi (y := nI (j - 1)) (pk_sub (by omega)) ?_
        refine j_aload_n (pc := 49) hX dX9_toggle_49 0 rfl ?_
        refine j_get (pc := 50) hX f_RX9_55 0 rfl rfl dX9_toggle_50 ?_
        refine j_iload_n (pc := 53) hX dX9_toggle_53 3 rfl ?_
        refine j_ialdN (pc := 54) (j := j) hX 3 rfl (by omega) (by omega) dX9_toggle_54 ?_
        refine j_iastN (pc := 55) (j := j - 1) (ws' := [(md, .inr (9, [.int (nI W), .int (nI H), .int t, .int (nI m), .int (nI k), .ref zc, .ref zr, .ref zb, .ref z1, .ref z2, .ref z3, .ref z4, .ref z5, .ref zm, .ref zmr, .ref zmb, .int mt, .ref zca, .ref zcw, .int (nI 12), .ref zg, .ref zt, .ref zs, .ref zf, .ref zy, .ref zso, .ref zsf, .ref zsm, .int nt, .int nsh, .ref ztp, .ref zrw, .ref zpp, .int (nI tn), .int (nI pn), .int rdw, .int rdh, .ref zsz, .ref zit, .ref zk, .int (bI itk)])), (zc, ia G 16 f), (zca, ia G 12 (fun ι => nI (updN ca3 (j - 1) (ca3 j) ι))), (zcw, ia G 12 (upd w3 (j - 1) (w3 j)))]) hX 3 rfl (by omega) (by omega) rfl dX9_toggle_55 ?_
        refine j_iinc (pc := 56) (q := 3) (v := nI (j + 1)) (lv' := [(3, .int (nI (j + 1))), (0, .ref md), (1, .int (nI xx)), (2, .int (nI yy))]) hX dX9_toggle_56 rfl (nI_inc _ 1) (by decide) rfl ?_
        refine j_goto (pc := 59) (tgt := 22) hX dX9_toggle_59 (by decide) ?_
        refine j_ia (q0 := 2) (f := fun ι => nI (updN ca3 (j - 1) (ca3 j) ι)) (g := fun ι => nI ((updN ca3 (j - 1) (ca3 j)) ι)) rfl (fun z hz => by rfl) (ws' := [(md, .inr (9, [.int (nI W), .int (nI H), .int t, .int (nI m), .int (nI k), .ref zc, .ref zr, .ref zb, .ref z1, .ref z2, .ref z3, .ref z4, .ref z5, .ref zm, .ref zmr, .ref zmb, .int mt, .ref zca, .ref zcw, .int (nI 12), .ref zg, .ref zt, .ref zs, .ref zf, .ref zy, .ref zso, .ref zsf, .ref zsm, .int nt, .int nsh, .ref ztp, .ref zrw, .ref zpp, .int (nI tn), .int (nI pn), .int rdw, .int rdh, .ref zsz, .ref zit, .ref zk, .int (bI itk)])), (zc, ia G 16 f), (zca, ia G 12 (fun ι => nI ((updN ca3 (j - 1) (ca3 j)) ι))), (zcw, ia G 12 (upd w3 (j - 1) (w3 j)))]) rfl ?_
        refine j_lv [1, 2, 3, 0] (lv' := [(0, .ref md), (1, .int (nI xx)), (2, .int (nI yy)), (3, .int (nI (j + 1)))]) rfl ?_
        exact ih22 (j + 1) (updN ca3 (j - 1) (ca3 j)) (upd w3 (j - 1) (w3 j)) (by omega) (fun z hz => by unfold updN; split; (rename_i e; rw [hA2 j (by omega), e, show j - 1 + 1 = j from by omega]); exact hA z (by omega)) (fun z hz => by unfold updN; rw [if_neg (by omega)]; exact hA2 z (by omega)) (fun z hz => by unfold upd; split; (rename_i e; rw [hB2 j (by omega), e, show j - 1 + 1 = j from by omega]); exact hB z (by omega)) (fun z hz => by unfold upd; rw [if_neg (by omega)]; exact hB2 z (by omega)) (by omega)
  refine j_lv [1, 2, 3, 0] (lv' := [(0, .ref md), (1, .int (nI xx)), (2, .int (nI yy)), (3, .int (nI 1))]) rfl ?_
  exact L22 ((12 - 1) + 1) 1 ca c2 (by omega) (fun z hz => by omega) (fun _ _ => rfl) (fun z hz => by omega) (fun _ _ => rfl) (Nat.lt_succ_self _)
set_option maxHeartbeats 4000000 in
set_option maxRecDepth 100000 in
theorem c_X9_toggle_bad (G : GT) (md : Nat) (W : Nat) (H : Nat) (t : Int32) (m : Nat) (k : Nat) (zc : Nat) (zr : Nat) (zb : Nat) (z1 : Nat) (z2 : Nat) (z3 : Nat) (z4 : Nat) (z5 : Nat) (zm : Nat) (zmr : Nat) (zmb : Nat) (mt : Int32) (zca : Nat) (zcw : Nat) (c : Nat) (zg : Nat) (zt : Nat) (zs : Nat) (zf : Nat) (zy : Nat) (zso : Nat) (zsf : Nat) (zsm : Nat) (nt : Int32) (nsh : Int32) (ztp : Nat) (zrw : Nat) (zpp : Nat) (tn : Nat) (pn : Nat) (rdw : Int32) (rdh : Int32) (zsz : Nat) (zit : Nat) (zk : Nat) (itk : Bool) (x_ y_ : Int32) (hW1 : 2 ≤ W) (hW2 : W ≤ 16) (hH1 : 2 ≤ H) (hH2 : H ≤ 16) (hb : inG W H x_ y_ = false) (l : Launch) : CT l G yX9_toggle cX9_toggle 4 (some .int) { frames := 2, cells := 0, slots := 0, locals := 47 } [.ref md, .int x_, .int y_] [(md, .inr (9, [.int (nI W), .int (nI H), .int t, .int (nI m), .int (nI k), .ref zc, .ref zr, .ref zb, .ref z1, .ref z2, .ref z3, .ref z4, .ref z5, .ref zm, .ref zmr, .ref zmb, .int mt, .ref zca, .ref zcw, .int (nI c), .ref zg, .ref zt, .ref zs, .ref zf, .ref zy, .ref zso, .ref zsf, .ref zsm, .int nt, .int nsh, .ref ztp, .ref zrw, .ref zpp, .int (nI tn), .int (nI pn), .int rdw, .int rdh, .ref zsz, .ref zit, .ref zk, .int (bI itk)]))] (fun vv ww => vv = some (.int (-1)) ∧ ww = [(md, .inr (9, [.int (nI W), .int (nI H), .int t, .int (nI m), .int (nI k), .ref zc, .ref zr, .ref zb, .ref z1, .ref z2, .ref z3, .ref z4, .ref z5, .ref zm, .ref zmr, .ref zmb, .int mt, .ref zca, .ref zcw, .int (nI c), .ref zg, .ref zt, .ref zs, .ref zf, .ref zy, .ref zso, .ref zsf, .ref zsm, .int nt, .int nsh, .ref ztp, .ref zrw, .ref zpp, .int (nI tn), .int (nI pn), .int rdw, .int rdh, .ref zsz, .ref zit, .ref zk, .int (bI itk)]))]) := by
  refine CT.of (lv := [(0, .ref md), (1, .int x_), (2, .int y_)]) RX9 "toggle" rfl rfl (by decide +kernel) (Nat.le_of_ble_eq_true rfl) rfl (fun X hX hR => ?_)
  refine j_aload_n (pc := 0) hX dX9_toggle_0 0 rfl ?_
  refine j_iload_n (pc := 1) hX dX9_toggle_1 1 rfl ?_
  refine j_iload_n (pc := 2) hX dX9_toggle_2 2 rfl ?_
  refine j_callV (pc := 3) hX kX9_isCell kVX9_isCell l_RX9_159 (fun l => c_X9_isCell G md W H t m k zc zr zb z1 z2 z3 z4 z5 zm zmr zmb mt zca zcw c zg zt zs zf zy zso zsf zsm nt nsh ztp zrw zpp tn pn rdw rdh zsz zit zk itk x_ y_ (by omega) (by omega) (by omega) (by omega) l) [0] [] [] rfl 0 9 rfl rfl rfl rfl rfl rfl ⟨rfl, rfl, by decide⟩ rfl rfl (Nat.le_of_ble_eq_true rfl) dX9_toggle_3 (fun v w hq => ?_)
  obtain ⟨rfl, rfl⟩ := hq
  refine j_ws [0] (ws' := [(md, .inr (9, [.int (nI W), .int (nI H), .int t, .int (nI m), .int (nI k), .ref zc, .ref zr, .ref zb, .ref z1, .ref z2, .ref z3, .ref z4, .ref z5, .ref zm, .ref zmr, .ref zmb, .int mt, .ref zca, .ref zcw, .int (nI c), .ref zg, .ref zt, .ref zs, .ref zf, .ref zy, .ref zso, .ref zsf, .ref zsm, .int nt, .int nsh, .ref ztp, .ref zrw, .ref zpp, .int (nI tn), .int (nI pn), .int rdw, .int rdh, .ref zsz, .ref zit, .ref zk, .int (bI itk)]))]) rfl rfl ?_
  refine j_ifB_ne (pc := 6) (tgt := 11) hX dX9_toggle_6 (by decide) (fun c6 => by rw [hb] at c6; cases c6) (fun c6 => ?_)
  refine j_iconst (pc := 9) (v := (-1)) hX dX9_toggle_9 (by decide) ?_
  exact j_iret (pc := 10) hX hR dX9_toggle_10 ⟨rfl, rfl⟩
set_option maxHeartbeats 4000000 in
set_option maxRecDepth 100000 in
theorem c_X9_undo_0 (G : GT) (md : Nat) (W : Nat) (H : Nat) (t : Int32) (m : Nat) (k : Nat) (zc : Nat) (zr : Nat) (zb : Nat) (z1 : Nat) (z2 : Nat) (z3 : Nat) (z4 : Nat) (z5 : Nat) (zm : Nat) (zmr : Nat) (zmb : Nat) (mt : Int32) (zca : Nat) (zcw : Nat) (zg : Nat) (zt : Nat) (zs : Nat) (zf : Nat) (zy : Nat) (zso : Nat) (zsf : Nat) (zsm : Nat) (nt : Int32) (nsh : Int32) (ztp : Nat) (zrw : Nat) (zpp : Nat) (tn : Nat) (pn : Nat) (rdw : Int32) (rdh : Int32) (zsz : Nat) (zit : Nat) (zk : Nat) (itk : Bool)  (l : Launch) : CT l G yX9_undo cX9_undo 1 (some .int) { frames := 0, cells := 0, slots := 0, locals := 0 } [.ref md] [(md, .inr (9, [.int (nI W), .int (nI H), .int t, .int (nI m), .int (nI k), .ref zc, .ref zr, .ref zb, .ref z1, .ref z2, .ref z3, .ref z4, .ref z5, .ref zm, .ref zmr, .ref zmb, .int mt, .ref zca, .ref zcw, .int (nI 0), .ref zg, .ref zt, .ref zs, .ref zf, .ref zy, .ref zso, .ref zsf, .ref zsm, .int nt, .int nsh, .ref ztp, .ref zrw, .ref zpp, .int (nI tn), .int (nI pn), .int rdw, .int rdh, .ref zsz, .ref zit, .ref zk, .int (bI itk)]))] (fun vv ww => vv = some (.int (-3)) ∧ ww = [(md, .inr (9, [.int (nI W), .int (nI H), .int t, .int (nI m), .int (nI k), .ref zc, .ref zr, .ref zb, .ref z1, .ref z2, .ref z3, .ref z4, .ref z5, .ref zm, .ref zmr, .ref zmb, .int mt, .ref zca, .ref zcw, .int (nI 0), .ref zg, .ref zt, .ref zs, .ref zf, .ref zy, .ref zso, .ref zsf, .ref zsm, .int nt, .int nsh, .ref ztp, .ref zrw, .ref zpp, .int (nI tn), .int (nI pn), .int rdw, .int rdh, .ref zsz, .ref zit, .ref zk, .int (bI itk)]))]) := by
  refine CT.of (lv := [(0, .ref md)]) RX9 "undo" rfl rfl (by decide +kernel) (Nat.le_of_ble_eq_true rfl) rfl (fun X hX hR => ?_)
  refine j_aload_n (pc := 0) hX dX9_undo_0 0 rfl ?_
  refine j_get (pc := 1) hX f_RX9_156 0 rfl rfl dX9_undo_1 ?_
  refine j_if_eq (pc := 4) (tgt := 25) hX dX9_undo_4 (by decide) (nI_toInt (n := 0) (by decide)) (fun c4 => ?_) (fun c4 => absurd c4 (by decide))
  refine j_bipush (pc := 25) (v := (-3)) hX dX9_undo_25 (by decide) ?_
  exact j_iret (pc := 27) hX hR dX9_undo_27 ⟨rfl, rfl⟩
set_option maxHeartbeats 4000000 in
set_option maxRecDepth 100000 in
theorem c_X9_undo_t (G : GT) (md : Nat) (W : Nat) (H : Nat) (t : Int32) (m : Nat) (k : Nat) (zc : Nat) (zr : Nat) (zb : Nat) (z1 : Nat) (z2 : Nat) (z3 : Nat) (z4 : Nat) (z5 : Nat) (zm : Nat) (zmr : Nat) (zmb : Nat) (mt : Int32) (zca : Nat) (zcw : Nat) (c : Nat) (zg : Nat) (zt : Nat) (zs : Nat) (zf : Nat) (zy : Nat) (zso : Nat) (zsf : Nat) (zsm : Nat) (nt : Int32) (nsh : Int32) (ztp : Nat) (zrw : Nat) (zpp : Nat) (tn : Nat) (pn : Nat) (rdw : Int32) (rdh : Int32) (zsz : Nat) (zit : Nat) (zk : Nat) (itk : Bool) (ca : Nat → Nat) (c2 : Nat → Int32) (hc : 0 < c ∧ c ≤ 12) (ht : c2 (c - 1) ≠ t) (l : Launch) : CT l G yX9_undo cX9_undo 1 (some .int) { frames := 0, cells := 0, slots := 0, locals := 0 } [.ref md] [(md, .inr (9, [.int (nI W), .int (nI H), .int t, .int (nI m), .int (nI k), .ref zc, .ref zr, .ref zb, .ref z1, .ref z2, .ref z3, .ref z4, .ref z5, .ref zm, .ref zmr, .ref zmb, .int mt, .ref zca, .ref zcw, .int (nI c), .ref zg, .ref zt, .ref zs, .ref zf, .ref zy, .ref zso, .ref zsf, .ref zsm, .int nt, .int nsh, .ref ztp, .ref zrw, .ref zpp, .int (nI tn), .int (nI pn), .int rdw, .int rdh, .ref zsz, .ref zit, .ref zk, .int (bI itk)])), (zca, ia G 12 (fun ι => nI (ca ι))), (zcw, ia G 12 c2)] (fun vv ww => vv = some (.int (-3)) ∧ ww = [(md, .inr (9, [.int (nI W), .int (nI H), .int t, .int (nI m), .int (nI k), .ref zc, .ref zr, .ref zb, .ref z1, .ref z2, .ref z3, .ref z4, .ref z5, .ref zm, .ref zmr, .ref zmb, .int mt, .ref zca, .ref zcw, .int (nI c), .ref zg, .ref zt, .ref zs, .ref zf, .ref zy, .ref zso, .ref zsf, .ref zsm, .int nt, .int nsh, .ref ztp, .ref zrw, .ref zpp, .int (nI tn), .int (nI pn), .int rdw, .int rdh, .ref zsz, .ref zit, .ref zk, .int (bI itk)])), (zca, ia G 12 (fun ι => nI (ca ι))), (zcw, ia G 12 c2)]) := by
  refine CT.of (lv := [(0, .ref md)]) RX9 "undo" rfl rfl (by decide +kernel) (Nat.le_of_ble_eq_true rfl) rfl (fun X hX hR => ?_)
  refine j_aload_n (pc := 0) hX dX9_undo_0 0 rfl ?_
  refine j_get (pc := 1) hX f_RX9_156 0 rfl rfl dX9_undo_1 ?_
  refine j_if_eq (pc := 4) (tgt := 25) hX dX9_undo_4 (by decide) (nI_toInt (n := c) (by omega)) (fun c4 => by exfalso; omega) (fun c4 => ?_)
  refine j_aload_n (pc := 7) hX dX9_undo_7 0 rfl ?_
  refine j_get (pc := 8) hX f_RX9_55 0 rfl rfl dX9_undo_8 ?_
  refine j_aload_n (pc := 11) hX dX9_undo_11 0 rfl ?_
  refine j_get (pc := 12) hX f_RX9_156 0 rfl rfl dX9_undo_12 ?_
  refine j_iconstN (pc := 15) (j := 1) hX dX9_undo_15 rfl ?_
  refine j_isub (pc := 16) hX dX9_undo_16 ?_
  refine j_topi (y := nI (c - 1)) (pk_sub (by omega)) ?_
  refine j_ialdN (pc := 17) (j := c - 1) hX 2 rfl (by omega) (by omega) dX9_undo_17 ?_
  refine j_aload_n (pc := 18) hX dX9_undo_18 0 rfl ?_
  refine j_get (pc := 19) hX f_RX9_142 0 rfl rfl dX9_undo_19 ?_
  refine j_icmp_eq (pc := 22) (tgt := 28) hX dX9_undo_22 (by decide) rfl rfl (fun c22 => by exfalso; exact ht (Int32.toInt_inj.mp c22)) (fun c22 => ?_)
  refine j_bipush (pc := 25) (v := (-3)) hX dX9_undo_25 (by decide) ?_
  exact j_iret (pc := 27) hX hR dX9_undo_27 ⟨rfl, rfl⟩
set_option maxHeartbeats 4000000 in
set_option maxRecDepth 100000 in
theorem c_X9_undo_ok (G : GT) (md : Nat) (W : Nat) (H : Nat) (t : Int32) (m : Nat) (k : Nat) (zc : Nat) (zr : Nat) (zb : Nat) (z1 : Nat) (z2 : Nat) (z3 : Nat) (z4 : Nat) (z5 : Nat) (zm : Nat) (zmr : Nat) (zmb : Nat) (mt : Int32) (zca : Nat) (zcw : Nat) (c : Nat) (zg : Nat) (zt : Nat) (zs : Nat) (zf : Nat) (zy : Nat) (zso : Nat) (zsf : Nat) (zsm : Nat) (nt : Int32) (nsh : Int32) (ztp : Nat) (zrw : Nat) (zpp : Nat) (tn : Nat) (pn : Nat) (rdw : Int32) (rdh : Int32) (zsz : Nat) (zit : Nat) (zk : Nat) (itk : Bool) (f : Nat → Int32) (ca : Nat → Nat) (c2 : Nat → Int32) (x0 y0 : Nat) (hW1 : 2 ≤ W) (hW2 : W ≤ 16) (hH1 : 2 ≤ H) (hH2 : H ≤ 16) (hc : 0 < c ∧ c ≤ 12) (ht : c2 (c - 1) = t) (hca : ca (c - 1) = 100 * x0 + y0) (h0 : x0 < W) (h1 : y0 < H) (l : Launch) : CT l G yX9_undo cX9_undo 1 (some .int) { frames := 0, cells := 0, slots := 0, locals := 0 } [.ref md] [(md, .inr (9, [.int (nI W), .int (nI H), .int t, .int (nI m), .int (nI k), .ref zc, .ref zr, .ref zb, .ref z1, .ref z2, .ref z3, .ref z4, .ref z5, .ref zm, .ref zmr, .ref zmb, .int mt, .ref zca, .ref zcw, .int (nI c), .ref zg, .ref zt, .ref zs, .ref zf, .ref zy, .ref zso, .ref zsf, .ref zsm, .int nt, .int nsh, .ref ztp, .ref zrw, .ref zpp, .int (nI tn), .int (nI pn), .int rdw, .int rdh, .ref zsz, .ref zit, .ref zk, .int (bI itk)])), (zc, ia G 16 f), (zca, ia G 12 (fun ι => nI (ca ι))), (zcw, ia G 12 c2)] (fun vv ww => vv = some (.int (nI (100 * x0 + y0))) ∧ ww = [(md, .inr (9, [.int (nI W), .int (nI H), .int t, .int (nI m), .int (nI k), .ref zc, .ref zr, .ref zb, .ref z1, .ref z2, .ref z3, .ref z4, .ref z5, .ref zm, .ref zmr, .ref zmb, .int mt, .ref zca, .ref zcw, .int (nI (c - 1)), .ref zg, .ref zt, .ref zs, .ref zf, .ref zy, .ref zso, .ref zsf, .ref zsm, .int nt, .int nsh, .ref ztp, .ref zrw, .ref zpp, .int (nI tn), .int (nI pn), .int rdw, .int rdh, .ref zsz, .ref zit, .ref zk, .int (bI itk)])), (zc, ia G 16 (flp W H f x0 y0)), (zca, ia G 12 (fun ι => nI (ca ι))), (zcw, ia G 12 c2)]) := by
  refine CT.of (lv := [(0, .ref md)]) RX9 "undo" rfl rfl (by decide +kernel) (Nat.le_of_ble_eq_true rfl) rfl (fun X hX hR => ?_)
  refine j_aload_n (pc := 0) hX dX9_undo_0 0 rfl ?_
  refine j_get (pc := 1) hX f_RX9_156 0 rfl rfl dX9_undo_1 ?_
  refine j_if_eq (pc := 4) (tgt := 25) hX dX9_undo_4 (by decide) (nI_toInt (n := c) (by omega)) (fun c4 => by exfalso; omega) (fun c4 => ?_)
  refine j_aload_n (pc := 7) hX dX9_undo_7 0 rfl ?_
  refine j_get (pc := 8) hX f_RX9_55 0 rfl rfl dX9_undo_8 ?_
  refine j_aload_n (pc := 11) hX dX9_undo_11 0 rfl ?_
  refine j_get (pc := 12) hX f_RX9_156 0 rfl rfl dX9_undo_12 ?_
  refine j_iconstN (pc := 15) (j := 1) hX dX9_undo_15 rfl ?_
  refine j_isub (pc := 16) hX dX9_undo_16 ?_
  refine j_topi (y := nI (c - 1)) (pk_sub (by omega)) ?_
  refine j_ialdN (pc := 17) (j := c - 1) hX 3 rfl (by omega) (by omega) dX9_undo_17 ?_
  refine j_aload_n (pc := 18) hX dX9_undo_18 0 rfl ?_
  refine j_get (pc := 19) hX f_RX9_142 0 rfl rfl dX9_undo_19 ?_
  refine j_icmp_eq (pc := 22) (tgt := 28) hX dX9_undo_22 (by decide) rfl rfl (fun c22 => ?_) (fun c22 => by exfalso; exact c22 (by rw [ht]))
  refine j_aload_n (pc := 28) hX dX9_undo_28 0 rfl ?_
  refine j_dup (pc := 29) hX dX9_undo_29 rfl ?_
  refine j_get (pc := 30) hX f_RX9_156 0 rfl rfl dX9_undo_30 ?_
  refine j_iconstN (pc := 33) (j := 1) hX dX9_undo_33 rfl ?_
  refine j_isub (pc := 34) hX dX9_undo_34 ?_
  refine j_topi (y := nI (c - 1)) (pk_sub (by omega)) ?_
  refine j_put (pc := 35) (ws' := [(md, .inr (9, [.int (nI W), .int (nI H), .int t, .int (nI m), .int (nI k), .ref zc, .ref zr, .ref zb, .ref z1, .ref z2, .ref z3, .ref z4, .ref z5, .ref zm, .ref zmr, .ref zmb, .int mt, .ref zca, .ref zcw, .int (nI (c - 1)), .ref zg, .ref zt, .ref zs, .ref zf, .ref zy, .ref zso, .ref zsf, .ref zsm, .int nt, .int nsh, .ref ztp, .ref zrw, .ref zpp, .int (nI tn), .int (nI pn), .int rdw, .int rdh, .ref zsz, .ref zit, .ref zk, .int (bI itk)])), (zc, ia G 16 f), (zca, ia G 12 (fun ι => nI (ca ι))), (zcw, ia G 12 c2)]) hX f_RX9_156 0 rfl rfl rfl (Nat.le_of_ble_eq_true rfl) rfl dX9_undo_35 ?_
  refine j_aload_n (pc := 38) hX dX9_undo_38 0 rfl ?_
  refine j_get (pc := 39) hX f_RX9_18 0 rfl rfl dX9_undo_39 ?_
  refine j_aload_n (pc := 42) hX dX9_undo_42 0 rfl ?_
  refine j_get (pc := 43) hX f_RX9_52 0 rfl rfl dX9_undo_43 ?_
  refine j_aload_n (pc := 46) hX dX9_undo_46 0 rfl ?_
  refine j_get (pc := 47) hX f_RX9_156 0 rfl rfl dX9_undo_47 ?_
  refine j_ialdN (pc := 50) (j := c - 1) hX 2 rfl (by omega) (by omega) dX9_undo_50 ?_
  refine j_topi (y := nI (100 * x0 + y0)) (by rw [hca]) ?_
  refine j_bipush (pc := 51) (v := nI 100) hX dX9_undo_51 (by decide) ?_
  refine j_irem (pc := 53) hX dX9_undo_53 (by decide) ?_
  refine j_topi (y := nI y0) (by rw [pk_rem (by omega) (by omega) (by omega), show (100 * x0 + y0) % 100 = y0 from by omega]) ?_
  refine j_dup2 (pc := 54) hX dX9_undo_54 rfl rfl ?_
  refine j_ialdN (pc := 55) (j := y0) hX 1 rfl (by omega) (by omega) dX9_undo_55 ?_
  refine j_iconstN (pc := 56) (j := 1) hX dX9_undo_56 rfl ?_
  refine j_aload_n (pc := 57) hX dX9_undo_57 0 rfl ?_
  refine j_get (pc := 58) hX f_RX9_52 0 rfl rfl dX9_undo_58 ?_
  refine j_aload_n (pc := 61) hX dX9_undo_61 0 rfl ?_
  refine j_get (pc := 62) hX f_RX9_156 0 rfl rfl dX9_undo_62 ?_
  refine j_ialdN (pc := 65) (j := c - 1) hX 2 rfl (by omega) (by omega) dX9_undo_65 ?_
  refine j_topi (y := nI (100 * x0 + y0)) (by rw [hca]) ?_
  refine j_bipush (pc := 66) (v := nI 100) hX dX9_undo_66 (by decide) ?_
  refine j_idiv (pc := 68) hX dX9_undo_68 (by decide) ?_
  refine j_topi (y := nI x0) (by rw [pk_div (by omega) (by omega) (by omega), show (100 * x0 + y0) / 100 = x0 from by omega]) ?_
  refine j_ishl (pc := 69) hX dX9_undo_69 ?_
  refine j_ixor (pc := 70) hX dX9_undo_70 ?_
  refine j_iastN (pc := 71) (j := y0) (ws' := [(md, .inr (9, [.int (nI W), .int (nI H), .int t, .int (nI m), .int (nI k), .ref zc, .ref zr, .ref zb, .ref z1, .ref z2, .ref z3, .ref z4, .ref z5, .ref zm, .ref zmr, .ref zmb, .int mt, .ref zca, .ref zcw, .int (nI (c - 1)), .ref zg, .ref zt, .ref zs, .ref zf, .ref zy, .ref zso, .ref zsf, .ref zsm, .int nt, .int nsh, .ref ztp, .ref zrw, .ref zpp, .int (nI tn), .int (nI pn), .int rdw, .int rdh, .ref zsz, .ref zit, .ref zk, .int (bI itk)])), (zc, ia G 16 (upd f y0 ((f y0) ^^^ ((nI 1) <<< ((nI x0) &&& 31))))), (zca, ia G 12 (fun ι => nI (ca ι))), (zcw, ia G 12 c2)]) hX 1 rfl (by omega) (by omega) rfl dX9_undo_71 ?_
  refine j_ia (q0 := 1) (f := upd f y0 ((f y0) ^^^ ((nI 1) <<< ((nI x0) &&& 31)))) (g := flp W H f x0 y0) rfl (fun z hz => by rw [flp_in h0 h1]) (ws' := [(md, .inr (9, [.int (nI W), .int (nI H), .int t, .int (nI m), .int (nI k), .ref zc, .ref zr, .ref zb, .ref z1, .ref z2, .ref z3, .ref z4, .ref z5, .ref zm, .ref zmr, .ref zmb, .int mt, .ref zca, .ref zcw, .int (nI (c - 1)), .ref zg, .ref zt, .ref zs, .ref zf, .ref zy, .ref zso, .ref zsf, .ref zsm, .int nt, .int nsh, .ref ztp, .ref zrw, .ref zpp, .int (nI tn), .int (nI pn), .int rdw, .int rdh, .ref zsz, .ref zit, .ref zk, .int (bI itk)])), (zc, ia G 16 (flp W H f x0 y0)), (zca, ia G 12 (fun ι => nI (ca ι))), (zcw, ia G 12 c2)]) rfl ?_
  refine j_aload_n (pc := 72) hX dX9_undo_72 0 rfl ?_
  refine j_get (pc := 73) hX f_RX9_52 0 rfl rfl dX9_undo_73 ?_
  refine j_aload_n (pc := 76) hX dX9_undo_76 0 rfl ?_
  refine j_get (pc := 77) hX f_RX9_156 0 rfl rfl dX9_undo_77 ?_
  refine j_ialdN (pc := 80) (j := c - 1) hX 2 rfl (by omega) (by omega) dX9_undo_80 ?_
  exact j_iret (pc := 81) hX hR dX9_undo_81 ⟨congrArg some (show Value.int (nI (ca (c - 1))) = Value.int (nI (100 * x0 + y0)) from by rw [hca]), rfl⟩
set_option maxHeartbeats 4000000 in
set_option maxRecDepth 100000 in
theorem c_X9_cell_ok (G : GT) (md : Nat) (W : Nat) (H : Nat) (t : Int32) (m : Nat) (k : Nat) (zc : Nat) (zr : Nat) (zb : Nat) (z1 : Nat) (z2 : Nat) (z3 : Nat) (z4 : Nat) (z5 : Nat) (zm : Nat) (zmr : Nat) (zmb : Nat) (mt : Int32) (zca : Nat) (zcw : Nat) (c : Nat) (zg : Nat) (zt : Nat) (zs : Nat) (zf : Nat) (zy : Nat) (zso : Nat) (zsf : Nat) (zsm : Nat) (nt : Int32) (nsh : Int32) (ztp : Nat) (zrw : Nat) (zpp : Nat) (tn : Nat) (pn : Nat) (rdw : Int32) (rdh : Int32) (zsz : Nat) (zit : Nat) (zk : Nat) (itk : Bool) (f : Nat → Int32) (xx yy : Nat) (hW1 : 2 ≤ W) (hW2 : W ≤ 16) (hH1 : 2 ≤ H) (hH2 : H ≤ 16) (hX1 : xx < W) (hY1 : yy < H) (l : Launch) : CT l G yX9_cell cX9_cell 3 (some .int) { frames := 2, cells := 0, slots := 0, locals := 47 } [.ref md, .int (nI xx), .int (nI yy)] [(md, .inr (9, [.int (nI W), .int (nI H), .int t, .int (nI m), .int (nI k), .ref zc, .ref zr, .ref zb, .ref z1, .ref z2, .ref z3, .ref z4, .ref z5, .ref zm, .ref zmr, .ref zmb, .int mt, .ref zca, .ref zcw, .int (nI c), .ref zg, .ref zt, .ref zs, .ref zf, .ref zy, .ref zso, .ref zsf, .ref zsm, .int nt, .int nsh, .ref ztp, .ref zrw, .ref zpp, .int (nI tn), .int (nI pn), .int rdw, .int rdh, .ref zsz, .ref zit, .ref zk, .int (bI itk)])), (zc, ia G 16 f)] (fun vv ww => vv = some (.int (bI (bt (f yy) xx))) ∧ ww = [(md, .inr (9, [.int (nI W), .int (nI H), .int t, .int (nI m), .int (nI k), .ref zc, .ref zr, .ref zb, .ref z1, .ref z2, .ref z3, .ref z4, .ref z5, .ref zm, .ref zmr, .ref zmb, .int mt, .ref zca, .ref zcw, .int (nI c), .ref zg, .ref zt, .ref zs, .ref zf, .ref zy, .ref zso, .ref zsf, .ref zsm, .int nt, .int nsh, .ref ztp, .ref zrw, .ref zpp, .int (nI tn), .int (nI pn), .int rdw, .int rdh, .ref zsz, .ref zit, .ref zk, .int (bI itk)])), (zc, ia G 16 f)]) := by
  refine CT.of (lv := [(0, .ref md), (1, .int (nI xx)), (2, .int (nI yy))]) RX9 "cell" rfl rfl (by decide +kernel) (Nat.le_of_ble_eq_true rfl) rfl (fun X hX hR => ?_)
  refine j_aload_n (pc := 0) hX dX9_cell_0 0 rfl ?_
  refine j_iload_n (pc := 1) hX dX9_cell_1 1 rfl ?_
  refine j_iload_n (pc := 2) hX dX9_cell_2 2 rfl ?_
  refine j_callV (pc := 3) hX kX9_isCell kVX9_isCell l_RX9_159 (fun l => c_X9_isCell G md W H t m k zc zr zb z1 z2 z3 z4 z5 zm zmr zmb mt zca zcw c zg zt zs zf zy zso zsf zsm nt nsh ztp zrw zpp tn pn rdw rdh zsz zit zk itk (nI xx) (nI yy) (by omega) (by omega) (by omega) (by omega) l) [0] [1] [] rfl 0 9 rfl rfl rfl rfl rfl rfl ⟨rfl, rfl, by decide⟩ rfl rfl (Nat.le_of_ble_eq_true rfl) dX9_cell_3 (fun v w hq => ?_)
  obtain ⟨rfl, rfl⟩ := hq
  refine j_ws [1, 0] (ws' := [(md, .inr (9, [.int (nI W), .int (nI H), .int t, .int (nI m), .int (nI k), .ref zc, .ref zr, .ref zb, .ref z1, .ref z2, .ref z3, .ref z4, .ref z5, .ref zm, .ref zmr, .ref zmb, .int mt, .ref zca, .ref zcw, .int (nI c), .ref zg, .ref zt, .ref zs, .ref zf, .ref zy, .ref zso, .ref zsf, .ref zsm, .int nt, .int nsh, .ref ztp, .ref zrw, .ref zpp, .int (nI tn), .int (nI pn), .int rdw, .int rdh, .ref zsz, .ref zit, .ref zk, .int (bI itk)])), (zc, ia G 16 f)]) rfl rfl ?_
  refine j_ifB_eq (pc := 6) (tgt := 22) hX dX9_cell_6 (by decide) (fun c6 => by rw [inG_in (by omega) (by omega) (by omega) (by omega)] at c6; cases c6) (fun c6 => ?_)
  refine j_aload_n (pc := 9) hX dX9_cell_9 0 rfl ?_
  refine j_get (pc := 10) hX f_RX9_18 0 rfl rfl dX9_cell_10 ?_
  refine j_iload_n (pc := 13) hX dX9_cell_13 2 rfl ?_
  refine j_ialdN (pc := 14) (j := yy) hX 1 rfl (by omega) (by omega) dX9_cell_14 ?_
  refine j_iload_n (pc := 15) hX dX9_cell_15 1 rfl ?_
  refine j_ishr (pc := 16) hX dX9_cell_16 ?_
  refine j_iconstN (pc := 17) (j := 1) hX dX9_cell_17 rfl ?_
  refine j_iand (pc := 18) hX dX9_cell_18 ?_
  refine j_topi (y := bI (bt (f yy) xx)) (bt_raw _ (by omega)) ?_
  refine j_goto (pc := 19) (tgt := 23) hX dX9_cell_19 (by decide) ?_
  exact j_iret (pc := 23) hX hR dX9_cell_23 ⟨rfl, rfl⟩
set_option maxHeartbeats 4000000 in
set_option maxRecDepth 100000 in
theorem c_X9_cell_bad (G : GT) (md : Nat) (W : Nat) (H : Nat) (t : Int32) (m : Nat) (k : Nat) (zc : Nat) (zr : Nat) (zb : Nat) (z1 : Nat) (z2 : Nat) (z3 : Nat) (z4 : Nat) (z5 : Nat) (zm : Nat) (zmr : Nat) (zmb : Nat) (mt : Int32) (zca : Nat) (zcw : Nat) (c : Nat) (zg : Nat) (zt : Nat) (zs : Nat) (zf : Nat) (zy : Nat) (zso : Nat) (zsf : Nat) (zsm : Nat) (nt : Int32) (nsh : Int32) (ztp : Nat) (zrw : Nat) (zpp : Nat) (tn : Nat) (pn : Nat) (rdw : Int32) (rdh : Int32) (zsz : Nat) (zit : Nat) (zk : Nat) (itk : Bool) (x_ y_ : Int32) (hW1 : 2 ≤ W) (hW2 : W ≤ 16) (hH1 : 2 ≤ H) (hH2 : H ≤ 16) (hb : inG W H x_ y_ = false) (l : Launch) : CT l G yX9_cell cX9_cell 3 (some .int) { frames := 2, cells := 0, slots := 0, locals := 47 } [.ref md, .int x_, .int y_] [(md, .inr (9, [.int (nI W), .int (nI H), .int t, .int (nI m), .int (nI k), .ref zc, .ref zr, .ref zb, .ref z1, .ref z2, .ref z3, .ref z4, .ref z5, .ref zm, .ref zmr, .ref zmb, .int mt, .ref zca, .ref zcw, .int (nI c), .ref zg, .ref zt, .ref zs, .ref zf, .ref zy, .ref zso, .ref zsf, .ref zsm, .int nt, .int nsh, .ref ztp, .ref zrw, .ref zpp, .int (nI tn), .int (nI pn), .int rdw, .int rdh, .ref zsz, .ref zit, .ref zk, .int (bI itk)]))] (fun vv ww => vv = some (.int (-1)) ∧ ww = [(md, .inr (9, [.int (nI W), .int (nI H), .int t, .int (nI m), .int (nI k), .ref zc, .ref zr, .ref zb, .ref z1, .ref z2, .ref z3, .ref z4, .ref z5, .ref zm, .ref zmr, .ref zmb, .int mt, .ref zca, .ref zcw, .int (nI c), .ref zg, .ref zt, .ref zs, .ref zf, .ref zy, .ref zso, .ref zsf, .ref zsm, .int nt, .int nsh, .ref ztp, .ref zrw, .ref zpp, .int (nI tn), .int (nI pn), .int rdw, .int rdh, .ref zsz, .ref zit, .ref zk, .int (bI itk)]))]) := by
  refine CT.of (lv := [(0, .ref md), (1, .int x_), (2, .int y_)]) RX9 "cell" rfl rfl (by decide +kernel) (Nat.le_of_ble_eq_true rfl) rfl (fun X hX hR => ?_)
  refine j_aload_n (pc := 0) hX dX9_cell_0 0 rfl ?_
  refine j_iload_n (pc := 1) hX dX9_cell_1 1 rfl ?_
  refine j_iload_n (pc := 2) hX dX9_cell_2 2 rfl ?_
  refine j_callV (pc := 3) hX kX9_isCell kVX9_isCell l_RX9_159 (fun l => c_X9_isCell G md W H t m k zc zr zb z1 z2 z3 z4 z5 zm zmr zmb mt zca zcw c zg zt zs zf zy zso zsf zsm nt nsh ztp zrw zpp tn pn rdw rdh zsz zit zk itk x_ y_ (by omega) (by omega) (by omega) (by omega) l) [0] [] [] rfl 0 9 rfl rfl rfl rfl rfl rfl ⟨rfl, rfl, by decide⟩ rfl rfl (Nat.le_of_ble_eq_true rfl) dX9_cell_3 (fun v w hq => ?_)
  obtain ⟨rfl, rfl⟩ := hq
  refine j_ws [0] (ws' := [(md, .inr (9, [.int (nI W), .int (nI H), .int t, .int (nI m), .int (nI k), .ref zc, .ref zr, .ref zb, .ref z1, .ref z2, .ref z3, .ref z4, .ref z5, .ref zm, .ref zmr, .ref zmb, .int mt, .ref zca, .ref zcw, .int (nI c), .ref zg, .ref zt, .ref zs, .ref zf, .ref zy, .ref zso, .ref zsf, .ref zsm, .int nt, .int nsh, .ref ztp, .ref zrw, .ref zpp, .int (nI tn), .int (nI pn), .int rdw, .int rdh, .ref zsz, .ref zit, .ref zk, .int (bI itk)]))]) rfl rfl ?_
  refine j_ifB_eq (pc := 6) (tgt := 22) hX dX9_cell_6 (by decide) (fun c6 => ?_) (fun c6 => by rw [hb] at c6; cases c6)
  refine j_iconst (pc := 22) (v := (-1)) hX dX9_cell_22 (by decide) ?_
  exact j_iret (pc := 23) hX hR dX9_cell_23 ⟨rfl, rfl⟩
set_option maxHeartbeats 4000000 in
set_option maxRecDepth 100000 in
theorem c_X9_changesNow (G : GT) (md : Nat) (W : Nat) (H : Nat) (t : Int32) (m : Nat) (k : Nat) (zc : Nat) (zr : Nat) (zb : Nat) (z1 : Nat) (z2 : Nat) (z3 : Nat) (z4 : Nat) (z5 : Nat) (zm : Nat) (zmr : Nat) (zmb : Nat) (mt : Int32) (zca : Nat) (zcw : Nat) (c : Nat) (zg : Nat) (zt : Nat) (zs : Nat) (zf : Nat) (zy : Nat) (zso : Nat) (zsf : Nat) (zsm : Nat) (nt : Int32) (nsh : Int32) (ztp : Nat) (zrw : Nat) (zpp : Nat) (tn : Nat) (pn : Nat) (rdw : Int32) (rdh : Int32) (zsz : Nat) (zit : Nat) (zk : Nat) (itk : Bool) (ca : Nat → Nat) (c2 : Nat → Int32) (hc : c ≤ 12) (l : Launch) : CT l G yX9_changesNow cX9_changesNow 2 (some .int) { frames := 0, cells := 0, slots := 0, locals := 0 } [.ref md] [(md, .inr (9, [.int (nI W), .int (nI H), .int t, .int (nI m), .int (nI k), .ref zc, .ref zr, .ref zb, .ref z1, .ref z2, .ref z3, .ref z4, .ref z5, .ref zm, .ref zmr, .ref zmb, .int mt, .ref zca, .ref zcw, .int (nI c), .ref zg, .ref zt, .ref zs, .ref zf, .ref zy, .ref zso, .ref zsf, .ref zsm, .int nt, .int nsh, .ref ztp, .ref zrw, .ref zpp, .int (nI tn), .int (nI pn), .int rdw, .int rdh, .ref zsz, .ref zit, .ref zk, .int (bI itk)])), (zca, ia G 12 (fun ι => nI (ca ι))), (zcw, ia G 12 c2)] (fun vv ww => vv = some (.int (nI (und c2 t c))) ∧ ww = [(md, .inr (9, [.int (nI W), .int (nI H), .int t, .int (nI m), .int (nI k), .ref zc, .ref zr, .ref zb, .ref z1, .ref z2, .ref z3, .ref z4, .ref z5, .ref zm, .ref zmr, .ref zmb, .int mt, .ref zca, .ref zcw, .int (nI c), .ref zg, .ref zt, .ref zs, .ref zf, .ref zy, .ref zso, .ref zsf, .ref zsm, .int nt, .int nsh, .ref ztp, .ref zrw, .ref zpp, .int (nI tn), .int (nI pn), .int rdw, .int rdh, .ref zsz, .ref zit, .ref zk, .int (bI itk)])), (zca, ia G 12 (fun ι => nI (ca ι))), (zcw, ia G 12 c2)]) := by
  refine CT.of (lv := [(0, .ref md)]) RX9 "changesNow" rfl rfl (by decide +kernel) (Nat.le_of_ble_eq_true rfl) rfl (fun X hX hR => ?_)
  refine j_iconstN (pc := 0) (j := 0) hX dX9_changesNow_0 rfl ?_
  refine j_istore_n (pc := 1) (lv' := [(1, .int (nI 0)), (0, .ref md)]) hX dX9_changesNow_1 (by decide) rfl ?_
  have L2 : ∀ (m2 : Nat) (j : Nat) (hj : j ≤ c) (hu : und c2 t c = j + und c2 t (c - j)), c - j < m2 → J X G 2 0 0 [(md, .inr (9, [.int (nI W), .int (nI H), .int t, .int (nI m), .int (nI k), .ref zc, .ref zr, .ref zb, .ref z1, .ref z2, .ref z3, .ref z4, .ref z5, .ref zm, .ref zmr, .ref zmb, .int mt, .ref zca, .ref zcw, .int (nI c), .ref zg, .ref zt, .ref zs, .ref zf, .ref zy, .ref zso, .ref zsf, .ref zsm, .int nt, .int nsh, .ref ztp, .ref zrw, .ref zpp, .int (nI tn), .int (nI pn), .int rdw, .int rdh, .ref zsz, .ref zit, .ref zk, .int (bI itk)])), (zca, ia G 12 (fun ι => nI (ca ι))), (zcw, ia G 12 c2)] [(0, .ref md), (1, .int (nI j))] 2 [] := by
    intro m2
    induction m2 with
    | zero => intro j hj hu hm2; exact absurd hm2 (Nat.not_lt_zero _)
    | succ m2 ih2 =>
      intro j hj hu hm2
      refine j_iload_n (pc := 2) hX dX9_changesNow_2 1 rfl ?_
      refine j_aload_n (pc := 3) hX dX9_changesNow_3 0 rfl ?_
      refine j_get (pc := 4) hX f_RX9_156 0 rfl rfl dX9_changesNow_4 ?_
      refine j_icmp_ge (pc := 7) (tgt := 36) hX dX9_changesNow_7 (by decide) (nI_toInt (n := j) (by omega)) (nI_toInt (n := c) (by omega)) (fun c7 => ?_) (fun c7 => ?_)
      · skip
        refine j_iload_n (pc := 36) hX dX9_changesNow_36 1 rfl ?_
        exact j_iret (pc := 37) hX hR dX9_changesNow_37 ⟨congrArg some (show Value.int (nI j) = Value.int (nI (und c2 t c)) from by rw [hu]; first | rw [show c - j = 0 from by omega]; rfl | rw [und_n (by omega) (fun h => c27 (by rw [← h, show c - j - 1 = c - 1 - j from by omega]))]; rfl), rfl⟩
      · skip
        refine j_aload_n (pc := 10) hX dX9_changesNow_10 0 rfl ?_
        refine j_get (pc := 11) hX f_RX9_55 0 rfl rfl dX9_changesNow_11 ?_
        refine j_aload_n (pc := 14) hX dX9_changesNow_14 0 rfl ?_
        refine j_get (pc := 15) hX f_RX9_156 0 rfl rfl dX9_changesNow_15 ?_
        refine j_iconstN (pc := 18) (j := 1) hX dX9_changesNow_18 rfl ?_
        refine j_isub (pc := 19) hX dX9_changesNow_19 ?_
        refine j_topi (y := nI (c - 1)) (pk_sub (by omega)) ?_
        refine j_iload_n (pc := 20) hX dX9_changesNow_20 1 rfl ?_
        refine j_isub (pc := 21) hX dX9_changesNow_21 ?_
        refine j_topi (y := nI ((c - 1) - j)) (pk_sub (by omega)) ?_
        refine j_ialdN (pc := 22) (j := (c - 1) - j) hX 2 rfl (by omega) (by omega) dX9_changesNow_22 ?_
        refine j_aload_n (pc := 23) hX dX9_changesNow_23 0 rfl ?_
        refine j_get (pc := 24) hX f_RX9_142 0 rfl rfl dX9_changesNow_24 ?_
        refine j_icmp_ne (pc := 27) (tgt := 36) hX dX9_changesNow_27 (by decide) rfl rfl (fun c27 => ?_) (fun c27 => ?_)
        · skip
          refine j_iload_n (pc := 36) hX dX9_changesNow_36 1 rfl ?_
          exact j_iret (pc := 37) hX hR dX9_changesNow_37 ⟨congrArg some (show Value.int (nI j) = Value.int (nI (und c2 t c)) from by rw [hu]; first | rw [show c - j = 0 from by omega]; rfl | rw [und_n (by omega) (fun h => c27 (by rw [← h, show c - j - 1 = c - 1 - j from by omega]))]; rfl), rfl⟩
        · skip
          refine j_iinc (pc := 30) (q := 1) (v := nI (j + 1)) (lv' := [(1, .int (nI (j + 1))), (0, .ref md)]) hX dX9_changesNow_30 rfl (nI_inc _ 1) (by decide) rfl ?_
          refine j_goto (pc := 33) (tgt := 2) hX dX9_changesNow_33 (by decide) ?_
          refine j_lv [1, 0] (lv' := [(0, .ref md), (1, .int (nI (j + 1)))]) rfl ?_
          exact ih2 (j + 1) (by omega) (by rw [hu, und_s (by omega) (Int32.toInt_inj.mp (by rw [show c - j - 1 = c - 1 - j from by omega]; exact c27)), show c - (j + 1) = c - j - 1 from by omega]; omega) (by omega)
  refine j_lv [1, 0] (lv' := [(0, .ref md), (1, .int (nI 0))]) rfl ?_
  exact L2 ((c - 0) + 1) 0 (by omega) ((Nat.zero_add _).symm) (Nat.lt_succ_self _)
set_option maxHeartbeats 4000000 in
set_option maxRecDepth 100000 in
theorem c_X9_told_0 (G : GT) (md : Nat) (W : Nat) (H : Nat) (t : Int32) (m : Nat) (k : Nat) (zc : Nat) (zr : Nat) (zb : Nat) (z1 : Nat) (z2 : Nat) (z3 : Nat) (z4 : Nat) (z5 : Nat) (zm : Nat) (zmr : Nat) (zmb : Nat) (mt : Int32) (zca : Nat) (zcw : Nat) (c : Nat) (zg : Nat) (zt : Nat) (zs : Nat) (zf : Nat) (zy : Nat) (zso : Nat) (zsf : Nat) (zsm : Nat) (nt : Int32) (nsh : Int32) (ztp : Nat) (zrw : Nat) (zpp : Nat) (tn : Nat) (pn : Nat) (rdw : Int32) (rdh : Int32) (zsz : Nat) (zit : Nat) (zk : Nat) (itk : Bool)  (l : Launch) : CT l G yX9_told cX9_told 2 (some .int) { frames := 2, cells := 0, slots := 0, locals := 50 } [.ref md, .int (nI 0)] [(md, .inr (9, [.int (nI W), .int (nI H), .int t, .int (nI m), .int (nI k), .ref zc, .ref zr, .ref zb, .ref z1, .ref z2, .ref z3, .ref z4, .ref z5, .ref zm, .ref zmr, .ref zmb, .int mt, .ref zca, .ref zcw, .int (nI c), .ref zg, .ref zt, .ref zs, .ref zf, .ref zy, .ref zso, .ref zsf, .ref zsm, .int nt, .int nsh, .ref ztp, .ref zrw, .ref zpp, .int (nI tn), .int (nI pn), .int rdw, .int rdh, .ref zsz, .ref zit, .ref zk, .int (bI itk)]))] (fun vv ww => vv = some (.int (nI W)) ∧ ww = [(md, .inr (9, [.int (nI W), .int (nI H), .int t, .int (nI m), .int (nI k), .ref zc, .ref zr, .ref zb, .ref z1, .ref z2, .ref z3, .ref z4, .ref z5, .ref zm, .ref zmr, .ref zmb, .int mt, .ref zca, .ref zcw, .int (nI c), .ref zg, .ref zt, .ref zs, .ref zf, .ref zy, .ref zso, .ref zsf, .ref zsm, .int nt, .int nsh, .ref ztp, .ref zrw, .ref zpp, .int (nI tn), .int (nI pn), .int rdw, .int rdh, .ref zsz, .ref zit, .ref zk, .int (bI itk)]))]) := by
  refine CT.of (lv := [(0, .ref md), (1, .int (nI 0))]) RX9 "told" rfl rfl (by decide +kernel) (Nat.le_of_ble_eq_true rfl) rfl (fun X hX hR => ?_)
  refine j_iload_n (pc := 0) hX dX9_told_0 1 rfl ?_
  refine j_tsIn (pc := 1) (off := 47) (tgt := 48) hX dX9_told_1 (0) (nI_toInt (by decide)) (by decide) (by decide) rfl (by decide) ?_
  refine j_aload_n (pc := 48) hX dX9_told_48 0 rfl ?_
  refine j_get (pc := 49) hX f_RX9_9 0 rfl rfl dX9_told_49 ?_
  exact j_iret (pc := 52) hX hR dX9_told_52 ⟨rfl, rfl⟩
set_option maxHeartbeats 4000000 in
set_option maxRecDepth 100000 in
theorem c_X9_told_1 (G : GT) (md : Nat) (W : Nat) (H : Nat) (t : Int32) (m : Nat) (k : Nat) (zc : Nat) (zr : Nat) (zb : Nat) (z1 : Nat) (z2 : Nat) (z3 : Nat) (z4 : Nat) (z5 : Nat) (zm : Nat) (zmr : Nat) (zmb : Nat) (mt : Int32) (zca : Nat) (zcw : Nat) (c : Nat) (zg : Nat) (zt : Nat) (zs : Nat) (zf : Nat) (zy : Nat) (zso : Nat) (zsf : Nat) (zsm : Nat) (nt : Int32) (nsh : Int32) (ztp : Nat) (zrw : Nat) (zpp : Nat) (tn : Nat) (pn : Nat) (rdw : Int32) (rdh : Int32) (zsz : Nat) (zit : Nat) (zk : Nat) (itk : Bool)  (l : Launch) : CT l G yX9_told cX9_told 2 (some .int) { frames := 2, cells := 0, slots := 0, locals := 50 } [.ref md, .int (nI 1)] [(md, .inr (9, [.int (nI W), .int (nI H), .int t, .int (nI m), .int (nI k), .ref zc, .ref zr, .ref zb, .ref z1, .ref z2, .ref z3, .ref z4, .ref z5, .ref zm, .ref zmr, .ref zmb, .int mt, .ref zca, .ref zcw, .int (nI c), .ref zg, .ref zt, .ref zs, .ref zf, .ref zy, .ref zso, .ref zsf, .ref zsm, .int nt, .int nsh, .ref ztp, .ref zrw, .ref zpp, .int (nI tn), .int (nI pn), .int rdw, .int rdh, .ref zsz, .ref zit, .ref zk, .int (bI itk)]))] (fun vv ww => vv = some (.int (nI H)) ∧ ww = [(md, .inr (9, [.int (nI W), .int (nI H), .int t, .int (nI m), .int (nI k), .ref zc, .ref zr, .ref zb, .ref z1, .ref z2, .ref z3, .ref z4, .ref z5, .ref zm, .ref zmr, .ref zmb, .int mt, .ref zca, .ref zcw, .int (nI c), .ref zg, .ref zt, .ref zs, .ref zf, .ref zy, .ref zso, .ref zsf, .ref zsm, .int nt, .int nsh, .ref ztp, .ref zrw, .ref zpp, .int (nI tn), .int (nI pn), .int rdw, .int rdh, .ref zsz, .ref zit, .ref zk, .int (bI itk)]))]) := by
  refine CT.of (lv := [(0, .ref md), (1, .int (nI 1))]) RX9 "told" rfl rfl (by decide +kernel) (Nat.le_of_ble_eq_true rfl) rfl (fun X hX hR => ?_)
  refine j_iload_n (pc := 0) hX dX9_told_0 1 rfl ?_
  refine j_tsIn (pc := 1) (off := 52) (tgt := 53) hX dX9_told_1 (1) (nI_toInt (by decide)) (by decide) (by decide) rfl (by decide) ?_
  refine j_aload_n (pc := 53) hX dX9_told_53 0 rfl ?_
  refine j_get (pc := 54) hX f_RX9_15 0 rfl rfl dX9_told_54 ?_
  exact j_iret (pc := 57) hX hR dX9_told_57 ⟨rfl, rfl⟩
set_option maxHeartbeats 4000000 in
set_option maxRecDepth 100000 in
theorem c_X9_told_2 (G : GT) (md : Nat) (W : Nat) (H : Nat) (t : Int32) (m : Nat) (k : Nat) (zc : Nat) (zr : Nat) (zb : Nat) (z1 : Nat) (z2 : Nat) (z3 : Nat) (z4 : Nat) (z5 : Nat) (zm : Nat) (zmr : Nat) (zmb : Nat) (mt : Int32) (zca : Nat) (zcw : Nat) (c : Nat) (zg : Nat) (zt : Nat) (zs : Nat) (zf : Nat) (zy : Nat) (zso : Nat) (zsf : Nat) (zsm : Nat) (nt : Int32) (nsh : Int32) (ztp : Nat) (zrw : Nat) (zpp : Nat) (tn : Nat) (pn : Nat) (rdw : Int32) (rdh : Int32) (zsz : Nat) (zit : Nat) (zk : Nat) (itk : Bool)  (l : Launch) : CT l G yX9_told cX9_told 2 (some .int) { frames := 2, cells := 0, slots := 0, locals := 50 } [.ref md, .int (nI 2)] [(md, .inr (9, [.int (nI W), .int (nI H), .int t, .int (nI m), .int (nI k), .ref zc, .ref zr, .ref zb, .ref z1, .ref z2, .ref z3, .ref z4, .ref z5, .ref zm, .ref zmr, .ref zmb, .int mt, .ref zca, .ref zcw, .int (nI c), .ref zg, .ref zt, .ref zs, .ref zf, .ref zy, .ref zso, .ref zsf, .ref zsm, .int nt, .int nsh, .ref ztp, .ref zrw, .ref zpp, .int (nI tn), .int (nI pn), .int rdw, .int rdh, .ref zsz, .ref zit, .ref zk, .int (bI itk)]))] (fun vv ww => vv = some (.int (t + nI 10000)) ∧ ww = [(md, .inr (9, [.int (nI W), .int (nI H), .int t, .int (nI m), .int (nI k), .ref zc, .ref zr, .ref zb, .ref z1, .ref z2, .ref z3, .ref z4, .ref z5, .ref zm, .ref zmr, .ref zmb, .int mt, .ref zca, .ref zcw, .int (nI c), .ref zg, .ref zt, .ref zs, .ref zf, .ref zy, .ref zso, .ref zsf, .ref zsm, .int nt, .int nsh, .ref ztp, .ref zrw, .ref zpp, .int (nI tn), .int (nI pn), .int rdw, .int rdh, .ref zsz, .ref zit, .ref zk, .int (bI itk)]))]) := by
  refine CT.of (lv := [(0, .ref md), (1, .int (nI 2))]) RX9 "told" rfl rfl (by decide +kernel) (Nat.le_of_ble_eq_true rfl) rfl (fun X hX hR => ?_)
  refine j_iload_n (pc := 0) hX dX9_told_0 1 rfl ?_
  refine j_tsIn (pc := 1) (off := 57) (tgt := 58) hX dX9_told_1 (2) (nI_toInt (by decide)) (by decide) (by decide) rfl (by decide) ?_
  refine j_aload_n (pc := 58) hX dX9_told_58 0 rfl ?_
  refine j_get (pc := 59) hX f_RX9_142 0 rfl rfl dX9_told_59 ?_
  refine j_sipush (pc := 62) (v := nI 10000) hX dX9_told_62 (by decide) ?_
  refine j_iadd (pc := 65) hX dX9_told_65 ?_
  exact j_iret (pc := 66) hX hR dX9_told_66 ⟨congrArg some (show Value.int (t + (nI 10000)) = Value.int (t + nI 10000) from by rfl), rfl⟩
set_option maxHeartbeats 4000000 in
set_option maxRecDepth 100000 in
theorem c_X9_told_3 (G : GT) (md : Nat) (W : Nat) (H : Nat) (t : Int32) (m : Nat) (k : Nat) (zc : Nat) (zr : Nat) (zb : Nat) (z1 : Nat) (z2 : Nat) (z3 : Nat) (z4 : Nat) (z5 : Nat) (zm : Nat) (zmr : Nat) (zmb : Nat) (mt : Int32) (zca : Nat) (zcw : Nat) (c : Nat) (zg : Nat) (zt : Nat) (zs : Nat) (zf : Nat) (zy : Nat) (zso : Nat) (zsf : Nat) (zsm : Nat) (nt : Int32) (nsh : Int32) (ztp : Nat) (zrw : Nat) (zpp : Nat) (tn : Nat) (pn : Nat) (rdw : Int32) (rdh : Int32) (zsz : Nat) (zit : Nat) (zk : Nat) (itk : Bool)  (l : Launch) : CT l G yX9_told cX9_told 2 (some .int) { frames := 2, cells := 0, slots := 0, locals := 50 } [.ref md, .int (nI 3)] [(md, .inr (9, [.int (nI W), .int (nI H), .int t, .int (nI m), .int (nI k), .ref zc, .ref zr, .ref zb, .ref z1, .ref z2, .ref z3, .ref z4, .ref z5, .ref zm, .ref zmr, .ref zmb, .int mt, .ref zca, .ref zcw, .int (nI c), .ref zg, .ref zt, .ref zs, .ref zf, .ref zy, .ref zso, .ref zsf, .ref zsm, .int nt, .int nsh, .ref ztp, .ref zrw, .ref zpp, .int (nI tn), .int (nI pn), .int rdw, .int rdh, .ref zsz, .ref zit, .ref zk, .int (bI itk)]))] (fun vv ww => vv = some (.int (nI (ph t))) ∧ ww = [(md, .inr (9, [.int (nI W), .int (nI H), .int t, .int (nI m), .int (nI k), .ref zc, .ref zr, .ref zb, .ref z1, .ref z2, .ref z3, .ref z4, .ref z5, .ref zm, .ref zmr, .ref zmb, .int mt, .ref zca, .ref zcw, .int (nI c), .ref zg, .ref zt, .ref zs, .ref zf, .ref zy, .ref zso, .ref zsf, .ref zsm, .int nt, .int nsh, .ref ztp, .ref zrw, .ref zpp, .int (nI tn), .int (nI pn), .int rdw, .int rdh, .ref zsz, .ref zit, .ref zk, .int (bI itk)]))]) := by
  refine CT.of (lv := [(0, .ref md), (1, .int (nI 3))]) RX9 "told" rfl rfl (by decide +kernel) (Nat.le_of_ble_eq_true rfl) rfl (fun X hX hR => ?_)
  refine j_iload_n (pc := 0) hX dX9_told_0 1 rfl ?_
  refine j_tsIn (pc := 1) (off := 66) (tgt := 67) hX dX9_told_1 (3) (nI_toInt (by decide)) (by decide) (by decide) rfl (by decide) ?_
  refine j_aload_n (pc := 67) hX dX9_told_67 0 rfl ?_
  refine j_get (pc := 68) hX f_RX9_142 0 rfl rfl dX9_told_68 ?_
  refine j_iconstN (pc := 71) (j := 1) hX dX9_told_71 rfl ?_
  refine j_iand (pc := 72) hX dX9_told_72 ?_
  refine j_topi (y := nI (ph t)) (and1ph t) ?_
  exact j_iret (pc := 73) hX hR dX9_told_73 ⟨rfl, rfl⟩
set_option maxHeartbeats 4000000 in
set_option maxRecDepth 100000 in
theorem c_X9_told_4 (G : GT) (md : Nat) (W : Nat) (H : Nat) (t : Int32) (m : Nat) (k : Nat) (zc : Nat) (zr : Nat) (zb : Nat) (z1 : Nat) (z2 : Nat) (z3 : Nat) (z4 : Nat) (z5 : Nat) (zm : Nat) (zmr : Nat) (zmb : Nat) (mt : Int32) (zca : Nat) (zcw : Nat) (c : Nat) (zg : Nat) (zt : Nat) (zs : Nat) (zf : Nat) (zy : Nat) (zso : Nat) (zsf : Nat) (zsm : Nat) (nt : Int32) (nsh : Int32) (ztp : Nat) (zrw : Nat) (zpp : Nat) (tn : Nat) (pn : Nat) (rdw : Int32) (rdh : Int32) (zsz : Nat) (zit : Nat) (zk : Nat) (itk : Bool) (f : Nat → Int32) (hW1 : 2 ≤ W) (hW2 : W ≤ 16) (hH1 : 2 ≤ H) (hH2 : H ≤ 16) (hf : ∀ y, rN (f y) < 65536) (l : Launch) : CT l G yX9_told cX9_told 2 (some .int) { frames := 2, cells := 0, slots := 0, locals := 50 } [.ref md, .int (nI 4)] [(md, .inr (9, [.int (nI W), .int (nI H), .int t, .int (nI m), .int (nI k), .ref zc, .ref zr, .ref zb, .ref z1, .ref z2, .ref z3, .ref z4, .ref z5, .ref zm, .ref zmr, .ref zmb, .int mt, .ref zca, .ref zcw, .int (nI c), .ref zg, .ref zt, .ref zs, .ref zf, .ref zy, .ref zso, .ref zsf, .ref zsm, .int nt, .int nsh, .ref ztp, .ref zrw, .ref zpp, .int (nI tn), .int (nI pn), .int rdw, .int rdh, .ref zsz, .ref zit, .ref zk, .int (bI itk)])), (zc, ia G 16 f)] (fun vv ww => vv = some (.int (nI (cnt f H))) ∧ ww = [(md, .inr (9, [.int (nI W), .int (nI H), .int t, .int (nI m), .int (nI k), .ref zc, .ref zr, .ref zb, .ref z1, .ref z2, .ref z3, .ref z4, .ref z5, .ref zm, .ref zmr, .ref zmb, .int mt, .ref zca, .ref zcw, .int (nI c), .ref zg, .ref zt, .ref zs, .ref zf, .ref zy, .ref zso, .ref zsf, .ref zsm, .int nt, .int nsh, .ref ztp, .ref zrw, .ref zpp, .int (nI tn), .int (nI pn), .int rdw, .int rdh, .ref zsz, .ref zit, .ref zk, .int (bI itk)])), (zc, ia G 16 f)]) := by
  refine CT.of (lv := [(0, .ref md), (1, .int (nI 4))]) RX9 "told" rfl rfl (by decide +kernel) (Nat.le_of_ble_eq_true rfl) rfl (fun X hX hR => ?_)
  refine j_iload_n (pc := 0) hX dX9_told_0 1 rfl ?_
  refine j_tsIn (pc := 1) (off := 73) (tgt := 74) hX dX9_told_1 (4) (nI_toInt (by decide)) (by decide) (by decide) rfl (by decide) ?_
  refine j_aload_n (pc := 74) hX dX9_told_74 0 rfl ?_
  refine j_aload_n (pc := 75) hX dX9_told_75 0 rfl ?_
  refine j_get (pc := 76) hX f_RX9_18 0 rfl rfl dX9_told_76 ?_
  refine j_callV (pc := 79) hX kX9_countOf kVX9_countOf l_RX9_163 (fun l => c_X9_countOf G md W H t m k zc zr zb z1 z2 z3 z4 z5 zm zmr zmb mt zca zcw c zg zt zs zf zy zso zsf zsm nt nsh ztp zrw zpp tn pn rdw rdh zsz zit zk itk f zc f (by omega) (by omega) (by omega) (by omega) (by assumption) l) [0, 1] [] [] rfl 0 9 rfl rfl rfl rfl rfl rfl ⟨rfl, rfl, by decide⟩ rfl rfl (Nat.le_of_ble_eq_true rfl) dX9_told_79 (fun v w hq => ?_)
  obtain ⟨rfl, rfl⟩ := hq
  refine j_ws [0, 1] (ws' := [(md, .inr (9, [.int (nI W), .int (nI H), .int t, .int (nI m), .int (nI k), .ref zc, .ref zr, .ref zb, .ref z1, .ref z2, .ref z3, .ref z4, .ref z5, .ref zm, .ref zmr, .ref zmb, .int mt, .ref zca, .ref zcw, .int (nI c), .ref zg, .ref zt, .ref zs, .ref zf, .ref zy, .ref zso, .ref zsf, .ref zsm, .int nt, .int nsh, .ref ztp, .ref zrw, .ref zpp, .int (nI tn), .int (nI pn), .int rdw, .int rdh, .ref zsz, .ref zit, .ref zk, .int (bI itk)])), (zc, ia G 16 f)]) rfl rfl ?_
  exact j_iret (pc := 82) hX hR dX9_told_82 ⟨rfl, rfl⟩
set_option maxHeartbeats 4000000 in
set_option maxRecDepth 100000 in
theorem c_X9_told_5 (G : GT) (md : Nat) (W : Nat) (H : Nat) (t : Int32) (m : Nat) (k : Nat) (zc : Nat) (zr : Nat) (zb : Nat) (z1 : Nat) (z2 : Nat) (z3 : Nat) (z4 : Nat) (z5 : Nat) (zm : Nat) (zmr : Nat) (zmb : Nat) (mt : Int32) (zca : Nat) (zcw : Nat) (c : Nat) (zg : Nat) (zt : Nat) (zs : Nat) (zf : Nat) (zy : Nat) (zso : Nat) (zsf : Nat) (zsm : Nat) (nt : Int32) (nsh : Int32) (ztp : Nat) (zrw : Nat) (zpp : Nat) (tn : Nat) (pn : Nat) (rdw : Int32) (rdh : Int32) (zsz : Nat) (zit : Nat) (zk : Nat) (itk : Bool) (ca : Nat → Nat) (c2 : Nat → Int32) (hc : c ≤ 12) (l : Launch) : CT l G yX9_told cX9_told 2 (some .int) { frames := 2, cells := 0, slots := 0, locals := 50 } [.ref md, .int (nI 5)] [(md, .inr (9, [.int (nI W), .int (nI H), .int t, .int (nI m), .int (nI k), .ref zc, .ref zr, .ref zb, .ref z1, .ref z2, .ref z3, .ref z4, .ref z5, .ref zm, .ref zmr, .ref zmb, .int mt, .ref zca, .ref zcw, .int (nI c), .ref zg, .ref zt, .ref zs, .ref zf, .ref zy, .ref zso, .ref zsf, .ref zsm, .int nt, .int nsh, .ref ztp, .ref zrw, .ref zpp, .int (nI tn), .int (nI pn), .int rdw, .int rdh, .ref zsz, .ref zit, .ref zk, .int (bI itk)])), (zca, ia G 12 (fun ι => nI (ca ι))), (zcw, ia G 12 c2)] (fun vv ww => vv = some (.int (nI (und c2 t c))) ∧ ww = [(md, .inr (9, [.int (nI W), .int (nI H), .int t, .int (nI m), .int (nI k), .ref zc, .ref zr, .ref zb, .ref z1, .ref z2, .ref z3, .ref z4, .ref z5, .ref zm, .ref zmr, .ref zmb, .int mt, .ref zca, .ref zcw, .int (nI c), .ref zg, .ref zt, .ref zs, .ref zf, .ref zy, .ref zso, .ref zsf, .ref zsm, .int nt, .int nsh, .ref ztp, .ref zrw, .ref zpp, .int (nI tn), .int (nI pn), .int rdw, .int rdh, .ref zsz, .ref zit, .ref zk, .int (bI itk)])), (zca, ia G 12 (fun ι => nI (ca ι))), (zcw, ia G 12 c2)]) := by
  refine CT.of (lv := [(0, .ref md), (1, .int (nI 5))]) RX9 "told" rfl rfl (by decide +kernel) (Nat.le_of_ble_eq_true rfl) rfl (fun X hX hR => ?_)
  refine j_iload_n (pc := 0) hX dX9_told_0 1 rfl ?_
  refine j_tsIn (pc := 1) (off := 82) (tgt := 83) hX dX9_told_1 (5) (nI_toInt (by decide)) (by decide) (by decide) rfl (by decide) ?_
  refine j_aload_n (pc := 83) hX dX9_told_83 0 rfl ?_
  refine j_callV (pc := 84) hX kX9_changesNow kVX9_changesNow l_RX9_167 (fun l => c_X9_changesNow G md W H t m k zc zr zb z1 z2 z3 z4 z5 zm zmr zmb mt zca zcw c zg zt zs zf zy zso zsf zsm nt nsh ztp zrw zpp tn pn rdw rdh zsz zit zk itk ca c2 (by omega) l) [0, 1, 2] [] [] rfl 0 9 rfl rfl rfl rfl rfl rfl ⟨rfl, rfl, by decide⟩ rfl rfl (Nat.le_of_ble_eq_true rfl) dX9_told_84 (fun v w hq => ?_)
  obtain ⟨rfl, rfl⟩ := hq
  refine j_ws [0, 1, 2] (ws' := [(md, .inr (9, [.int (nI W), .int (nI H), .int t, .int (nI m), .int (nI k), .ref zc, .ref zr, .ref zb, .ref z1, .ref z2, .ref z3, .ref z4, .ref z5, .ref zm, .ref zmr, .ref zmb, .int mt, .ref zca, .ref zcw, .int (nI c), .ref zg, .ref zt, .ref zs, .ref zf, .ref zy, .ref zso, .ref zsf, .ref zsm, .int nt, .int nsh, .ref ztp, .ref zrw, .ref zpp, .int (nI tn), .int (nI pn), .int rdw, .int rdh, .ref zsz, .ref zit, .ref zk, .int (bI itk)])), (zca, ia G 12 (fun ι => nI (ca ι))), (zcw, ia G 12 c2)]) rfl rfl ?_
  exact j_iret (pc := 87) hX hR dX9_told_87 ⟨rfl, rfl⟩
set_option maxHeartbeats 4000000 in
set_option maxRecDepth 100000 in
theorem c_X9_steps_bad (G : GT) (md : Nat) (W : Nat) (H : Nat) (t : Int32) (m : Nat) (k : Nat) (zc : Nat) (zr : Nat) (zb : Nat) (z1 : Nat) (z2 : Nat) (z3 : Nat) (z4 : Nat) (z5 : Nat) (zm : Nat) (zmr : Nat) (zmb : Nat) (mt : Int32) (zca : Nat) (zcw : Nat) (c : Nat) (zg : Nat) (zt : Nat) (zs : Nat) (zf : Nat) (zy : Nat) (zso : Nat) (zsf : Nat) (zsm : Nat) (nt : Int32) (nsh : Int32) (ztp : Nat) (zrw : Nat) (zpp : Nat) (tn : Nat) (pn : Nat) (rdw : Int32) (rdh : Int32) (zsz : Nat) (zit : Nat) (zk : Nat) (itk : Bool) (n : Int32) (hb : n.toInt < -200 ∨ 200 < n.toInt) (l : Launch) : CT l G yX9_steps cX9_steps 2 (some .int) { frames := 4, cells := 0, slots := 0, locals := 95 } [.ref md, .int n] [(md, .inr (9, [.int (nI W), .int (nI H), .int t, .int (nI m), .int (nI k), .ref zc, .ref zr, .ref zb, .ref z1, .ref z2, .ref z3, .ref z4, .ref z5, .ref zm, .ref zmr, .ref zmb, .int mt, .ref zca, .ref zcw, .int (nI c), .ref zg, .ref zt, .ref zs, .ref zf, .ref zy, .ref zso, .ref zsf, .ref zsm, .int nt, .int nsh, .ref ztp, .ref zrw, .ref zpp, .int (nI tn), .int (nI pn), .int rdw, .int rdh, .ref zsz, .ref zit, .ref zk, .int (bI itk)]))] (fun vv ww => vv = some (.int (-2)) ∧ ww = [(md, .inr (9, [.int (nI W), .int (nI H), .int t, .int (nI m), .int (nI k), .ref zc, .ref zr, .ref zb, .ref z1, .ref z2, .ref z3, .ref z4, .ref z5, .ref zm, .ref zmr, .ref zmb, .int mt, .ref zca, .ref zcw, .int (nI c), .ref zg, .ref zt, .ref zs, .ref zf, .ref zy, .ref zso, .ref zsf, .ref zsm, .int nt, .int nsh, .ref ztp, .ref zrw, .ref zpp, .int (nI tn), .int (nI pn), .int rdw, .int rdh, .ref zsz, .ref zit, .ref zk, .int (bI itk)]))]) := by
  refine CT.of (lv := [(0, .ref md), (1, .int n)]) RX9 "steps" rfl rfl (by decide +kernel) (Nat.le_of_ble_eq_true rfl) rfl (fun X hX hR => ?_)
  refine j_iload_n (pc := 0) hX dX9_steps_0 1 rfl ?_
  refine j_i2l (pc := 1) hX dX9_steps_1 ?_
  refine j_ldc2 (pc := 2) (v := (-200)) hX k_RX9_181 dX9_steps_2 ?_
  refine j_ldc2 (pc := 5) (v := (200)) hX k_RX9_183 dX9_steps_5 ?_
  refine j_callS (pc := 8) hX kX9_isIn kSX9_isIn l_RX9_105 (fun l => c_X9_isIn G n.toInt64 (-200) (200) (rngB n (-200) (200)) (inL_of (toL _) (show ((-200) : Int64).toInt = -200 from by decide) (show ((200) : Int64).toInt = 200 from by decide)) l) [] [0] [] rfl rfl rfl rfl ⟨rfl, rfl, by decide⟩ rfl rfl (Nat.le_of_ble_eq_true rfl) dX9_steps_8 (fun v w hq => ?_)
  obtain ⟨rfl, rfl⟩ := hq
  refine j_ws [0] (ws' := [(md, .inr (9, [.int (nI W), .int (nI H), .int t, .int (nI m), .int (nI k), .ref zc, .ref zr, .ref zb, .ref z1, .ref z2, .ref z3, .ref z4, .ref z5, .ref zm, .ref zmr, .ref zmb, .int mt, .ref zca, .ref zcw, .int (nI c), .ref zg, .ref zt, .ref zs, .ref zf, .ref zy, .ref zso, .ref zsf, .ref zsm, .int nt, .int nsh, .ref ztp, .ref zrw, .ref zpp, .int (nI tn), .int (nI pn), .int rdw, .int rdh, .ref zsz, .ref zit, .ref zk, .int (bI itk)]))]) rfl rfl ?_
  refine j_ifB_ne (pc := 11) (tgt := 17) hX dX9_steps_11 (by decide) (fun c11 => by exfalso; have := of_decide_eq_true c11; omega) (fun c11 => ?_)
  refine j_bipush (pc := 14) (v := (-2)) hX dX9_steps_14 (by decide) ?_
  exact j_iret (pc := 16) hX hR dX9_steps_16 ⟨rfl, rfl⟩
set_option maxHeartbeats 4000000 in
set_option maxRecDepth 100000 in
theorem c_X9_steps_late (G : GT) (md : Nat) (W : Nat) (H : Nat) (t : Int32) (m : Nat) (k : Nat) (zc : Nat) (zr : Nat) (zb : Nat) (z1 : Nat) (z2 : Nat) (z3 : Nat) (z4 : Nat) (z5 : Nat) (zm : Nat) (zmr : Nat) (zmb : Nat) (mt : Int32) (zca : Nat) (zcw : Nat) (c : Nat) (zg : Nat) (zt : Nat) (zs : Nat) (zf : Nat) (zy : Nat) (zso : Nat) (zsf : Nat) (zsm : Nat) (nt : Int32) (nsh : Int32) (ztp : Nat) (zrw : Nat) (zpp : Nat) (tn : Nat) (pn : Nat) (rdw : Int32) (rdh : Int32) (zsz : Nat) (zit : Nat) (zk : Nat) (itk : Bool) (n : Int32) (hn : -200 ≤ n.toInt ∧ n.toInt ≤ 200) (hb : (t + n).toInt < -9999 ∨ 9999 < (t + n).toInt) (l : Launch) : CT l G yX9_steps cX9_steps 2 (some .int) { frames := 4, cells := 0, slots := 0, locals := 95 } [.ref md, .int n] [(md, .inr (9, [.int (nI W), .int (nI H), .int t, .int (nI m), .int (nI k), .ref zc, .ref zr, .ref zb, .ref z1, .ref z2, .ref z3, .ref z4, .ref z5, .ref zm, .ref zmr, .ref zmb, .int mt, .ref zca, .ref zcw, .int (nI c), .ref zg, .ref zt, .ref zs, .ref zf, .ref zy, .ref zso, .ref zsf, .ref zsm, .int nt, .int nsh, .ref ztp, .ref zrw, .ref zpp, .int (nI tn), .int (nI pn), .int rdw, .int rdh, .ref zsz, .ref zit, .ref zk, .int (bI itk)]))] (fun vv ww => vv = some (.int (-3)) ∧ ww = [(md, .inr (9, [.int (nI W), .int (nI H), .int t, .int (nI m), .int (nI k), .ref zc, .ref zr, .ref zb, .ref z1, .ref z2, .ref z3, .ref z4, .ref z5, .ref zm, .ref zmr, .ref zmb, .int mt, .ref zca, .ref zcw, .int (nI c), .ref zg, .ref zt, .ref zs, .ref zf, .ref zy, .ref zso, .ref zsf, .ref zsm, .int nt, .int nsh, .ref ztp, .ref zrw, .ref zpp, .int (nI tn), .int (nI pn), .int rdw, .int rdh, .ref zsz, .ref zit, .ref zk, .int (bI itk)]))]) := by
  refine CT.of (lv := [(0, .ref md), (1, .int n)]) RX9 "steps" rfl rfl (by decide +kernel) (Nat.le_of_ble_eq_true rfl) rfl (fun X hX hR => ?_)
  refine j_iload_n (pc := 0) hX dX9_steps_0 1 rfl ?_
  refine j_i2l (pc := 1) hX dX9_steps_1 ?_
  refine j_ldc2 (pc := 2) (v := (-200)) hX k_RX9_181 dX9_steps_2 ?_
  refine j_ldc2 (pc := 5) (v := (200)) hX k_RX9_183 dX9_steps_5 ?_
  refine j_callS (pc := 8) hX kX9_isIn kSX9_isIn l_RX9_105 (fun l => c_X9_isIn G n.toInt64 (-200) (200) (rngB n (-200) (200)) (inL_of (toL _) (show ((-200) : Int64).toInt = -200 from by decide) (show ((200) : Int64).toInt = 200 from by decide)) l) [] [0] [] rfl rfl rfl rfl ⟨rfl, rfl, by decide⟩ rfl rfl (Nat.le_of_ble_eq_true rfl) dX9_steps_8 (fun v w hq => ?_)
  obtain ⟨rfl, rfl⟩ := hq
  refine j_ws [0] (ws' := [(md, .inr (9, [.int (nI W), .int (nI H), .int t, .int (nI m), .int (nI k), .ref zc, .ref zr, .ref zb, .ref z1, .ref z2, .ref z3, .ref z4, .ref z5, .ref zm, .ref zmr, .ref zmb, .int mt, .ref zca, .ref zcw, .int (nI c), .ref zg, .ref zt, .ref zs, .ref zf, .ref zy, .ref zso, .ref zsf, .ref zsm, .int nt, .int nsh, .ref ztp, .ref zrw, .ref zpp, .int (nI tn), .int (nI pn), .int rdw, .int rdh, .ref zsz, .ref zit, .ref zk, .int (bI itk)]))]) rfl rfl ?_
  refine j_ifB_ne (pc := 11) (tgt := 17) hX dX9_steps_11 (by decide) (fun c11 => ?_) (fun c11 => by rw [rng_t (x := n) (A := -200) (B := 200) hn] at c11; cases c11)
  refine j_aload_n (pc := 17) hX dX9_steps_17 0 rfl ?_
  refine j_get (pc := 18) hX f_RX9_142 0 rfl rfl dX9_steps_18 ?_
  refine j_iload_n (pc := 21) hX dX9_steps_21 1 rfl ?_
  refine j_iadd (pc := 22) hX dX9_steps_22 ?_
  refine j_i2l (pc := 23) hX dX9_steps_23 ?_
  refine j_ldc2 (pc := 24) (v := (-9999)) hX k_RX9_185 dX9_steps_24 ?_
  refine j_ldc2 (pc := 27) (v := (9999)) hX k_RX9_187 dX9_steps_27 ?_
  refine j_callS (pc := 30) hX kX9_isIn kSX9_isIn l_RX9_105 (fun l => c_X9_isIn G ((t + n).toInt64) (-9999) (9999) (rngB (t + n) (-9999) (9999)) (inL_of (toL _) (show ((-9999) : Int64).toInt = -9999 from by decide) (show ((9999) : Int64).toInt = 9999 from by decide)) l) [] [0] [] rfl rfl rfl rfl ⟨rfl, rfl, by decide⟩ rfl rfl (Nat.le_of_ble_eq_true rfl) dX9_steps_30 (fun v w hq => ?_)
  obtain ⟨rfl, rfl⟩ := hq
  refine j_ws [0] (ws' := [(md, .inr (9, [.int (nI W), .int (nI H), .int t, .int (nI m), .int (nI k), .ref zc, .ref zr, .ref zb, .ref z1, .ref z2, .ref z3, .ref z4, .ref z5, .ref zm, .ref zmr, .ref zmb, .int mt, .ref zca, .ref zcw, .int (nI c), .ref zg, .ref zt, .ref zs, .ref zf, .ref zy, .ref zso, .ref zsf, .ref zsm, .int nt, .int nsh, .ref ztp, .ref zrw, .ref zpp, .int (nI tn), .int (nI pn), .int rdw, .int rdh, .ref zsz, .ref zit, .ref zk, .int (bI itk)]))]) rfl rfl ?_
  refine j_ifB_ne (pc := 33) (tgt := 39) hX dX9_steps_33 (by decide) (fun c33 => by exfalso; have := of_decide_eq_true c33; omega) (fun c33 => ?_)
  refine j_bipush (pc := 36) (v := (-3)) hX dX9_steps_36 (by decide) ?_
  exact j_iret (pc := 38) hX hR dX9_steps_38 ⟨rfl, rfl⟩
set_option maxHeartbeats 4000000 in
set_option maxRecDepth 100000 in
theorem c_X9_steps_ok (G : GT) (md : Nat) (W : Nat) (H : Nat) (t : Int32) (m : Nat) (k : Nat) (zc : Nat) (zr : Nat) (zb : Nat) (z1 : Nat) (z2 : Nat) (z3 : Nat) (z4 : Nat) (z5 : Nat) (zm : Nat) (zmr : Nat) (zmb : Nat) (mt : Int32) (zca : Nat) (zcw : Nat) (c : Nat) (zg : Nat) (zt : Nat) (zs : Nat) (zf : Nat) (zy : Nat) (zso : Nat) (zsf : Nat) (zsm : Nat) (nt : Int32) (nsh : Int32) (ztp : Nat) (zrw : Nat) (zpp : Nat) (tn : Nat) (pn : Nat) (rdw : Int32) (rdh : Int32) (zsz : Nat) (zit : Nat) (zk : Nat) (itk : Bool) (f : Nat → Int32) (p : Nat → Nat) (mf : Nat → Int32) (mrf : Nat → Int32) (mbf : Nat → Int32) (q : Nat → Nat) (n : Int32) (hW1 : 2 ≤ W) (hW2 : W ≤ 16) (hH1 : 2 ≤ H) (hH2 : H ≤ 16) (hW3 : W % 2 = 0) (hH3 : H % 2 = 0) (hp : isP p q) (hn : -200 ≤ n.toInt ∧ n.toInt ≤ 200) (hb : -9999 ≤ (t + n).toInt ∧ (t + n).toInt ≤ 9999) (l : Launch) : CT l G yX9_steps cX9_steps 2 (some .int) { frames := 4, cells := 0, slots := 0, locals := 95 } [.ref md, .int n] [(md, .inr (9, [.int (nI W), .int (nI H), .int t, .int (nI m), .int (nI k), .ref zc, .ref zr, .ref zb, .ref z1, .ref z2, .ref z3, .ref z4, .ref z5, .ref zm, .ref zmr, .ref zmb, .int mt, .ref zca, .ref zcw, .int (nI c), .ref zg, .ref zt, .ref zs, .ref zf, .ref zy, .ref zso, .ref zsf, .ref zsm, .int nt, .int nsh, .ref ztp, .ref zrw, .ref zpp, .int (nI tn), .int (nI pn), .int rdw, .int rdh, .ref zsz, .ref zit, .ref zk, .int (bI itk)])), (zc, ia G 16 f), (zr, ia G 16 (fun ι => nI (p ι))), (zm, ia G 16 mf), (zmr, ia G 16 mrf), (zmb, ia G 16 mbf)] (fun vv ww => ∃ (mt2 : Int32) (mf2 : Nat → Int32), vv = some (.int (t + n + nI 10000)) ∧ ww = [(md, .inr (9, [.int (nI W), .int (nI H), .int (t + n), .int (nI m), .int (nI k), .ref zc, .ref zr, .ref zb, .ref z1, .ref z2, .ref z3, .ref z4, .ref z5, .ref zm, .ref zmr, .ref zmb, .int mt2, .ref zca, .ref zcw, .int (nI c), .ref zg, .ref zt, .ref zs, .ref zf, .ref zy, .ref zso, .ref zsf, .ref zsm, .int nt, .int nsh, .ref ztp, .ref zrw, .ref zpp, .int (nI tn), .int (nI pn), .int rdw, .int rdh, .ref zsz, .ref zit, .ref zk, .int (bI itk)])), (zc, ia G 16 (goF W H p q t n f)), (zr, ia G 16 (fun ι => nI (p ι))), (zm, ia G 16 mf2), (zmr, ia G 16 (fun ι => nI (p ι))), (zmb, ia G 16 (fun ι => nI (q ι)))]) := by
  refine CT.of (lv := [(0, .ref md), (1, .int n)]) RX9 "steps" rfl rfl (by decide +kernel) (Nat.le_of_ble_eq_true rfl) rfl (fun X hX hR => ?_)
  refine j_iload_n (pc := 0) hX dX9_steps_0 1 rfl ?_
  refine j_i2l (pc := 1) hX dX9_steps_1 ?_
  refine j_ldc2 (pc := 2) (v := (-200)) hX k_RX9_181 dX9_steps_2 ?_
  refine j_ldc2 (pc := 5) (v := (200)) hX k_RX9_183 dX9_steps_5 ?_
  refine j_callS (pc := 8) hX kX9_isIn kSX9_isIn l_RX9_105 (fun l => c_X9_isIn G n.toInt64 (-200) (200) (rngB n (-200) (200)) (inL_of (toL _) (show ((-200) : Int64).toInt = -200 from by decide) (show ((200) : Int64).toInt = 200 from by decide)) l) [] [0, 1, 2, 3, 4, 5] [] rfl rfl rfl rfl ⟨rfl, rfl, by decide⟩ rfl rfl (Nat.le_of_ble_eq_true rfl) dX9_steps_8 (fun v w hq => ?_)
  obtain ⟨rfl, rfl⟩ := hq
  refine j_ws [0, 1, 2, 3, 4, 5] (ws' := [(md, .inr (9, [.int (nI W), .int (nI H), .int t, .int (nI m), .int (nI k), .ref zc, .ref zr, .ref zb, .ref z1, .ref z2, .ref z3, .ref z4, .ref z5, .ref zm, .ref zmr, .ref zmb, .int mt, .ref zca, .ref zcw, .int (nI c), .ref zg, .ref zt, .ref zs, .ref zf, .ref zy, .ref zso, .ref zsf, .ref zsm, .int nt, .int nsh, .ref ztp, .ref zrw, .ref zpp, .int (nI tn), .int (nI pn), .int rdw, .int rdh, .ref zsz, .ref zit, .ref zk, .int (bI itk)])), (zc, ia G 16 f), (zr, ia G 16 (fun ι => nI (p ι))), (zm, ia G 16 mf), (zmr, ia G 16 mrf), (zmb, ia G 16 mbf)]) rfl rfl ?_
  refine j_ifB_ne (pc := 11) (tgt := 17) hX dX9_steps_11 (by decide) (fun c11 => ?_) (fun c11 => by rw [rng_t (x := n) (A := -200) (B := 200) hn] at c11; cases c11)
  refine j_aload_n (pc := 17) hX dX9_steps_17 0 rfl ?_
  refine j_get (pc := 18) hX f_RX9_142 0 rfl rfl dX9_steps_18 ?_
  refine j_iload_n (pc := 21) hX dX9_steps_21 1 rfl ?_
  refine j_iadd (pc := 22) hX dX9_steps_22 ?_
  refine j_i2l (pc := 23) hX dX9_steps_23 ?_
  refine j_ldc2 (pc := 24) (v := (-9999)) hX k_RX9_185 dX9_steps_24 ?_
  refine j_ldc2 (pc := 27) (v := (9999)) hX k_RX9_187 dX9_steps_27 ?_
  refine j_callS (pc := 30) hX kX9_isIn kSX9_isIn l_RX9_105 (fun l => c_X9_isIn G ((t + n).toInt64) (-9999) (9999) (rngB (t + n) (-9999) (9999)) (inL_of (toL _) (show ((-9999) : Int64).toInt = -9999 from by decide) (show ((9999) : Int64).toInt = 9999 from by decide)) l) [] [0, 1, 2, 3, 4, 5] [] rfl rfl rfl rfl ⟨rfl, rfl, by decide⟩ rfl rfl (Nat.le_of_ble_eq_true rfl) dX9_steps_30 (fun v w hq => ?_)
  obtain ⟨rfl, rfl⟩ := hq
  refine j_ws [0, 1, 2, 3, 4, 5] (ws' := [(md, .inr (9, [.int (nI W), .int (nI H), .int t, .int (nI m), .int (nI k), .ref zc, .ref zr, .ref zb, .ref z1, .ref z2, .ref z3, .ref z4, .ref z5, .ref zm, .ref zmr, .ref zmb, .int mt, .ref zca, .ref zcw, .int (nI c), .ref zg, .ref zt, .ref zs, .ref zf, .ref zy, .ref zso, .ref zsf, .ref zsm, .int nt, .int nsh, .ref ztp, .ref zrw, .ref zpp, .int (nI tn), .int (nI pn), .int rdw, .int rdh, .ref zsz, .ref zit, .ref zk, .int (bI itk)])), (zc, ia G 16 f), (zr, ia G 16 (fun ι => nI (p ι))), (zm, ia G 16 mf), (zmr, ia G 16 mrf), (zmb, ia G 16 mbf)]) rfl rfl ?_
  refine j_ifB_ne (pc := 33) (tgt := 39) hX dX9_steps_33 (by decide) (fun c33 => ?_) (fun c33 => by rw [rng_t (x := t + n) (A := -9999) (B := 9999) hb] at c33; cases c33)
  refine j_aload_n (pc := 39) hX dX9_steps_39 0 rfl ?_
  refine j_callV (pc := 40) hX kX9_minds kVX9_minds l_RX9_189 (fun l => c_X9_minds G md W H t m k zc zr zb z1 z2 z3 z4 z5 zm zmr zmb mt zca zcw c zg zt zs zf zy zso zsf zsm nt nsh ztp zrw zpp tn pn rdw rdh zsz zit zk itk f p mf mrf mbf q (by assumption) l) [0, 1, 2, 3, 4, 5] [] [] rfl 0 9 rfl rfl rfl rfl rfl rfl ⟨rfl, rfl, by decide⟩ rfl rfl (Nat.le_of_ble_eq_true rfl) dX9_steps_40 (fun v w hq => ?_)
  obtain ⟨rfl, rfl⟩ := hq
  refine j_ws [0, 1, 2, 3, 4, 5] (ws' := [(md, .inr (9, [.int (nI W), .int (nI H), .int t, .int (nI m), .int (nI k), .ref zc, .ref zr, .ref zb, .ref z1, .ref z2, .ref z3, .ref z4, .ref z5, .ref zm, .ref zmr, .ref zmb, .int t, .ref zca, .ref zcw, .int (nI c), .ref zg, .ref zt, .ref zs, .ref zf, .ref zy, .ref zso, .ref zsf, .ref zsm, .int nt, .int nsh, .ref ztp, .ref zrw, .ref zpp, .int (nI tn), .int (nI pn), .int rdw, .int rdh, .ref zsz, .ref zit, .ref zk, .int (bI itk)])), (zc, ia G 16 f), (zr, ia G 16 (fun ι => nI (p ι))), (zm, ia G 16 f), (zmr, ia G 16 (fun ι => nI (p ι))), (zmb, ia G 16 (fun ι => nI (q ι)))]) rfl rfl ?_
  refine j_aload_n (pc := 43) hX dX9_steps_43 0 rfl ?_
  refine j_iload_n (pc := 44) hX dX9_steps_44 1 rfl ?_
  refine j_callV (pc := 45) hX kX9_goes kVX9_goes l_RX9_192 (fun l => c_X9_goes G md W H t m k zc zr zb z1 z2 z3 z4 z5 zm zmr zmb t zca zcw c zg zt zs zf zy zso zsf zsm nt nsh ztp zrw zpp tn pn rdw rdh zsz zit zk itk f p q n (by omega) (by omega) (by omega) (by omega) (by omega) (by omega) (by first | omega | (rw [nI_toInt (by omega)]; omega)) l) [0, 3, 4, 5] [1, 2] [] rfl 0 9 rfl rfl rfl rfl rfl rfl ⟨rfl, rfl, by decide⟩ rfl rfl (Nat.le_of_ble_eq_true rfl) dX9_steps_45 (fun v w hq => ?_)
  obtain ⟨rfl, rfl⟩ := hq
  refine j_ws [2, 0, 1, 3, 4, 5] (ws' := [(md, .inr (9, [.int (nI W), .int (nI H), .int t, .int (nI m), .int (nI k), .ref zc, .ref zr, .ref zb, .ref z1, .ref z2, .ref z3, .ref z4, .ref z5, .ref zm, .ref zmr, .ref zmb, .int (t + n), .ref zca, .ref zcw, .int (nI c), .ref zg, .ref zt, .ref zs, .ref zf, .ref zy, .ref zso, .ref zsf, .ref zsm, .int nt, .int nsh, .ref ztp, .ref zrw, .ref zpp, .int (nI tn), .int (nI pn), .int rdw, .int rdh, .ref zsz, .ref zit, .ref zk, .int (bI itk)])), (zc, ia G 16 f), (zr, ia G 16 (fun ι => nI (p ι))), (zm, ia G 16 (goF W H p q t n f)), (zmr, ia G 16 (fun ι => nI (p ι))), (zmb, ia G 16 (fun ι => nI (q ι)))]) rfl rfl ?_
  refine j_aload_n (pc := 48) hX dX9_steps_48 0 rfl ?_
  refine j_get (pc := 49) hX f_RX9_43 0 rfl rfl dX9_steps_49 ?_
  refine j_aload_n (pc := 52) hX dX9_steps_52 0 rfl ?_
  refine j_get (pc := 53) hX f_RX9_18 0 rfl rfl dX9_steps_53 ?_
  refine j_callS (pc := 56) hX kX9_copies kSX9_copies l_RX9_139 (fun l => c_X9_copies G zm zc (goF W H p q t n f) f  l) [3, 1] [0, 2, 4, 5] [] rfl rfl rfl rfl ⟨rfl, rfl, by decide⟩ rfl rfl (Nat.le_of_ble_eq_true rfl) dX9_steps_56 (fun v w hq => ?_)
  obtain ⟨rfl, rfl⟩ := hq
  refine j_ws [0, 5, 1, 4, 2, 3] (ws' := [(md, .inr (9, [.int (nI W), .int (nI H), .int t, .int (nI m), .int (nI k), .ref zc, .ref zr, .ref zb, .ref z1, .ref z2, .ref z3, .ref z4, .ref z5, .ref zm, .ref zmr, .ref zmb, .int (t + n), .ref zca, .ref zcw, .int (nI c), .ref zg, .ref zt, .ref zs, .ref zf, .ref zy, .ref zso, .ref zsf, .ref zsm, .int nt, .int nsh, .ref ztp, .ref zrw, .ref zpp, .int (nI tn), .int (nI pn), .int rdw, .int rdh, .ref zsz, .ref zit, .ref zk, .int (bI itk)])), (zc, ia G 16 (goF W H p q t n f)), (zr, ia G 16 (fun ι => nI (p ι))), (zm, ia G 16 (goF W H p q t n f)), (zmr, ia G 16 (fun ι => nI (p ι))), (zmb, ia G 16 (fun ι => nI (q ι)))]) rfl rfl ?_
  refine j_aload_n (pc := 59) hX dX9_steps_59 0 rfl ?_
  refine j_aload_n (pc := 60) hX dX9_steps_60 0 rfl ?_
  refine j_get (pc := 61) hX f_RX9_145 0 rfl rfl dX9_steps_61 ?_
  refine j_put (pc := 64) (ws' := [(md, .inr (9, [.int (nI W), .int (nI H), .int (t + n), .int (nI m), .int (nI k), .ref zc, .ref zr, .ref zb, .ref z1, .ref z2, .ref z3, .ref z4, .ref z5, .ref zm, .ref zmr, .ref zmb, .int (t + n), .ref zca, .ref zcw, .int (nI c), .ref zg, .ref zt, .ref zs, .ref zf, .ref zy, .ref zso, .ref zsf, .ref zsm, .int nt, .int nsh, .ref ztp, .ref zrw, .ref zpp, .int (nI tn), .int (nI pn), .int rdw, .int rdh, .ref zsz, .ref zit, .ref zk, .int (bI itk)])), (zc, ia G 16 (goF W H p q t n f)), (zr, ia G 16 (fun ι => nI (p ι))), (zm, ia G 16 (goF W H p q t n f)), (zmr, ia G 16 (fun ι => nI (p ι))), (zmb, ia G 16 (fun ι => nI (q ι)))]) hX f_RX9_142 0 rfl rfl rfl (Nat.le_of_ble_eq_true rfl) rfl dX9_steps_64 ?_
  refine j_aload_n (pc := 67) hX dX9_steps_67 0 rfl ?_
  refine j_get (pc := 68) hX f_RX9_142 0 rfl rfl dX9_steps_68 ?_
  refine j_sipush (pc := 71) (v := nI 10000) hX dX9_steps_71 (by decide) ?_
  refine j_iadd (pc := 74) hX dX9_steps_74 ?_
  exact j_iret (pc := 75) hX hR dX9_steps_75 ⟨(t + n), (goF W H p q t n f), congrArg some (show Value.int ((t + n) + (nI 10000)) = Value.int (t + n + nI 10000) from by rfl), rfl⟩
set_option maxHeartbeats 4000000 in
set_option maxRecDepth 100000 in
theorem c_X9_block_ok (G : GT) (md : Nat) (W : Nat) (H : Nat) (t : Int32) (m : Nat) (k : Nat) (zc : Nat) (zr : Nat) (zb : Nat) (z1 : Nat) (z2 : Nat) (z3 : Nat) (z4 : Nat) (z5 : Nat) (zm : Nat) (zmr : Nat) (zmb : Nat) (mt : Int32) (zca : Nat) (zcw : Nat) (c : Nat) (zg : Nat) (zt : Nat) (zs : Nat) (zf : Nat) (zy : Nat) (zso : Nat) (zsf : Nat) (zsm : Nat) (nt : Int32) (nsh : Int32) (ztp : Nat) (zrw : Nat) (zpp : Nat) (tn : Nat) (pn : Nat) (rdw : Int32) (rdh : Int32) (zsz : Nat) (zit : Nat) (zk : Nat) (itk : Bool) (f : Nat → Int32) (xx yy : Nat) (hW1 : 2 ≤ W) (hW2 : W ≤ 16) (hH1 : 2 ≤ H) (hH2 : H ≤ 16) (hW3 : W % 2 = 0) (hH3 : H % 2 = 0) (hX1 : xx < W) (hY1 : yy < H) (l : Launch) : CT l G yX9_block cX9_block 4 (some .int) { frames := 2, cells := 0, slots := 0, locals := 47 } [.ref md, .int (nI xx), .int (nI yy)] [(md, .inr (9, [.int (nI W), .int (nI H), .int t, .int (nI m), .int (nI k), .ref zc, .ref zr, .ref zb, .ref z1, .ref z2, .ref z3, .ref z4, .ref z5, .ref zm, .ref zmr, .ref zmb, .int mt, .ref zca, .ref zcw, .int (nI c), .ref zg, .ref zt, .ref zs, .ref zf, .ref zy, .ref zso, .ref zsf, .ref zsm, .int nt, .int nsh, .ref ztp, .ref zrw, .ref zpp, .int (nI tn), .int (nI pn), .int rdw, .int rdh, .ref zsz, .ref zit, .ref zk, .int (bI itk)])), (zc, ia G 16 f)] (fun vv ww => vv = some (.int (nI (stA W H f (lfA xx (ph t) W) (lfA yy (ph t) H)))) ∧ ww = [(md, .inr (9, [.int (nI W), .int (nI H), .int t, .int (nI m), .int (nI k), .ref zc, .ref zr, .ref zb, .ref z1, .ref z2, .ref z3, .ref z4, .ref z5, .ref zm, .ref zmr, .ref zmb, .int mt, .ref zca, .ref zcw, .int (nI c), .ref zg, .ref zt, .ref zs, .ref zf, .ref zy, .ref zso, .ref zsf, .ref zsm, .int nt, .int nsh, .ref ztp, .ref zrw, .ref zpp, .int (nI tn), .int (nI pn), .int rdw, .int rdh, .ref zsz, .ref zit, .ref zk, .int (bI itk)])), (zc, ia G 16 f)]) := by
  refine CT.of (lv := [(0, .ref md), (1, .int (nI xx)), (2, .int (nI yy))]) RX9 "block" rfl rfl (by decide +kernel) (Nat.le_of_ble_eq_true rfl) rfl (fun X hX hR => ?_)
  have hp := ph_lt t
  have hxl := lfA_lt (x := xx) (p := ph t) hX1 hW1
  have hyl := lfA_lt (x := yy) (p := ph t) hY1 hH1
  refine j_aload_n (pc := 0) hX dX9_block_0 0 rfl ?_
  refine j_iload_n (pc := 1) hX dX9_block_1 1 rfl ?_
  refine j_iload_n (pc := 2) hX dX9_block_2 2 rfl ?_
  refine j_callV (pc := 3) hX kX9_isCell kVX9_isCell l_RX9_159 (fun l => c_X9_isCell G md W H t m k zc zr zb z1 z2 z3 z4 z5 zm zmr zmb mt zca zcw c zg zt zs zf zy zso zsf zsm nt nsh ztp zrw zpp tn pn rdw rdh zsz zit zk itk (nI xx) (nI yy) (by omega) (by omega) (by omega) (by omega) l) [0] [1] [] rfl 0 9 rfl rfl rfl rfl rfl rfl ⟨rfl, rfl, by decide⟩ rfl rfl (Nat.le_of_ble_eq_true rfl) dX9_block_3 (fun v w hq => ?_)
  obtain ⟨rfl, rfl⟩ := hq
  refine j_ws [1, 0] (ws' := [(md, .inr (9, [.int (nI W), .int (nI H), .int t, .int (nI m), .int (nI k), .ref zc, .ref zr, .ref zb, .ref z1, .ref z2, .ref z3, .ref z4, .ref z5, .ref zm, .ref zmr, .ref zmb, .int mt, .ref zca, .ref zcw, .int (nI c), .ref zg, .ref zt, .ref zs, .ref zf, .ref zy, .ref zso, .ref zsf, .ref zsm, .int nt, .int nsh, .ref ztp, .ref zrw, .ref zpp, .int (nI tn), .int (nI pn), .int rdw, .int rdh, .ref zsz, .ref zit, .ref zk, .int (bI itk)])), (zc, ia G 16 f)]) rfl rfl ?_
  refine j_ifB_ne (pc := 6) (tgt := 11) hX dX9_block_6 (by decide) (fun c6 => ?_) (fun c6 => by rw [inG_in (by omega) (by omega) (by omega) (by omega)] at c6; cases c6)
  refine j_aload_n (pc := 11) hX dX9_block_11 0 rfl ?_
  refine j_get (pc := 12) hX f_RX9_142 0 rfl rfl dX9_block_12 ?_
  refine j_iconstN (pc := 15) (j := 1) hX dX9_block_15 rfl ?_
  refine j_iand (pc := 16) hX dX9_block_16 ?_
  refine j_topi (y := nI (ph t)) (and1ph t) ?_
  refine j_istore_n (pc := 17) (lv' := [(3, .int (nI (ph t))), (0, .ref md), (1, .int (nI xx)), (2, .int (nI yy))]) hX dX9_block_17 (by decide) rfl ?_
  refine j_aload_n (pc := 18) hX dX9_block_18 1 rfl ?_
  refine j_aload_n (pc := 19) hX dX9_block_19 1 rfl ?_
  refine j_get (pc := 20) hX f_RX9_18 0 rfl rfl dX9_block_20 ?_
  refine j_iload_n (pc := 23) hX dX9_block_23 2 rfl ?_
  refine j_iload_n (pc := 24) hX dX9_block_24 0 rfl ?_
  refine j_isub (pc := 25) hX dX9_block_25 ?_
  refine j_aload_n (pc := 26) hX dX9_block_26 1 rfl ?_
  refine j_get (pc := 27) hX f_RX9_9 0 rfl rfl dX9_block_27 ?_
  refine j_iadd (pc := 30) hX dX9_block_30 ?_
  refine j_topi (y := nI (xx + W - ph t)) (by rw [Int32.sub_eq_add_neg, Int32.add_assoc, Int32.add_comm (-nI (ph t)), ← Int32.add_assoc, ← Int32.sub_eq_add_neg, nI_add, pk_sub (by omega)]) ?_
  refine j_aload_n (pc := 31) hX dX9_block_31 1 rfl ?_
  refine j_get (pc := 32) hX f_RX9_9 0 rfl rfl dX9_block_32 ?_
  refine j_irem (pc := 35) hX dX9_block_35 (nI_ne0 (by omega) (by omega)) ?_
  refine j_topi (y := nI (wr (xx + W - ph t) W)) (rem_wr (by omega) (by omega)) ?_
  have hwb := wr_lt (k := xx + W - ph t) (n := W) (by omega)
  refine j_iconstN (pc := 36) (j := 2) hX dX9_block_36 rfl ?_
  refine j_idiv (pc := 37) hX dX9_block_37 (by decide) ?_
  refine j_topi (y := nI ((wr (xx + W - ph t) W) / 2)) (pk_div (by omega) (by omega) (by omega)) ?_
  refine j_iconstN (pc := 38) (j := 2) hX dX9_block_38 rfl ?_
  refine j_imul (pc := 39) hX dX9_block_39 ?_
  refine j_topi (y := nI (((wr (xx + W - ph t) W) / 2) * 2)) (pk_mul _ _) ?_
  refine j_iload_n (pc := 40) hX dX9_block_40 0 rfl ?_
  refine j_iadd (pc := 41) hX dX9_block_41 ?_
  refine j_topi (y := nI (lfA xx (ph t) W)) (by rw [nI_add]; congr 1; rw [← mod_lf hX1 hp ⟨hW1, hW3⟩]; unfold wr; split <;> split <;> omega) ?_
  refine j_iload_n (pc := 42) hX dX9_block_42 3 rfl ?_
  refine j_iload_n (pc := 43) hX dX9_block_43 0 rfl ?_
  refine j_isub (pc := 44) hX dX9_block_44 ?_
  refine j_aload_n (pc := 45) hX dX9_block_45 1 rfl ?_
  refine j_get (pc := 46) hX f_RX9_15 0 rfl rfl dX9_block_46 ?_
  refine j_iadd (pc := 49) hX dX9_block_49 ?_
  refine j_topi (y := nI (yy + H - ph t)) (by rw [Int32.sub_eq_add_neg, Int32.add_assoc, Int32.add_comm (-nI (ph t)), ← Int32.add_assoc, ← Int32.sub_eq_add_neg, nI_add, pk_sub (by omega)]) ?_
  refine j_aload_n (pc := 50) hX dX9_block_50 1 rfl ?_
  refine j_get (pc := 51) hX f_RX9_15 0 rfl rfl dX9_block_51 ?_
  refine j_irem (pc := 54) hX dX9_block_54 (nI_ne0 (by omega) (by omega)) ?_
  refine j_topi (y := nI (wr (yy + H - ph t) H)) (rem_wr (by omega) (by omega)) ?_
  have hhb := wr_lt (k := yy + H - ph t) (n := H) (by omega)
  refine j_iconstN (pc := 55) (j := 2) hX dX9_block_55 rfl ?_
  refine j_idiv (pc := 56) hX dX9_block_56 (by decide) ?_
  refine j_topi (y := nI ((wr (yy + H - ph t) H) / 2)) (pk_div (by omega) (by omega) (by omega)) ?_
  refine j_iconstN (pc := 57) (j := 2) hX dX9_block_57 rfl ?_
  refine j_imul (pc := 58) hX dX9_block_58 ?_
  refine j_topi (y := nI (((wr (yy + H - ph t) H) / 2) * 2)) (pk_mul _ _) ?_
  refine j_iload_n (pc := 59) hX dX9_block_59 0 rfl ?_
  refine j_iadd (pc := 60) hX dX9_block_60 ?_
  refine j_topi (y := nI (lfA yy (ph t) H)) (by rw [nI_add]; congr 1; rw [← mod_lf hY1 hp ⟨hH1, hH3⟩]; unfold wr; split <;> split <;> omega) ?_
  refine j_callV (pc := 61) hX kX9_blockAt kVX9_blockAt l_RX9_131 (fun l => c_X9_blockAt G md W H t m k zc zr zb z1 z2 z3 z4 z5 zm zmr zmb mt zca zcw c zg zt zs zf zy zso zsf zsm nt nsh ztp zrw zpp tn pn rdw rdh zsz zit zk itk f zc (lfA xx (ph t) W) (lfA yy (ph t) H) f (by omega) (by omega) (by omega) (by omega) (by omega) (by omega) l) [0, 1] [] [] rfl 0 9 rfl rfl rfl rfl rfl rfl ⟨rfl, rfl, by decide⟩ rfl rfl (Nat.le_of_ble_eq_true rfl) dX9_block_61 (fun v w hq => ?_)
  obtain ⟨rfl, rfl⟩ := hq
  refine j_ws [0, 1] (ws' := [(md, .inr (9, [.int (nI W), .int (nI H), .int t, .int (nI m), .int (nI k), .ref zc, .ref zr, .ref zb, .ref z1, .ref z2, .ref z3, .ref z4, .ref z5, .ref zm, .ref zmr, .ref zmb, .int mt, .ref zca, .ref zcw, .int (nI c), .ref zg, .ref zt, .ref zs, .ref zf, .ref zy, .ref zso, .ref zsf, .ref zsm, .int nt, .int nsh, .ref ztp, .ref zrw, .ref zpp, .int (nI tn), .int (nI pn), .int rdw, .int rdh, .ref zsz, .ref zit, .ref zk, .int (bI itk)])), (zc, ia G 16 f)]) rfl rfl ?_
  exact j_iret (pc := 64) hX hR dX9_block_64 ⟨rfl, rfl⟩
set_option maxHeartbeats 4000000 in
set_option maxRecDepth 100000 in
theorem c_X9_block_bad (G : GT) (md : Nat) (W : Nat) (H : Nat) (t : Int32) (m : Nat) (k : Nat) (zc : Nat) (zr : Nat) (zb : Nat) (z1 : Nat) (z2 : Nat) (z3 : Nat) (z4 : Nat) (z5 : Nat) (zm : Nat) (zmr : Nat) (zmb : Nat) (mt : Int32) (zca : Nat) (zcw : Nat) (c : Nat) (zg : Nat) (zt : Nat) (zs : Nat) (zf : Nat) (zy : Nat) (zso : Nat) (zsf : Nat) (zsm : Nat) (nt : Int32) (nsh : Int32) (ztp : Nat) (zrw : Nat) (zpp : Nat) (tn : Nat) (pn : Nat) (rdw : Int32) (rdh : Int32) (zsz : Nat) (zit : Nat) (zk : Nat) (itk : Bool) (x_ y_ : Int32) (hW1 : 2 ≤ W) (hW2 : W ≤ 16) (hH1 : 2 ≤ H) (hH2 : H ≤ 16) (hb : inG W H x_ y_ = false) (l : Launch) : CT l G yX9_block cX9_block 4 (some .int) { frames := 2, cells := 0, slots := 0, locals := 47 } [.ref md, .int x_, .int y_] [(md, .inr (9, [.int (nI W), .int (nI H), .int t, .int (nI m), .int (nI k), .ref zc, .ref zr, .ref zb, .ref z1, .ref z2, .ref z3, .ref z4, .ref z5, .ref zm, .ref zmr, .ref zmb, .int mt, .ref zca, .ref zcw, .int (nI c), .ref zg, .ref zt, .ref zs, .ref zf, .ref zy, .ref zso, .ref zsf, .ref zsm, .int nt, .int nsh, .ref ztp, .ref zrw, .ref zpp, .int (nI tn), .int (nI pn), .int rdw, .int rdh, .ref zsz, .ref zit, .ref zk, .int (bI itk)]))] (fun vv ww => vv = some (.int (-1)) ∧ ww = [(md, .inr (9, [.int (nI W), .int (nI H), .int t, .int (nI m), .int (nI k), .ref zc, .ref zr, .ref zb, .ref z1, .ref z2, .ref z3, .ref z4, .ref z5, .ref zm, .ref zmr, .ref zmb, .int mt, .ref zca, .ref zcw, .int (nI c), .ref zg, .ref zt, .ref zs, .ref zf, .ref zy, .ref zso, .ref zsf, .ref zsm, .int nt, .int nsh, .ref ztp, .ref zrw, .ref zpp, .int (nI tn), .int (nI pn), .int rdw, .int rdh, .ref zsz, .ref zit, .ref zk, .int (bI itk)]))]) := by
  refine CT.of (lv := [(0, .ref md), (1, .int x_), (2, .int y_)]) RX9 "block" rfl rfl (by decide +kernel) (Nat.le_of_ble_eq_true rfl) rfl (fun X hX hR => ?_)
  refine j_aload_n (pc := 0) hX dX9_block_0 0 rfl ?_
  refine j_iload_n (pc := 1) hX dX9_block_1 1 rfl ?_
  refine j_iload_n (pc := 2) hX dX9_block_2 2 rfl ?_
  refine j_callV (pc := 3) hX kX9_isCell kVX9_isCell l_RX9_159 (fun l => c_X9_isCell G md W H t m k zc zr zb z1 z2 z3 z4 z5 zm zmr zmb mt zca zcw c zg zt zs zf zy zso zsf zsm nt nsh ztp zrw zpp tn pn rdw rdh zsz zit zk itk x_ y_ (by omega) (by omega) (by omega) (by omega) l) [0] [] [] rfl 0 9 rfl rfl rfl rfl rfl rfl ⟨rfl, rfl, by decide⟩ rfl rfl (Nat.le_of_ble_eq_true rfl) dX9_block_3 (fun v w hq => ?_)
  obtain ⟨rfl, rfl⟩ := hq
  refine j_ws [0] (ws' := [(md, .inr (9, [.int (nI W), .int (nI H), .int t, .int (nI m), .int (nI k), .ref zc, .ref zr, .ref zb, .ref z1, .ref z2, .ref z3, .ref z4, .ref z5, .ref zm, .ref zmr, .ref zmb, .int mt, .ref zca, .ref zcw, .int (nI c), .ref zg, .ref zt, .ref zs, .ref zf, .ref zy, .ref zso, .ref zsf, .ref zsm, .int nt, .int nsh, .ref ztp, .ref zrw, .ref zpp, .int (nI tn), .int (nI pn), .int rdw, .int rdh, .ref zsz, .ref zit, .ref zk, .int (bI itk)]))]) rfl rfl ?_
  refine j_ifB_ne (pc := 6) (tgt := 11) hX dX9_block_6 (by decide) (fun c6 => by rw [hb] at c6; cases c6) (fun c6 => ?_)
  refine j_iconst (pc := 9) (v := (-1)) hX dX9_block_9 (by decide) ?_
  exact j_iret (pc := 10) hX hR dX9_block_10 ⟨rfl, rfl⟩
set_option maxHeartbeats 4000000 in
set_option maxRecDepth 100000 in
theorem c_X9_then_bad (G : GT) (md : Nat) (W : Nat) (H : Nat) (t : Int32) (m : Nat) (k : Nat) (zc : Nat) (zr : Nat) (zb : Nat) (z1 : Nat) (z2 : Nat) (z3 : Nat) (z4 : Nat) (z5 : Nat) (zm : Nat) (zmr : Nat) (zmb : Nat) (mt : Int32) (zca : Nat) (zcw : Nat) (c : Nat) (zg : Nat) (zt : Nat) (zs : Nat) (zf : Nat) (zy : Nat) (zso : Nat) (zsf : Nat) (zsm : Nat) (nt : Int32) (nsh : Int32) (ztp : Nat) (zrw : Nat) (zpp : Nat) (tn : Nat) (pn : Nat) (rdw : Int32) (rdh : Int32) (zsz : Nat) (zit : Nat) (zk : Nat) (itk : Bool) (x_ y_ n : Int32) (hW1 : 2 ≤ W) (hW2 : W ≤ 16) (hH1 : 2 ≤ H) (hH2 : H ≤ 16) (hb : inG W H x_ y_ = false) (l : Launch) : CT l G yX9_then cX9_then 4 (some .int) { frames := 4, cells := 0, slots := 0, locals := 95 } [.ref md, .int x_, .int y_, .int n] [(md, .inr (9, [.int (nI W), .int (nI H), .int t, .int (nI m), .int (nI k), .ref zc, .ref zr, .ref zb, .ref z1, .ref z2, .ref z3, .ref z4, .ref z5, .ref zm, .ref zmr, .ref zmb, .int mt, .ref zca, .ref zcw, .int (nI c), .ref zg, .ref zt, .ref zs, .ref zf, .ref zy, .ref zso, .ref zsf, .ref zsm, .int nt, .int nsh, .ref ztp, .ref zrw, .ref zpp, .int (nI tn), .int (nI pn), .int rdw, .int rdh, .ref zsz, .ref zit, .ref zk, .int (bI itk)]))] (fun vv ww => vv = some (.int (-1)) ∧ ww = [(md, .inr (9, [.int (nI W), .int (nI H), .int t, .int (nI m), .int (nI k), .ref zc, .ref zr, .ref zb, .ref z1, .ref z2, .ref z3, .ref z4, .ref z5, .ref zm, .ref zmr, .ref zmb, .int mt, .ref zca, .ref zcw, .int (nI c), .ref zg, .ref zt, .ref zs, .ref zf, .ref zy, .ref zso, .ref zsf, .ref zsm, .int nt, .int nsh, .ref ztp, .ref zrw, .ref zpp, .int (nI tn), .int (nI pn), .int rdw, .int rdh, .ref zsz, .ref zit, .ref zk, .int (bI itk)]))]) := by
  refine CT.of (lv := [(0, .ref md), (1, .int x_), (2, .int y_), (3, .int n)]) RX9 "then" rfl rfl (by decide +kernel) (Nat.le_of_ble_eq_true rfl) rfl (fun X hX hR => ?_)
  refine j_aload_n (pc := 0) hX dX9_then_0 0 rfl ?_
  refine j_iload_n (pc := 1) hX dX9_then_1 1 rfl ?_
  refine j_iload_n (pc := 2) hX dX9_then_2 2 rfl ?_
  refine j_callV (pc := 3) hX kX9_isCell kVX9_isCell l_RX9_159 (fun l => c_X9_isCell G md W H t m k zc zr zb z1 z2 z3 z4 z5 zm zmr zmb mt zca zcw c zg zt zs zf zy zso zsf zsm nt nsh ztp zrw zpp tn pn rdw rdh zsz zit zk itk x_ y_ (by omega) (by omega) (by omega) (by omega) l) [0] [] [] rfl 0 9 rfl rfl rfl rfl rfl rfl ⟨rfl, rfl, by decide⟩ rfl rfl (Nat.le_of_ble_eq_true rfl) dX9_then_3 (fun v w hq => ?_)
  obtain ⟨rfl, rfl⟩ := hq
  refine j_ws [0] (ws' := [(md, .inr (9, [.int (nI W), .int (nI H), .int t, .int (nI m), .int (nI k), .ref zc, .ref zr, .ref zb, .ref z1, .ref z2, .ref z3, .ref z4, .ref z5, .ref zm, .ref zmr, .ref zmb, .int mt, .ref zca, .ref zcw, .int (nI c), .ref zg, .ref zt, .ref zs, .ref zf, .ref zy, .ref zso, .ref zsf, .ref zsm, .int nt, .int nsh, .ref ztp, .ref zrw, .ref zpp, .int (nI tn), .int (nI pn), .int rdw, .int rdh, .ref zsz, .ref zit, .ref zk, .int (bI itk)]))]) rfl rfl ?_
  refine j_ifB_ne (pc := 6) (tgt := 11) hX dX9_then_6 (by decide) (fun c6 => by rw [hb] at c6; cases c6) (fun c6 => ?_)
  refine j_iconst (pc := 9) (v := (-1)) hX dX9_then_9 (by decide) ?_
  exact j_iret (pc := 10) hX hR dX9_then_10 ⟨rfl, rfl⟩
set_option maxHeartbeats 4000000 in
set_option maxRecDepth 100000 in
theorem c_X9_then_far (G : GT) (md : Nat) (W : Nat) (H : Nat) (t : Int32) (m : Nat) (k : Nat) (zc : Nat) (zr : Nat) (zb : Nat) (z1 : Nat) (z2 : Nat) (z3 : Nat) (z4 : Nat) (z5 : Nat) (zm : Nat) (zmr : Nat) (zmb : Nat) (mt : Int32) (zca : Nat) (zcw : Nat) (c : Nat) (zg : Nat) (zt : Nat) (zs : Nat) (zf : Nat) (zy : Nat) (zso : Nat) (zsf : Nat) (zsm : Nat) (nt : Int32) (nsh : Int32) (ztp : Nat) (zrw : Nat) (zpp : Nat) (tn : Nat) (pn : Nat) (rdw : Int32) (rdh : Int32) (zsz : Nat) (zit : Nat) (zk : Nat) (itk : Bool) (xx yy : Nat) (n : Int32) (hW1 : 2 ≤ W) (hW2 : W ≤ 16) (hH1 : 2 ≤ H) (hH2 : H ≤ 16) (hX1 : xx < W) (hY1 : yy < H) (hn : n.toInt < -60 ∨ 60 < n.toInt) (l : Launch) : CT l G yX9_then cX9_then 4 (some .int) { frames := 4, cells := 0, slots := 0, locals := 95 } [.ref md, .int (nI xx), .int (nI yy), .int n] [(md, .inr (9, [.int (nI W), .int (nI H), .int t, .int (nI m), .int (nI k), .ref zc, .ref zr, .ref zb, .ref z1, .ref z2, .ref z3, .ref z4, .ref z5, .ref zm, .ref zmr, .ref zmb, .int mt, .ref zca, .ref zcw, .int (nI c), .ref zg, .ref zt, .ref zs, .ref zf, .ref zy, .ref zso, .ref zsf, .ref zsm, .int nt, .int nsh, .ref ztp, .ref zrw, .ref zpp, .int (nI tn), .int (nI pn), .int rdw, .int rdh, .ref zsz, .ref zit, .ref zk, .int (bI itk)]))] (fun vv ww => vv = some (.int (-2)) ∧ ww = [(md, .inr (9, [.int (nI W), .int (nI H), .int t, .int (nI m), .int (nI k), .ref zc, .ref zr, .ref zb, .ref z1, .ref z2, .ref z3, .ref z4, .ref z5, .ref zm, .ref zmr, .ref zmb, .int mt, .ref zca, .ref zcw, .int (nI c), .ref zg, .ref zt, .ref zs, .ref zf, .ref zy, .ref zso, .ref zsf, .ref zsm, .int nt, .int nsh, .ref ztp, .ref zrw, .ref zpp, .int (nI tn), .int (nI pn), .int rdw, .int rdh, .ref zsz, .ref zit, .ref zk, .int (bI itk)]))]) := by
  refine CT.of (lv := [(0, .ref md), (1, .int (nI xx)), (2, .int (nI yy)), (3, .int n)]) RX9 "then" rfl rfl (by decide +kernel) (Nat.le_of_ble_eq_true rfl) rfl (fun X hX hR => ?_)
  refine j_aload_n (pc := 0) hX dX9_then_0 0 rfl ?_
  refine j_iload_n (pc := 1) hX dX9_then_1 1 rfl ?_
  refine j_iload_n (pc := 2) hX dX9_then_2 2 rfl ?_
  refine j_callV (pc := 3) hX kX9_isCell kVX9_isCell l_RX9_159 (fun l => c_X9_isCell G md W H t m k zc zr zb z1 z2 z3 z4 z5 zm zmr zmb mt zca zcw c zg zt zs zf zy zso zsf zsm nt nsh ztp zrw zpp tn pn rdw rdh zsz zit zk itk (nI xx) (nI yy) (by omega) (by omega) (by omega) (by omega) l) [0] [] [] rfl 0 9 rfl rfl rfl rfl rfl rfl ⟨rfl, rfl, by decide⟩ rfl rfl (Nat.le_of_ble_eq_true rfl) dX9_then_3 (fun v w hq => ?_)
  obtain ⟨rfl, rfl⟩ := hq
  refine j_ws [0] (ws' := [(md, .inr (9, [.int (nI W), .int (nI H), .int t, .int (nI m), .int (nI k), .ref zc, .ref zr, .ref zb, .ref z1, .ref z2, .ref z3, .ref z4, .ref z5, .ref zm, .ref zmr, .ref zmb, .int mt, .ref zca, .ref zcw, .int (nI c), .ref zg, .ref zt, .ref zs, .ref zf, .ref zy, .ref zso, .ref zsf, .ref zsm, .int nt, .int nsh, .ref ztp, .ref zrw, .ref zpp, .int (nI tn), .int (nI pn), .int rdw, .int rdh, .ref zsz, .ref zit, .ref zk, .int (bI itk)]))]) rfl rfl ?_
  refine j_ifB_ne (pc := 6) (tgt := 11) hX dX9_then_6 (by decide) (fun c6 => ?_) (fun c6 => by rw [inG_in (by omega) (by omega) (by omega) (by omega)] at c6; cases c6)
  refine j_iload_n (pc := 11) hX dX9_then_11 3 rfl ?_
  refine j_i2l (pc := 12) hX dX9_then_12 ?_
  refine j_ldc2 (pc := 13) (v := (-60)) hX k_RX9_196 dX9_then_13 ?_
  refine j_ldc2 (pc := 16) (v := (60)) hX k_RX9_198 dX9_then_16 ?_
  refine j_callS (pc := 19) hX kX9_isIn kSX9_isIn l_RX9_105 (fun l => c_X9_isIn G n.toInt64 (-60) (60) (rngB n (-60) (60)) (inL_of (toL _) (show ((-60) : Int64).toInt = -60 from by decide) (show ((60) : Int64).toInt = 60 from by decide)) l) [] [0] [] rfl rfl rfl rfl ⟨rfl, rfl, by decide⟩ rfl rfl (Nat.le_of_ble_eq_true rfl) dX9_then_19 (fun v w hq => ?_)
  obtain ⟨rfl, rfl⟩ := hq
  refine j_ws [0] (ws' := [(md, .inr (9, [.int (nI W), .int (nI H), .int t, .int (nI m), .int (nI k), .ref zc, .ref zr, .ref zb, .ref z1, .ref z2, .ref z3, .ref z4, .ref z5, .ref zm, .ref zmr, .ref zmb, .int mt, .ref zca, .ref zcw, .int (nI c), .ref zg, .ref zt, .ref zs, .ref zf, .ref zy, .ref zso, .ref zsf, .ref zsm, .int nt, .int nsh, .ref ztp, .ref zrw, .ref zpp, .int (nI tn), .int (nI pn), .int rdw, .int rdh, .ref zsz, .ref zit, .ref zk, .int (bI itk)]))]) rfl rfl ?_
  refine j_ifB_ne (pc := 22) (tgt := 28) hX dX9_then_22 (by decide) (fun c22 => by exfalso; have := of_decide_eq_true c22; omega) (fun c22 => ?_)
  refine j_bipush (pc := 25) (v := (-2)) hX dX9_then_25 (by decide) ?_
  exact j_iret (pc := 27) hX hR dX9_then_27 ⟨rfl, rfl⟩
set_option maxHeartbeats 4000000 in
set_option maxRecDepth 100000 in
theorem c_X9_then_ok (G : GT) (md : Nat) (W : Nat) (H : Nat) (t : Int32) (m : Nat) (k : Nat) (zc : Nat) (zr : Nat) (zb : Nat) (z1 : Nat) (z2 : Nat) (z3 : Nat) (z4 : Nat) (z5 : Nat) (zm : Nat) (zmr : Nat) (zmb : Nat) (mt : Int32) (zca : Nat) (zcw : Nat) (c : Nat) (zg : Nat) (zt : Nat) (zs : Nat) (zf : Nat) (zy : Nat) (zso : Nat) (zsf : Nat) (zsm : Nat) (nt : Int32) (nsh : Int32) (ztp : Nat) (zrw : Nat) (zpp : Nat) (tn : Nat) (pn : Nat) (rdw : Int32) (rdh : Int32) (zsz : Nat) (zit : Nat) (zk : Nat) (itk : Bool) (f : Nat → Int32) (p : Nat → Nat) (mf : Nat → Int32) (mrf : Nat → Int32) (mbf : Nat → Int32) (q : Nat → Nat) (xx yy : Nat) (n : Int32) (hW1 : 2 ≤ W) (hW2 : W ≤ 16) (hH1 : 2 ≤ H) (hH2 : H ≤ 16) (hW3 : W % 2 = 0) (hH3 : H % 2 = 0) (hp : isP p q) (hX1 : xx < W) (hY1 : yy < H) (hn : -60 ≤ n.toInt ∧ n.toInt ≤ 60) (l : Launch) : CT l G yX9_then cX9_then 4 (some .int) { frames := 4, cells := 0, slots := 0, locals := 95 } [.ref md, .int (nI xx), .int (nI yy), .int n] [(md, .inr (9, [.int (nI W), .int (nI H), .int t, .int (nI m), .int (nI k), .ref zc, .ref zr, .ref zb, .ref z1, .ref z2, .ref z3, .ref z4, .ref z5, .ref zm, .ref zmr, .ref zmb, .int mt, .ref zca, .ref zcw, .int (nI c), .ref zg, .ref zt, .ref zs, .ref zf, .ref zy, .ref zso, .ref zsf, .ref zsm, .int nt, .int nsh, .ref ztp, .ref zrw, .ref zpp, .int (nI tn), .int (nI pn), .int rdw, .int rdh, .ref zsz, .ref zit, .ref zk, .int (bI itk)])), (zc, ia G 16 f), (zr, ia G 16 (fun ι => nI (p ι))), (zm, ia G 16 mf), (zmr, ia G 16 mrf), (zmb, ia G 16 mbf)] (fun vv ww => ∃ (mt2 : Int32) (mf2 : Nat → Int32), vv = some (.int (bI (bt (goF W H p q t n f yy) xx))) ∧ ww = [(md, .inr (9, [.int (nI W), .int (nI H), .int t, .int (nI m), .int (nI k), .ref zc, .ref zr, .ref zb, .ref z1, .ref z2, .ref z3, .ref z4, .ref z5, .ref zm, .ref zmr, .ref zmb, .int mt2, .ref zca, .ref zcw, .int (nI c), .ref zg, .ref zt, .ref zs, .ref zf, .ref zy, .ref zso, .ref zsf, .ref zsm, .int nt, .int nsh, .ref ztp, .ref zrw, .ref zpp, .int (nI tn), .int (nI pn), .int rdw, .int rdh, .ref zsz, .ref zit, .ref zk, .int (bI itk)])), (zc, ia G 16 f), (zr, ia G 16 (fun ι => nI (p ι))), (zm, ia G 16 mf2), (zmr, ia G 16 (fun ι => nI (p ι))), (zmb, ia G 16 (fun ι => nI (q ι)))]) := by
  refine CT.of (lv := [(0, .ref md), (1, .int (nI xx)), (2, .int (nI yy)), (3, .int n)]) RX9 "then" rfl rfl (by decide +kernel) (Nat.le_of_ble_eq_true rfl) rfl (fun X hX hR => ?_)
  refine j_aload_n (pc := 0) hX dX9_then_0 0 rfl ?_
  refine j_iload_n (pc := 1) hX dX9_then_1 1 rfl ?_
  refine j_iload_n (pc := 2) hX dX9_then_2 2 rfl ?_
  refine j_callV (pc := 3) hX kX9_isCell kVX9_isCell l_RX9_159 (fun l => c_X9_isCell G md W H t m k zc zr zb z1 z2 z3 z4 z5 zm zmr zmb mt zca zcw c zg zt zs zf zy zso zsf zsm nt nsh ztp zrw zpp tn pn rdw rdh zsz zit zk itk (nI xx) (nI yy) (by omega) (by omega) (by omega) (by omega) l) [0] [1, 2, 3, 4, 5] [] rfl 0 9 rfl rfl rfl rfl rfl rfl ⟨rfl, rfl, by decide⟩ rfl rfl (Nat.le_of_ble_eq_true rfl) dX9_then_3 (fun v w hq => ?_)
  obtain ⟨rfl, rfl⟩ := hq
  refine j_ws [5, 0, 1, 2, 3, 4] (ws' := [(md, .inr (9, [.int (nI W), .int (nI H), .int t, .int (nI m), .int (nI k), .ref zc, .ref zr, .ref zb, .ref z1, .ref z2, .ref z3, .ref z4, .ref z5, .ref zm, .ref zmr, .ref zmb, .int mt, .ref zca, .ref zcw, .int (nI c), .ref zg, .ref zt, .ref zs, .ref zf, .ref zy, .ref zso, .ref zsf, .ref zsm, .int nt, .int nsh, .ref ztp, .ref zrw, .ref zpp, .int (nI tn), .int (nI pn), .int rdw, .int rdh, .ref zsz, .ref zit, .ref zk, .int (bI itk)])), (zc, ia G 16 f), (zr, ia G 16 (fun ι => nI (p ι))), (zm, ia G 16 mf), (zmr, ia G 16 mrf), (zmb, ia G 16 mbf)]) rfl rfl ?_
  refine j_ifB_ne (pc := 6) (tgt := 11) hX dX9_then_6 (by decide) (fun c6 => ?_) (fun c6 => by rw [inG_in (by omega) (by omega) (by omega) (by omega)] at c6; cases c6)
  refine j_iload_n (pc := 11) hX dX9_then_11 3 rfl ?_
  refine j_i2l (pc := 12) hX dX9_then_12 ?_
  refine j_ldc2 (pc := 13) (v := (-60)) hX k_RX9_196 dX9_then_13 ?_
  refine j_ldc2 (pc := 16) (v := (60)) hX k_RX9_198 dX9_then_16 ?_
  refine j_callS (pc := 19) hX kX9_isIn kSX9_isIn l_RX9_105 (fun l => c_X9_isIn G n.toInt64 (-60) (60) (rngB n (-60) (60)) (inL_of (toL _) (show ((-60) : Int64).toInt = -60 from by decide) (show ((60) : Int64).toInt = 60 from by decide)) l) [] [0, 1, 2, 3, 4, 5] [] rfl rfl rfl rfl ⟨rfl, rfl, by decide⟩ rfl rfl (Nat.le_of_ble_eq_true rfl) dX9_then_19 (fun v w hq => ?_)
  obtain ⟨rfl, rfl⟩ := hq
  refine j_ws [0, 1, 2, 3, 4, 5] (ws' := [(md, .inr (9, [.int (nI W), .int (nI H), .int t, .int (nI m), .int (nI k), .ref zc, .ref zr, .ref zb, .ref z1, .ref z2, .ref z3, .ref z4, .ref z5, .ref zm, .ref zmr, .ref zmb, .int mt, .ref zca, .ref zcw, .int (nI c), .ref zg, .ref zt, .ref zs, .ref zf, .ref zy, .ref zso, .ref zsf, .ref zsm, .int nt, .int nsh, .ref ztp, .ref zrw, .ref zpp, .int (nI tn), .int (nI pn), .int rdw, .int rdh, .ref zsz, .ref zit, .ref zk, .int (bI itk)])), (zc, ia G 16 f), (zr, ia G 16 (fun ι => nI (p ι))), (zm, ia G 16 mf), (zmr, ia G 16 mrf), (zmb, ia G 16 mbf)]) rfl rfl ?_
  refine j_ifB_ne (pc := 22) (tgt := 28) hX dX9_then_22 (by decide) (fun c22 => ?_) (fun c22 => by rw [rng_t (x := n) (A := -60) (B := 60) hn] at c22; cases c22)
  refine j_aload_n (pc := 28) hX dX9_then_28 0 rfl ?_
  refine j_callV (pc := 29) hX kX9_minds kVX9_minds l_RX9_189 (fun l => c_X9_minds G md W H t m k zc zr zb z1 z2 z3 z4 z5 zm zmr zmb mt zca zcw c zg zt zs zf zy zso zsf zsm nt nsh ztp zrw zpp tn pn rdw rdh zsz zit zk itk f p mf mrf mbf q (by assumption) l) [0, 1, 2, 3, 4, 5] [] [] rfl 0 9 rfl rfl rfl rfl rfl rfl ⟨rfl, rfl, by decide⟩ rfl rfl (Nat.le_of_ble_eq_true rfl) dX9_then_29 (fun v w hq => ?_)
  obtain ⟨rfl, rfl⟩ := hq
  refine j_ws [0, 1, 2, 3, 4, 5] (ws' := [(md, .inr (9, [.int (nI W), .int (nI H), .int t, .int (nI m), .int (nI k), .ref zc, .ref zr, .ref zb, .ref z1, .ref z2, .ref z3, .ref z4, .ref z5, .ref zm, .ref zmr, .ref zmb, .int t, .ref zca, .ref zcw, .int (nI c), .ref zg, .ref zt, .ref zs, .ref zf, .ref zy, .ref zso, .ref zsf, .ref zsm, .int nt, .int nsh, .ref ztp, .ref zrw, .ref zpp, .int (nI tn), .int (nI pn), .int rdw, .int rdh, .ref zsz, .ref zit, .ref zk, .int (bI itk)])), (zc, ia G 16 f), (zr, ia G 16 (fun ι => nI (p ι))), (zm, ia G 16 f), (zmr, ia G 16 (fun ι => nI (p ι))), (zmb, ia G 16 (fun ι => nI (q ι)))]) rfl rfl ?_
  refine j_aload_n (pc := 32) hX dX9_then_32 0 rfl ?_
  refine j_iload_n (pc := 33) hX dX9_then_33 3 rfl ?_
  refine j_callV (pc := 34) hX kX9_goes kVX9_goes l_RX9_192 (fun l => c_X9_goes G md W H t m k zc zr zb z1 z2 z3 z4 z5 zm zmr zmb t zca zcw c zg zt zs zf zy zso zsf zsm nt nsh ztp zrw zpp tn pn rdw rdh zsz zit zk itk f p q n (by omega) (by omega) (by omega) (by omega) (by omega) (by omega) (by first | omega | (rw [nI_toInt (by omega)]; omega)) l) [0, 3, 4, 5] [1, 2] [] rfl 0 9 rfl rfl rfl rfl rfl rfl ⟨rfl, rfl, by decide⟩ rfl rfl (Nat.le_of_ble_eq_true rfl) dX9_then_34 (fun v w hq => ?_)
  obtain ⟨rfl, rfl⟩ := hq
  refine j_ws [2, 0, 1, 3, 4, 5] (ws' := [(md, .inr (9, [.int (nI W), .int (nI H), .int t, .int (nI m), .int (nI k), .ref zc, .ref zr, .ref zb, .ref z1, .ref z2, .ref z3, .ref z4, .ref z5, .ref zm, .ref zmr, .ref zmb, .int (t + n), .ref zca, .ref zcw, .int (nI c), .ref zg, .ref zt, .ref zs, .ref zf, .ref zy, .ref zso, .ref zsf, .ref zsm, .int nt, .int nsh, .ref ztp, .ref zrw, .ref zpp, .int (nI tn), .int (nI pn), .int rdw, .int rdh, .ref zsz, .ref zit, .ref zk, .int (bI itk)])), (zc, ia G 16 f), (zr, ia G 16 (fun ι => nI (p ι))), (zm, ia G 16 (goF W H p q t n f)), (zmr, ia G 16 (fun ι => nI (p ι))), (zmb, ia G 16 (fun ι => nI (q ι)))]) rfl rfl ?_
  refine j_aload_n (pc := 37) hX dX9_then_37 0 rfl ?_
  refine j_get (pc := 38) hX f_RX9_43 0 rfl rfl dX9_then_38 ?_
  refine j_iload_n (pc := 41) hX dX9_then_41 2 rfl ?_
  refine j_ialdN (pc := 42) (j := yy) hX 3 rfl (by omega) (by omega) dX9_then_42 ?_
  refine j_iload_n (pc := 43) hX dX9_then_43 1 rfl ?_
  refine j_ishr (pc := 44) hX dX9_then_44 ?_
  refine j_iconstN (pc := 45) (j := 1) hX dX9_then_45 rfl ?_
  refine j_iand (pc := 46) hX dX9_then_46 ?_
  refine j_topi (y := bI (bt (goF W H p q t n f yy) xx)) (bt_raw _ (by omega)) ?_
  exact j_iret (pc := 47) hX hR dX9_then_47 ⟨(t + n), (goF W H p q t n f), rfl, rfl⟩
set_option maxHeartbeats 4000000 in
set_option maxRecDepth 100000 in
theorem c_X9_isWeight (G : GT) (w : Int32)  (l : Launch) : CT l G yX9_isWeight cX9_isWeight 1 (some .boolean) { frames := 1, cells := 0, slots := 0, locals := 25 } [.int w] [] (fun vv ww => vv = some (.int (bI (rngB w (-9) 9))) ∧ ww = []) := by
  refine CT.of (lv := [(0, .int w)]) RX9 "isWeight" rfl rfl (by decide +kernel) (Nat.le_of_ble_eq_true rfl) rfl (fun X hX hR => ?_)
  refine j_iload_n (pc := 0) hX dX9_isWeight_0 0 rfl ?_
  refine j_i2l (pc := 1) hX dX9_isWeight_1 ?_
  refine j_ldc2 (pc := 2) (v := (-9)) hX k_RX9_200 dX9_isWeight_2 ?_
  refine j_ldc2 (pc := 5) (v := (9)) hX k_RX9_202 dX9_isWeight_5 ?_
  refine j_callS (pc := 8) hX kX9_isIn kSX9_isIn l_RX9_105 (fun l => c_X9_isIn G w.toInt64 (-9) (9) (rngB w (-9) (9)) (inL_of (toL _) (show ((-9) : Int64).toInt = -9 from by decide) (show ((9) : Int64).toInt = 9 from by decide)) l) [] [] [] rfl rfl rfl rfl ⟨rfl, rfl, by decide⟩ rfl rfl (Nat.le_of_ble_eq_true rfl) dX9_isWeight_8 (fun v w hq => ?_)
  obtain ⟨rfl, rfl⟩ := hq
  refine j_ws [] (ws' := []) rfl rfl ?_
  exact j_zret (pc := 11) hX hR (bI_nar _) dX9_isWeight_11 ⟨congrArg some (show Value.int (bI (rngB w (-9) (9))) = Value.int (bI (rngB w (-9) 9)) from by rfl), rfl⟩
set_option maxHeartbeats 4000000 in
set_option maxRecDepth 100000 in
theorem c_X9_areWeights (G : GT) (a b c d : Int32)  (l : Launch) : CT l G yX9_areWeights cX9_areWeights 4 (some .boolean) { frames := 2, cells := 0, slots := 0, locals := 45 } [.int a, .int b, .int c, .int d] [] (fun vv ww => vv = some (.int (bI (rngB a (-9) 9 && (rngB b (-9) 9 && (rngB c (-9) 9 && rngB d (-9) 9))))) ∧ ww = []) := by
  refine CT.of (lv := [(0, .int a), (1, .int b), (2, .int c), (3, .int d)]) RX9 "areWeights" rfl rfl (by decide +kernel) (Nat.le_of_ble_eq_true rfl) rfl (fun X hX hR => ?_)
  refine j_iload_n (pc := 0) hX dX9_areWeights_0 0 rfl ?_
  refine j_callS (pc := 1) hX kX9_isWeight kSX9_isWeight l_RX9_204 (fun l => c_X9_isWeight G a  l) [] [] [] rfl rfl rfl rfl ⟨rfl, rfl, by decide⟩ rfl rfl (Nat.le_of_ble_eq_true rfl) dX9_areWeights_1 (fun v w hq => ?_)
  obtain ⟨rfl, rfl⟩ := hq
  refine j_ws [] (ws' := []) rfl rfl ?_
  refine j_ifB_eq (pc := 4) (tgt := 32) hX dX9_areWeights_4 (by decide) (fun c4 => ?_) (fun c4 => ?_)
  · skip
    refine j_iconstN (pc := 32) (j := 0) hX dX9_areWeights_32 rfl ?_
    exact j_zret (pc := 33) hX hR (by decide) dX9_areWeights_33 ⟨congrArg some (show Value.int (nI 0) = Value.int (bI (rngB a (-9) 9 && (rngB b (-9) 9 && (rngB c (-9) 9 && rngB d (-9) 9)))) from by first | exact bI_tt (by simp_all; done) | exact bI_ff (by simp_all; done)), rfl⟩
  · skip
    refine j_iload_n (pc := 7) hX dX9_areWeights_7 1 rfl ?_
    refine j_callS (pc := 8) hX kX9_isWeight kSX9_isWeight l_RX9_204 (fun l => c_X9_isWeight G b  l) [] [] [] rfl rfl rfl rfl ⟨rfl, rfl, by decide⟩ rfl rfl (Nat.le_of_ble_eq_true rfl) dX9_areWeights_8 (fun v w hq => ?_)
    obtain ⟨rfl, rfl⟩ := hq
    refine j_ws [] (ws' := []) rfl rfl ?_
    refine j_ifB_eq (pc := 11) (tgt := 32) hX dX9_areWeights_11 (by decide) (fun c11 => ?_) (fun c11 => ?_)
    · skip
      refine j_iconstN (pc := 32) (j := 0) hX dX9_areWeights_32 rfl ?_
      exact j_zret (pc := 33) hX hR (by decide) dX9_areWeights_33 ⟨congrArg some (show Value.int (nI 0) = Value.int (bI (rngB a (-9) 9 && (rngB b (-9) 9 && (rngB c (-9) 9 && rngB d (-9) 9)))) from by first | exact bI_tt (by simp_all; done) | exact bI_ff (by simp_all; done)), rfl⟩
    · skip
      refine j_iload_n (pc := 14) hX dX9_areWeights_14 2 rfl ?_
      refine j_callS (pc := 15) hX kX9_isWeight kSX9_isWeight l_RX9_204 (fun l => c_X9_isWeight G c  l) [] [] [] rfl rfl rfl rfl ⟨rfl, rfl, by decide⟩ rfl rfl (Nat.le_of_ble_eq_true rfl) dX9_areWeights_15 (fun v w hq => ?_)
      obtain ⟨rfl, rfl⟩ := hq
      refine j_ws [] (ws' := []) rfl rfl ?_
      refine j_ifB_eq (pc := 18) (tgt := 32) hX dX9_areWeights_18 (by decide) (fun c18 => ?_) (fun c18 => ?_)
      · skip
        refine j_iconstN (pc := 32) (j := 0) hX dX9_areWeights_32 rfl ?_
        exact j_zret (pc := 33) hX hR (by decide) dX9_areWeights_33 ⟨congrArg some (show Value.int (nI 0) = Value.int (bI (rngB a (-9) 9 && (rngB b (-9) 9 && (rngB c (-9) 9 && rngB d (-9) 9)))) from by first | exact bI_tt (by simp_all; done) | exact bI_ff (by simp_all; done)), rfl⟩
      · skip
        refine j_iload_n (pc := 21) hX dX9_areWeights_21 3 rfl ?_
        refine j_callS (pc := 22) hX kX9_isWeight kSX9_isWeight l_RX9_204 (fun l => c_X9_isWeight G d  l) [] [] [] rfl rfl rfl rfl ⟨rfl, rfl, by decide⟩ rfl rfl (Nat.le_of_ble_eq_true rfl) dX9_areWeights_22 (fun v w hq => ?_)
        obtain ⟨rfl, rfl⟩ := hq
        refine j_ws [] (ws' := []) rfl rfl ?_
        refine j_ifB_eq (pc := 25) (tgt := 32) hX dX9_areWeights_25 (by decide) (fun c25 => ?_) (fun c25 => ?_)
        · skip
          refine j_iconstN (pc := 32) (j := 0) hX dX9_areWeights_32 rfl ?_
          exact j_zret (pc := 33) hX hR (by decide) dX9_areWeights_33 ⟨congrArg some (show Value.int (nI 0) = Value.int (bI (rngB a (-9) 9 && (rngB b (-9) 9 && (rngB c (-9) 9 && rngB d (-9) 9)))) from by first | exact bI_tt (by simp_all; done) | exact bI_ff (by simp_all; done)), rfl⟩
        · skip
          refine j_iconstN (pc := 28) (j := 1) hX dX9_areWeights_28 rfl ?_
          refine j_goto (pc := 29) (tgt := 33) hX dX9_areWeights_29 (by decide) ?_
          exact j_zret (pc := 33) hX hR (by decide) dX9_areWeights_33 ⟨congrArg some (show Value.int (nI 1) = Value.int (bI (rngB a (-9) 9 && (rngB b (-9) 9 && (rngB c (-9) 9 && rngB d (-9) 9)))) from by first | exact bI_tt (by simp_all; done) | exact bI_ff (by simp_all; done)), rfl⟩
set_option maxHeartbeats 4000000 in
set_option maxRecDepth 100000 in
theorem c_X9_sum_bad (G : GT) (md : Nat) (W : Nat) (H : Nat) (t : Int32) (m : Nat) (k : Nat) (zc : Nat) (zr : Nat) (zb : Nat) (z1 : Nat) (z2 : Nat) (z3 : Nat) (z4 : Nat) (z5 : Nat) (zm : Nat) (zmr : Nat) (zmb : Nat) (mt : Int32) (zca : Nat) (zcw : Nat) (c : Nat) (zg : Nat) (zt : Nat) (zs : Nat) (zf : Nat) (zy : Nat) (zso : Nat) (zsf : Nat) (zsm : Nat) (nt : Int32) (nsh : Int32) (ztp : Nat) (zrw : Nat) (zpp : Nat) (tn : Nat) (pn : Nat) (rdw : Int32) (rdh : Int32) (zsz : Nat) (zit : Nat) (zk : Nat) (itk : Bool) (a_ b_ c_ d_ : Int32) (hb : (rngB a_ (-9) 9 && (rngB b_ (-9) 9 && (rngB c_ (-9) 9 && rngB d_ (-9) 9))) = false) (l : Launch) : CT l G yX9_sum cX9_sum 8 (some .int) { frames := 3, cells := 0, slots := 0, locals := 68 } [.ref md, .int a_, .int b_, .int c_, .int d_] [(md, .inr (9, [.int (nI W), .int (nI H), .int t, .int (nI m), .int (nI k), .ref zc, .ref zr, .ref zb, .ref z1, .ref z2, .ref z3, .ref z4, .ref z5, .ref zm, .ref zmr, .ref zmb, .int mt, .ref zca, .ref zcw, .int (nI c), .ref zg, .ref zt, .ref zs, .ref zf, .ref zy, .ref zso, .ref zsf, .ref zsm, .int nt, .int nsh, .ref ztp, .ref zrw, .ref zpp, .int (nI tn), .int (nI pn), .int rdw, .int rdh, .ref zsz, .ref zit, .ref zk, .int (bI itk)]))] (fun vv ww => vv = some (.int (-2)) ∧ ww = [(md, .inr (9, [.int (nI W), .int (nI H), .int t, .int (nI m), .int (nI k), .ref zc, .ref zr, .ref zb, .ref z1, .ref z2, .ref z3, .ref z4, .ref z5, .ref zm, .ref zmr, .ref zmb, .int mt, .ref zca, .ref zcw, .int (nI c), .ref zg, .ref zt, .ref zs, .ref zf, .ref zy, .ref zso, .ref zsf, .ref zsm, .int nt, .int nsh, .ref ztp, .ref zrw, .ref zpp, .int (nI tn), .int (nI pn), .int rdw, .int rdh, .ref zsz, .ref zit, .ref zk, .int (bI itk)]))]) := by
  refine CT.of (lv := [(0, .ref md), (1, .int a_), (2, .int b_), (3, .int c_), (4, .int d_)]) RX9 "sum" rfl rfl (by decide +kernel) (Nat.le_of_ble_eq_true rfl) rfl (fun X hX hR => ?_)
  refine j_iload_n (pc := 0) hX dX9_sum_0 1 rfl ?_
  refine j_iload_n (pc := 1) hX dX9_sum_1 2 rfl ?_
  refine j_iload_n (pc := 2) hX dX9_sum_2 3 rfl ?_
  refine j_iload (pc := 3) hX dX9_sum_3 4 rfl ?_
  refine j_callS (pc := 5) hX kX9_areWeights kSX9_areWeights l_RX9_208 (fun l => c_X9_areWeights G a_ b_ c_ d_  l) [] [0] [] rfl rfl rfl rfl ⟨rfl, rfl, by decide⟩ rfl rfl (Nat.le_of_ble_eq_true rfl) dX9_sum_5 (fun v w hq => ?_)
  obtain ⟨rfl, rfl⟩ := hq
  refine j_ws [0] (ws' := [(md, .inr (9, [.int (nI W), .int (nI H), .int t, .int (nI m), .int (nI k), .ref zc, .ref zr, .ref zb, .ref z1, .ref z2, .ref z3, .ref z4, .ref z5, .ref zm, .ref zmr, .ref zmb, .int mt, .ref zca, .ref zcw, .int (nI c), .ref zg, .ref zt, .ref zs, .ref zf, .ref zy, .ref zso, .ref zsf, .ref zsm, .int nt, .int nsh, .ref ztp, .ref zrw, .ref zpp, .int (nI tn), .int (nI pn), .int rdw, .int rdh, .ref zsz, .ref zit, .ref zk, .int (bI itk)]))]) rfl rfl ?_
  refine j_ifB_ne (pc := 8) (tgt := 14) hX dX9_sum_8 (by decide) (fun c8 => by rw [hb] at c8; cases c8) (fun c8 => ?_)
  refine j_bipush (pc := 11) (v := (-2)) hX dX9_sum_11 (by decide) ?_
  exact j_iret (pc := 13) hX hR dX9_sum_13 ⟨rfl, rfl⟩
set_option maxHeartbeats 4000000 in
set_option maxRecDepth 100000 in
theorem c_X9_sum_ok (G : GT) (md : Nat) (W : Nat) (H : Nat) (t : Int32) (m : Nat) (k : Nat) (zc : Nat) (zr : Nat) (zb : Nat) (z1 : Nat) (z2 : Nat) (z3 : Nat) (z4 : Nat) (z5 : Nat) (zm : Nat) (zmr : Nat) (zmb : Nat) (mt : Int32) (zca : Nat) (zcw : Nat) (c : Nat) (zg : Nat) (zt : Nat) (zs : Nat) (zf : Nat) (zy : Nat) (zso : Nat) (zsf : Nat) (zsm : Nat) (nt : Int32) (nsh : Int32) (ztp : Nat) (zrw : Nat) (zpp : Nat) (tn : Nat) (pn : Nat) (rdw : Int32) (rdh : Int32) (zsz : Nat) (zit : Nat) (zk : Nat) (itk : Bool) (f : Nat → Int32) (a_ b_ c_ d_ : Int32) (hW1 : 2 ≤ W) (hW2 : W ≤ 16) (hH1 : 2 ≤ H) (hH2 : H ≤ 16) (hW3 : W % 2 = 0) (hH3 : H % 2 = 0) (hf : ∀ y, rN (f y) < 2 ^ W) (hb : (rngB a_ (-9) 9 && (rngB b_ (-9) 9 && (rngB c_ (-9) 9 && rngB d_ (-9) 9))) = true) (l : Launch) : CT l G yX9_sum cX9_sum 8 (some .int) { frames := 3, cells := 0, slots := 0, locals := 68 } [.ref md, .int a_, .int b_, .int c_, .int d_] [(md, .inr (9, [.int (nI W), .int (nI H), .int t, .int (nI m), .int (nI k), .ref zc, .ref zr, .ref zb, .ref z1, .ref z2, .ref z3, .ref z4, .ref z5, .ref zm, .ref zmr, .ref zmb, .int mt, .ref zca, .ref zcw, .int (nI c), .ref zg, .ref zt, .ref zs, .ref zf, .ref zy, .ref zso, .ref zsf, .ref zsm, .int nt, .int nsh, .ref ztp, .ref zrw, .ref zpp, .int (nI tn), .int (nI pn), .int rdw, .int rdh, .ref zsz, .ref zit, .ref zk, .int (bI itk)])), (zc, ia G 16 f)] (fun vv ww => vv = some (.int (wsF a_ b_ c_ d_ f H + nI 1000000)) ∧ ww = [(md, .inr (9, [.int (nI W), .int (nI H), .int t, .int (nI m), .int (nI k), .ref zc, .ref zr, .ref zb, .ref z1, .ref z2, .ref z3, .ref z4, .ref z5, .ref zm, .ref zmr, .ref zmb, .int mt, .ref zca, .ref zcw, .int (nI c), .ref zg, .ref zt, .ref zs, .ref zf, .ref zy, .ref zso, .ref zsf, .ref zsm, .int nt, .int nsh, .ref ztp, .ref zrw, .ref zpp, .int (nI tn), .int (nI pn), .int rdw, .int rdh, .ref zsz, .ref zit, .ref zk, .int (bI itk)])), (zc, ia G 16 f)]) := by
  refine CT.of (lv := [(0, .ref md), (1, .int a_), (2, .int b_), (3, .int c_), (4, .int d_)]) RX9 "sum" rfl rfl (by decide +kernel) (Nat.le_of_ble_eq_true rfl) rfl (fun X hX hR => ?_)
  refine j_iload_n (pc := 0) hX dX9_sum_0 1 rfl ?_
  refine j_iload_n (pc := 1) hX dX9_sum_1 2 rfl ?_
  refine j_iload_n (pc := 2) hX dX9_sum_2 3 rfl ?_
  refine j_iload (pc := 3) hX dX9_sum_3 4 rfl ?_
  refine j_callS (pc := 5) hX kX9_areWeights kSX9_areWeights l_RX9_208 (fun l => c_X9_areWeights G a_ b_ c_ d_  l) [] [0, 1] [] rfl rfl rfl rfl ⟨rfl, rfl, by decide⟩ rfl rfl (Nat.le_of_ble_eq_true rfl) dX9_sum_5 (fun v w hq => ?_)
  obtain ⟨rfl, rfl⟩ := hq
  refine j_ws [0, 1] (ws' := [(md, .inr (9, [.int (nI W), .int (nI H), .int t, .int (nI m), .int (nI k), .ref zc, .ref zr, .ref zb, .ref z1, .ref z2, .ref z3, .ref z4, .ref z5, .ref zm, .ref zmr, .ref zmb, .int mt, .ref zca, .ref zcw, .int (nI c), .ref zg, .ref zt, .ref zs, .ref zf, .ref zy, .ref zso, .ref zsf, .ref zsm, .int nt, .int nsh, .ref ztp, .ref zrw, .ref zpp, .int (nI tn), .int (nI pn), .int rdw, .int rdh, .ref zsz, .ref zit, .ref zk, .int (bI itk)])), (zc, ia G 16 f)]) rfl rfl ?_
  refine j_ifB_ne (pc := 8) (tgt := 14) hX dX9_sum_8 (by decide) (fun c8 => ?_) (fun c8 => by rw [hb] at c8; cases c8)
  refine j_ldc (pc := 14) (v := nI 1000000) hX k_RX9_212 dX9_sum_14 ?_
  refine j_istore (pc := 16) (lv' := [(5, .int (nI 1000000)), (0, .ref md), (1, .int a_), (2, .int b_), (3, .int c_), (4, .int d_)]) hX dX9_sum_16 (by decide) rfl ?_
  refine j_iconstN (pc := 18) (j := 0) hX dX9_sum_18 rfl ?_
  refine j_istore (pc := 19) (lv' := [(6, .int (nI 0)), (5, .int (nI 1000000)), (0, .ref md), (1, .int a_), (2, .int b_), (3, .int c_), (4, .int d_)]) hX dX9_sum_19 (by decide) rfl ?_
  have L21 : ∀ (m21 : Nat) (y : Nat) (s : Int32) (hy : y ≤ H) (hs : s = nI 1000000 + wsY W a_ b_ c_ d_ f y), H - y < m21 → J X G 8 0 0 [(md, .inr (9, [.int (nI W), .int (nI H), .int t, .int (nI m), .int (nI k), .ref zc, .ref zr, .ref zb, .ref z1, .ref z2, .ref z3, .ref z4, .ref z5, .ref zm, .ref zmr, .ref zmb, .int mt, .ref zca, .ref zcw, .int (nI c), .ref zg, .ref zt, .ref zs, .ref zf, .ref zy, .ref zso, .ref zsf, .ref zsm, .int nt, .int nsh, .ref ztp, .ref zrw, .ref zpp, .int (nI tn), .int (nI pn), .int rdw, .int rdh, .ref zsz, .ref zit, .ref zk, .int (bI itk)])), (zc, ia G 16 f)] [(0, .ref md), (1, .int a_), (2, .int b_), (3, .int c_), (4, .int d_), (5, .int s), (6, .int (nI y))] 21 [] := by
    intro m21
    induction m21 with
    | zero => intro y s hy hs hm21; exact absurd hm21 (Nat.not_lt_zero _)
    | succ m21 ih21 =>
      intro y s hy hs hm21
      refine j_iload (pc := 21) hX dX9_sum_21 6 rfl ?_
      refine j_aload_n (pc := 23) hX dX9_sum_23 0 rfl ?_
      refine j_get (pc := 24) hX f_RX9_15 0 rfl rfl dX9_sum_24 ?_
      refine j_icmp_ge (pc := 27) (tgt := 110) hX dX9_sum_27 (by decide) (nI_toInt (n := y) (by omega)) (nI_toInt (n := H) (by omega)) (fun c27 => ?_) (fun c27 => ?_)
      · skip
        refine j_iload (pc := 110) hX dX9_sum_110 5 rfl ?_
        exact j_iret (pc := 112) hX hR dX9_sum_112 ⟨congrArg some (show Value.int s = Value.int (wsF a_ b_ c_ d_ f H + nI 1000000) from by rw [hs, show y = H from by omega, wsY_eq hW2 hW3 hf, Int32.add_comm]), rfl⟩
      · skip
        refine j_iconstN (pc := 30) (j := 0) hX dX9_sum_30 rfl ?_
        refine j_istore (pc := 31) (lv' := [(7, .int (nI 0)), (0, .ref md), (1, .int a_), (2, .int b_), (3, .int c_), (4, .int d_), (5, .int s), (6, .int (nI y))]) hX dX9_sum_31 (by decide) rfl ?_
        have L33 : ∀ (m33 : Nat) (x : Nat) (sx : Int32) (hx : x ≤ W) (hsx : sx = s + wsX a_ b_ c_ d_ (f y) y x), W - x < m33 → J X G 8 0 0 [(md, .inr (9, [.int (nI W), .int (nI H), .int t, .int (nI m), .int (nI k), .ref zc, .ref zr, .ref zb, .ref z1, .ref z2, .ref z3, .ref z4, .ref z5, .ref zm, .ref zmr, .ref zmb, .int mt, .ref zca, .ref zcw, .int (nI c), .ref zg, .ref zt, .ref zs, .ref zf, .ref zy, .ref zso, .ref zsf, .ref zsm, .int nt, .int nsh, .ref ztp, .ref zrw, .ref zpp, .int (nI tn), .int (nI pn), .int rdw, .int rdh, .ref zsz, .ref zit, .ref zk, .int (bI itk)])), (zc, ia G 16 f)] [(0, .ref md), (1, .int a_), (2, .int b_), (3, .int c_), (4, .int d_), (5, .int sx), (6, .int (nI y)), (7, .int (nI x))] 33 [] := by
          intro m33
          induction m33 with
          | zero => intro x sx hx hsx hm33; exact absurd hm33 (Nat.not_lt_zero _)
          | succ m33 ih33 =>
            intro x sx hx hsx hm33
            refine j_iload (pc := 33) hX dX9_sum_33 7 rfl ?_
            refine j_aload_n (pc := 35) hX dX9_sum_35 0 rfl ?_
            refine j_get (pc := 36) hX f_RX9_9 0 rfl rfl dX9_sum_36 ?_
            refine j_icmp_ge (pc := 39) (tgt := 104) hX dX9_sum_39 (by decide) (nI_toInt (n := x) (by omega)) (nI_toInt (n := W) (by omega)) (fun c39 => ?_) (fun c39 => ?_)
            · skip
              refine j_iinc (pc := 104) (q := 6) (v := nI (y + 1)) (lv' := [(6, .int (nI (y + 1))), (0, .ref md), (1, .int a_), (2, .int b_), (3, .int c_), (4, .int d_), (5, .int sx), (7, .int (nI x))]) hX dX9_sum_104 rfl (nI_inc _ 1) (by decide) rfl ?_
              refine j_goto (pc := 107) (tgt := 21) hX dX9_sum_107 (by decide) ?_
              refine j_lv [1, 2, 3, 4, 5, 6, 0] (lv' := [(0, .ref md), (1, .int a_), (2, .int b_), (3, .int c_), (4, .int d_), (5, .int sx), (6, .int (nI (y + 1)))]) rfl ?_
              exact ih21 (y + 1) sx (by omega) (by rw [hsx, hs, Int32.add_assoc, show x = W from by omega]; rfl) (by omega)
            · skip
              refine j_aload_n (pc := 42) hX dX9_sum_42 0 rfl ?_
              refine j_get (pc := 43) hX f_RX9_18 0 rfl rfl dX9_sum_43 ?_
              refine j_iload (pc := 46) hX dX9_sum_46 6 rfl ?_
              refine j_ialdN (pc := 48) (j := y) hX 1 rfl (by omega) (by omega) dX9_sum_48 ?_
              refine j_iload (pc := 49) hX dX9_sum_49 7 rfl ?_
              refine j_ishr (pc := 51) hX dX9_sum_51 ?_
              refine j_iconstN (pc := 52) (j := 1) hX dX9_sum_52 rfl ?_
              refine j_iand (pc := 53) hX dX9_sum_53 ?_
              refine j_topi (y := bI (bt (f y) x)) (bt_raw _ (by omega)) ?_
              refine j_iconstN (pc := 54) (j := 1) hX dX9_sum_54 rfl ?_
              refine j_icmp_ne (pc := 55) (tgt := 98) hX dX9_sum_55 (by decide) (bI_toInt (bt (f y) x)) (nI_toInt (n := 1) (by decide)) (fun c55 => ?_) (fun c55 => ?_)
              · skip
                have c55 := bne1 c55
                refine j_iinc (pc := 98) (q := 7) (v := nI (x + 1)) (lv' := [(7, .int (nI (x + 1))), (0, .ref md), (1, .int a_), (2, .int b_), (3, .int c_), (4, .int d_), (5, .int sx), (6, .int (nI y))]) hX dX9_sum_98 rfl (nI_inc _ 1) (by decide) rfl ?_
                refine j_goto (pc := 101) (tgt := 33) hX dX9_sum_101 (by decide) ?_
                refine j_lv [1, 2, 3, 4, 5, 6, 7, 0] (lv' := [(0, .ref md), (1, .int a_), (2, .int b_), (3, .int c_), (4, .int d_), (5, .int sx), (6, .int (nI y)), (7, .int (nI (x + 1)))]) rfl ?_
                exact ih33 (x + 1) sx (by omega) (by first | (rw [hsx]; congr 1; show _ = wsX a_ b_ c_ d_ (f y) y x + (if bt (f y) x = true then _ else _); rw [c55, if_neg Bool.false_ne_true]; exact (Int32.add_zero _).symm) | (rw [hsx, Int32.add_assoc]; congr 1; show _ = wsX a_ b_ c_ d_ (f y) y x + _; first | (rw [c55, if_pos rfl, if_pos (by omega), if_pos (by omega)]; done) | (rw [c55, if_pos rfl, if_pos (by omega), if_neg (by omega)]; done) | (rw [c55, if_pos rfl, if_neg (by omega), if_pos (by omega)]; done) | (rw [c55, if_pos rfl, if_neg (by omega), if_neg (by omega)]; done))) (by omega)
              · skip
                have c55 := beq1 c55
                refine j_iload (pc := 58) hX dX9_sum_58 5 rfl ?_
                refine j_iload (pc := 60) hX dX9_sum_60 6 rfl ?_
                refine j_iconstN (pc := 62) (j := 2) hX dX9_sum_62 rfl ?_
                refine j_irem (pc := 63) hX dX9_sum_63 (by decide) ?_
                refine j_topi (y := nI (y % 2)) (pk_rem (by omega) (by omega) (by omega)) ?_
                refine j_if_ne (pc := 64) (tgt := 82) hX dX9_sum_64 (by decide) (nI_toInt (n := y % 2) (by omega)) (fun c64 => ?_) (fun c64 => ?_)
                · skip
                  refine j_iload (pc := 82) hX dX9_sum_82 7 rfl ?_
                  refine j_iconstN (pc := 84) (j := 2) hX dX9_sum_84 rfl ?_
                  refine j_irem (pc := 85) hX dX9_sum_85 (by decide) ?_
                  refine j_topi (y := nI (x % 2)) (pk_rem (by omega) (by omega) (by omega)) ?_
                  refine j_if_ne (pc := 86) (tgt := 93) hX dX9_sum_86 (by decide) (nI_toInt (n := x % 2) (by omega)) (fun c86 => ?_) (fun c86 => ?_)
                  · skip
                    refine j_iload (pc := 93) hX dX9_sum_93 4 rfl ?_
                    refine j_iadd (pc := 95) hX dX9_sum_95 ?_
                    refine j_istore (pc := 96) (lv' := [(5, .int (sx + d_)), (0, .ref md), (1, .int a_), (2, .int b_), (3, .int c_), (4, .int d_), (6, .int (nI y)), (7, .int (nI x))]) hX dX9_sum_96 (by decide) rfl ?_
                    refine j_iinc (pc := 98) (q := 7) (v := nI (x + 1)) (lv' := [(7, .int (nI (x + 1))), (5, .int (sx + d_)), (0, .ref md), (1, .int a_), (2, .int b_), (3, .int c_), (4, .int d_), (6, .int (nI y))]) hX dX9_sum_98 rfl (nI_inc _ 1) (by decide) rfl ?_
                    refine j_goto (pc := 101) (tgt := 33) hX dX9_sum_101 (by decide) ?_
                    refine j_lv [2, 3, 4, 5, 6, 1, 7, 0] (lv' := [(0, .ref md), (1, .int a_), (2, .int b_), (3, .int c_), (4, .int d_), (5, .int (sx + d_)), (6, .int (nI y)), (7, .int (nI (x + 1)))]) rfl ?_
                    exact ih33 (x + 1) (sx + d_) (by omega) (by first | (rw [hsx]; congr 1; show _ = wsX a_ b_ c_ d_ (f y) y x + (if bt (f y) x = true then _ else _); rw [c55, if_neg Bool.false_ne_true]; exact (Int32.add_zero _).symm) | (rw [hsx, Int32.add_assoc]; congr 1; show _ = wsX a_ b_ c_ d_ (f y) y x + _; first | (rw [c55, if_pos rfl, if_pos (by omega), if_pos (by omega)]; done) | (rw [c55, if_pos rfl, if_pos (by omega), if_neg (by omega)]; done) | (rw [c55, if_pos rfl, if_neg (by omega), if_pos (by omega)]; done) | (rw [c55, if_pos rfl, if_neg (by omega), if_neg (by omega)]; done))) (by omega)
                  · skip
                    refine j_iload_n (pc := 89) hX dX9_sum_89 3 rfl ?_
                    refine j_goto (pc := 90) (tgt := 95) hX dX9_sum_90 (by decide) ?_
                    refine j_iadd (pc := 95) hX dX9_sum_95 ?_
                    refine j_istore (pc := 96) (lv' := [(5, .int (sx + c_)), (0, .ref md), (1, .int a_), (2, .int b_), (3, .int c_), (4, .int d_), (6, .int (nI y)), (7, .int (nI x))]) hX dX9_sum_96 (by decide) rfl ?_
                    refine j_iinc (pc := 98) (q := 7) (v := nI (x + 1)) (lv' := [(7, .int (nI (x + 1))), (5, .int (sx + c_)), (0, .ref md), (1, .int a_), (2, .int b_), (3, .int c_), (4, .int d_), (6, .int (nI y))]) hX dX9_sum_98 rfl (nI_inc _ 1) (by decide) rfl ?_
                    refine j_goto (pc := 101) (tgt := 33) hX dX9_sum_101 (by decide) ?_
                    refine j_lv [2, 3, 4, 5, 6, 1, 7, 0] (lv' := [(0, .ref md), (1, .int a_), (2, .int b_), (3, .int c_), (4, .int d_), (5, .int (sx + c_)), (6, .int (nI y)), (7, .int (nI (x + 1)))]) rfl ?_
                    exact ih33 (x + 1) (sx + c_) (by omega) (by first | (rw [hsx]; congr 1; show _ = wsX a_ b_ c_ d_ (f y) y x + (if bt (f y) x = true then _ else _); rw [c55, if_neg Bool.false_ne_true]; exact (Int32.add_zero _).symm) | (rw [hsx, Int32.add_assoc]; congr 1; show _ = wsX a_ b_ c_ d_ (f y) y x + _; first | (rw [c55, if_pos rfl, if_pos (by omega), if_pos (by omega)]; done) | (rw [c55, if_pos rfl, if_pos (by omega), if_neg (by omega)]; done) | (rw [c55, if_pos rfl, if_neg (by omega), if_pos (by omega)]; done) | (rw [c55, if_pos rfl, if_neg (by omega), if_neg (by omega)]; done))) (by omega)
                · skip
                  refine j_iload (pc := 67) hX dX9_sum_67 7 rfl ?_
                  refine j_iconstN (pc := 69) (j := 2) hX dX9_sum_69 rfl ?_
                  refine j_irem (pc := 70) hX dX9_sum_70 (by decide) ?_
                  refine j_topi (y := nI (x % 2)) (pk_rem (by omega) (by omega) (by omega)) ?_
                  refine j_if_ne (pc := 71) (tgt := 78) hX dX9_sum_71 (by decide) (nI_toInt (n := x % 2) (by omega)) (fun c71 => ?_) (fun c71 => ?_)
                  · skip
                    refine j_iload_n (pc := 78) hX dX9_sum_78 2 rfl ?_
                    refine j_goto (pc := 79) (tgt := 95) hX dX9_sum_79 (by decide) ?_
                    refine j_iadd (pc := 95) hX dX9_sum_95 ?_
                    refine j_istore (pc := 96) (lv' := [(5, .int (sx + b_)), (0, .ref md), (1, .int a_), (2, .int b_), (3, .int c_), (4, .int d_), (6, .int (nI y)), (7, .int (nI x))]) hX dX9_sum_96 (by decide) rfl ?_
                    refine j_iinc (pc := 98) (q := 7) (v := nI (x + 1)) (lv' := [(7, .int (nI (x + 1))), (5, .int (sx + b_)), (0, .ref md), (1, .int a_), (2, .int b_), (3, .int c_), (4, .int d_), (6, .int (nI y))]) hX dX9_sum_98 rfl (nI_inc _ 1) (by decide) rfl ?_
                    refine j_goto (pc := 101) (tgt := 33) hX dX9_sum_101 (by decide) ?_
                    refine j_lv [2, 3, 4, 5, 6, 1, 7, 0] (lv' := [(0, .ref md), (1, .int a_), (2, .int b_), (3, .int c_), (4, .int d_), (5, .int (sx + b_)), (6, .int (nI y)), (7, .int (nI (x + 1)))]) rfl ?_
                    exact ih33 (x + 1) (sx + b_) (by omega) (by first | (rw [hsx]; congr 1; show _ = wsX a_ b_ c_ d_ (f y) y x + (if bt (f y) x = true then _ else _); rw [c55, if_neg Bool.false_ne_true]; exact (Int32.add_zero _).symm) | (rw [hsx, Int32.add_assoc]; congr 1; show _ = wsX a_ b_ c_ d_ (f y) y x + _; first | (rw [c55, if_pos rfl, if_pos (by omega), if_pos (by omega)]; done) | (rw [c55, if_pos rfl, if_pos (by omega), if_neg (by omega)]; done) | (rw [c55, if_pos rfl, if_neg (by omega), if_pos (by omega)]; done) | (rw [c55, if_pos rfl, if_neg (by omega), if_neg (by omega)]; done))) (by omega)
                  · skip
                    refine j_iload_n (pc := 74) hX dX9_sum_74 1 rfl ?_
                    refine j_goto (pc := 75) (tgt := 95) hX dX9_sum_75 (by decide) ?_
                    refine j_iadd (pc := 95) hX dX9_sum_95 ?_
                    refine j_istore (pc := 96) (lv' := [(5, .int (sx + a_)), (0, .ref md), (1, .int a_), (2, .int b_), (3, .int c_), (4, .int d_), (6, .int (nI y)), (7, .int (nI x))]) hX dX9_sum_96 (by decide) rfl ?_
                    refine j_iinc (pc := 98) (q := 7) (v := nI (x + 1)) (lv' := [(7, .int (nI (x + 1))), (5, .int (sx + a_)), (0, .ref md), (1, .int a_), (2, .int b_), (3, .int c_), (4, .int d_), (6, .int (nI y))]) hX dX9_sum_98 rfl (nI_inc _ 1) (by decide) rfl ?_
                    refine j_goto (pc := 101) (tgt := 33) hX dX9_sum_101 (by decide) ?_
                    refine j_lv [2, 3, 4, 5, 6, 1, 7, 0] (lv' := [(0, .ref md), (1, .int a_), (2, .int b_), (3, .int c_), (4, .int d_), (5, .int (sx + a_)), (6, .int (nI y)), (7, .int (nI (x + 1)))]) rfl ?_
                    exact ih33 (x + 1) (sx + a_) (by omega) (by first | (rw [hsx]; congr 1; show _ = wsX a_ b_ c_ d_ (f y) y x + (if bt (f y) x = true then _ else _); rw [c55, if_neg Bool.false_ne_true]; exact (Int32.add_zero _).symm) | (rw [hsx, Int32.add_assoc]; congr 1; show _ = wsX a_ b_ c_ d_ (f y) y x + _; first | (rw [c55, if_pos rfl, if_pos (by omega), if_pos (by omega)]; done) | (rw [c55, if_pos rfl, if_pos (by omega), if_neg (by omega)]; done) | (rw [c55, if_pos rfl, if_neg (by omega), if_pos (by omega)]; done) | (rw [c55, if_pos rfl, if_neg (by omega), if_neg (by omega)]; done))) (by omega)
        refine j_lv [1, 2, 3, 4, 5, 6, 7, 0] (lv' := [(0, .ref md), (1, .int a_), (2, .int b_), (3, .int c_), (4, .int d_), (5, .int s), (6, .int (nI y)), (7, .int (nI 0))]) rfl ?_
        exact L33 ((W - 0) + 1) 0 s (by omega) ((Int32.add_zero _).symm) (Nat.lt_succ_self _)
  refine j_lv [2, 3, 4, 5, 6, 1, 0] (lv' := [(0, .ref md), (1, .int a_), (2, .int b_), (3, .int c_), (4, .int d_), (5, .int (nI 1000000)), (6, .int (nI 0))]) rfl ?_
  exact L21 ((H - 0) + 1) 0 (nI 1000000) (by omega) ((Int32.add_zero _).symm) (Nat.lt_succ_self _)
set_option maxHeartbeats 4000000 in
set_option maxRecDepth 100000 in
theorem c_X9_stateSum (G : GT) (s : Nat) (a b c d : Int32) (hs : s < 16) (l : Launch) : CT l G yX9_stateSum cX9_stateSum 5 (some .int) { frames := 0, cells := 0, slots := 0, locals := 0 } [.int (nI s), .int a, .int b, .int c, .int d] [] (fun vv ww => vv = some (.int (wgt s a b c d)) ∧ ww = []) := by
  refine CT.of (lv := [(0, .int (nI s)), (1, .int a), (2, .int b), (3, .int c), (4, .int d)]) RX9 "stateSum" rfl rfl (by decide +kernel) (Nat.le_of_ble_eq_true rfl) rfl (fun X hX hR => ?_)
  refine j_iload_n (pc := 0) hX dX9_stateSum_0 0 rfl ?_
  refine j_iconstN (pc := 1) (j := 1) hX dX9_stateSum_1 rfl ?_
  refine j_iand (pc := 2) hX dX9_stateSum_2 ?_
  refine j_topi (y := nI (s % 2)) (pk_andN (by omega) 1 (by decide)) ?_
  refine j_iload_n (pc := 3) hX dX9_stateSum_3 1 rfl ?_
  refine j_imul (pc := 4) hX dX9_stateSum_4 ?_
  refine j_iload_n (pc := 5) hX dX9_stateSum_5 0 rfl ?_
  refine j_iconstN (pc := 6) (j := 1) hX dX9_stateSum_6 rfl ?_
  refine j_ishr (pc := 7) hX dX9_stateSum_7 ?_
  refine j_topi (y := nI (s / 2)) (pk_shrN (by omega) _ 1 (by decide)) ?_
  refine j_iconstN (pc := 8) (j := 1) hX dX9_stateSum_8 rfl ?_
  refine j_iand (pc := 9) hX dX9_stateSum_9 ?_
  refine j_topi (y := nI ((s / 2) % 2)) (pk_andN (by omega) 1 (by decide)) ?_
  refine j_iload_n (pc := 10) hX dX9_stateSum_10 2 rfl ?_
  refine j_imul (pc := 11) hX dX9_stateSum_11 ?_
  refine j_iadd (pc := 12) hX dX9_stateSum_12 ?_
  refine j_iload_n (pc := 13) hX dX9_stateSum_13 0 rfl ?_
  refine j_iconstN (pc := 14) (j := 2) hX dX9_stateSum_14 rfl ?_
  refine j_ishr (pc := 15) hX dX9_stateSum_15 ?_
  refine j_topi (y := nI (s / 4)) (pk_shrN (by omega) _ 2 (by decide)) ?_
  refine j_iconstN (pc := 16) (j := 1) hX dX9_stateSum_16 rfl ?_
  refine j_iand (pc := 17) hX dX9_stateSum_17 ?_
  refine j_topi (y := nI ((s / 4) % 2)) (pk_andN (by omega) 1 (by decide)) ?_
  refine j_iload_n (pc := 18) hX dX9_stateSum_18 3 rfl ?_
  refine j_imul (pc := 19) hX dX9_stateSum_19 ?_
  refine j_iadd (pc := 20) hX dX9_stateSum_20 ?_
  refine j_iload_n (pc := 21) hX dX9_stateSum_21 0 rfl ?_
  refine j_iconstN (pc := 22) (j := 3) hX dX9_stateSum_22 rfl ?_
  refine j_ishr (pc := 23) hX dX9_stateSum_23 ?_
  refine j_topi (y := nI (s / 8)) (pk_shrN (by omega) _ 3 (by decide)) ?_
  refine j_iconstN (pc := 24) (j := 1) hX dX9_stateSum_24 rfl ?_
  refine j_iand (pc := 25) hX dX9_stateSum_25 ?_
  refine j_topi (y := nI ((s / 8) % 2)) (pk_andN (by omega) 1 (by decide)) ?_
  refine j_iload (pc := 26) hX dX9_stateSum_26 4 rfl ?_
  refine j_imul (pc := 28) hX dX9_stateSum_28 ?_
  refine j_iadd (pc := 29) hX dX9_stateSum_29 ?_
  exact j_iret (pc := 30) hX hR dX9_stateSum_30 ⟨congrArg some (show Value.int (((((nI (s % 2)) * a) + ((nI ((s / 2) % 2)) * b)) + ((nI ((s / 4) % 2)) * c)) + ((nI ((s / 8) % 2)) * d)) = Value.int (wgt s a b c d) from by rfl), rfl⟩
set_option maxHeartbeats 4000000 in
set_option maxRecDepth 100000 in
theorem c_X9_kept_bad (G : GT) (md : Nat) (W : Nat) (H : Nat) (t : Int32) (m : Nat) (k : Nat) (zc : Nat) (zr : Nat) (zb : Nat) (z1 : Nat) (z2 : Nat) (z3 : Nat) (z4 : Nat) (z5 : Nat) (zm : Nat) (zmr : Nat) (zmb : Nat) (mt : Int32) (zca : Nat) (zcw : Nat) (c : Nat) (zg : Nat) (zt : Nat) (zs : Nat) (zf : Nat) (zy : Nat) (zso : Nat) (zsf : Nat) (zsm : Nat) (nt : Int32) (nsh : Int32) (ztp : Nat) (zrw : Nat) (zpp : Nat) (tn : Nat) (pn : Nat) (rdw : Int32) (rdh : Int32) (zsz : Nat) (zit : Nat) (zk : Nat) (itk : Bool) (a_ b_ c_ d_ : Int32) (hb : (rngB a_ (-9) 9 && (rngB b_ (-9) 9 && (rngB c_ (-9) 9 && rngB d_ (-9) 9))) = false) (l : Launch) : CT l G yX9_kept cX9_kept 6 (some .int) { frames := 3, cells := 0, slots := 0, locals := 68 } [.ref md, .int a_, .int b_, .int c_, .int d_] [(md, .inr (9, [.int (nI W), .int (nI H), .int t, .int (nI m), .int (nI k), .ref zc, .ref zr, .ref zb, .ref z1, .ref z2, .ref z3, .ref z4, .ref z5, .ref zm, .ref zmr, .ref zmb, .int mt, .ref zca, .ref zcw, .int (nI c), .ref zg, .ref zt, .ref zs, .ref zf, .ref zy, .ref zso, .ref zsf, .ref zsm, .int nt, .int nsh, .ref ztp, .ref zrw, .ref zpp, .int (nI tn), .int (nI pn), .int rdw, .int rdh, .ref zsz, .ref zit, .ref zk, .int (bI itk)]))] (fun vv ww => vv = some (.int (-2)) ∧ ww = [(md, .inr (9, [.int (nI W), .int (nI H), .int t, .int (nI m), .int (nI k), .ref zc, .ref zr, .ref zb, .ref z1, .ref z2, .ref z3, .ref z4, .ref z5, .ref zm, .ref zmr, .ref zmb, .int mt, .ref zca, .ref zcw, .int (nI c), .ref zg, .ref zt, .ref zs, .ref zf, .ref zy, .ref zso, .ref zsf, .ref zsm, .int nt, .int nsh, .ref ztp, .ref zrw, .ref zpp, .int (nI tn), .int (nI pn), .int rdw, .int rdh, .ref zsz, .ref zit, .ref zk, .int (bI itk)]))]) := by
  refine CT.of (lv := [(0, .ref md), (1, .int a_), (2, .int b_), (3, .int c_), (4, .int d_)]) RX9 "kept" rfl rfl (by decide +kernel) (Nat.le_of_ble_eq_true rfl) rfl (fun X hX hR => ?_)
  refine j_iload_n (pc := 0) hX dX9_kept_0 1 rfl ?_
  refine j_iload_n (pc := 1) hX dX9_kept_1 2 rfl ?_
  refine j_iload_n (pc := 2) hX dX9_kept_2 3 rfl ?_
  refine j_iload (pc := 3) hX dX9_kept_3 4 rfl ?_
  refine j_callS (pc := 5) hX kX9_areWeights kSX9_areWeights l_RX9_208 (fun l => c_X9_areWeights G a_ b_ c_ d_  l) [] [0] [] rfl rfl rfl rfl ⟨rfl, rfl, by decide⟩ rfl rfl (Nat.le_of_ble_eq_true rfl) dX9_kept_5 (fun v w hq => ?_)
  obtain ⟨rfl, rfl⟩ := hq
  refine j_ws [0] (ws' := [(md, .inr (9, [.int (nI W), .int (nI H), .int t, .int (nI m), .int (nI k), .ref zc, .ref zr, .ref zb, .ref z1, .ref z2, .ref z3, .ref z4, .ref z5, .ref zm, .ref zmr, .ref zmb, .int mt, .ref zca, .ref zcw, .int (nI c), .ref zg, .ref zt, .ref zs, .ref zf, .ref zy, .ref zso, .ref zsf, .ref zsm, .int nt, .int nsh, .ref ztp, .ref zrw, .ref zpp, .int (nI tn), .int (nI pn), .int rdw, .int rdh, .ref zsz, .ref zit, .ref zk, .int (bI itk)]))]) rfl rfl ?_
  refine j_ifB_ne (pc := 8) (tgt := 14) hX dX9_kept_8 (by decide) (fun c8 => by rw [hb] at c8; cases c8) (fun c8 => ?_)
  refine j_bipush (pc := 11) (v := (-2)) hX dX9_kept_11 (by decide) ?_
  exact j_iret (pc := 13) hX hR dX9_kept_13 ⟨rfl, rfl⟩
set_option maxHeartbeats 4000000 in
set_option maxRecDepth 100000 in
theorem c_X9_kept_ok (G : GT) (md : Nat) (W : Nat) (H : Nat) (t : Int32) (m : Nat) (k : Nat) (zc : Nat) (zr : Nat) (zb : Nat) (z1 : Nat) (z2 : Nat) (z3 : Nat) (z4 : Nat) (z5 : Nat) (zm : Nat) (zmr : Nat) (zmb : Nat) (mt : Int32) (zca : Nat) (zcw : Nat) (c : Nat) (zg : Nat) (zt : Nat) (zs : Nat) (zf : Nat) (zy : Nat) (zso : Nat) (zsf : Nat) (zsm : Nat) (nt : Int32) (nsh : Int32) (ztp : Nat) (zrw : Nat) (zpp : Nat) (tn : Nat) (pn : Nat) (rdw : Int32) (rdh : Int32) (zsz : Nat) (zit : Nat) (zk : Nat) (itk : Bool) (p : Nat → Nat) (a_ b_ c_ d_ : Int32) (hb : (rngB a_ (-9) 9 && (rngB b_ (-9) 9 && (rngB c_ (-9) 9 && rngB d_ (-9) 9))) = true) (hp : ∀ s, s < 16 → p s < 16) (l : Launch) : CT l G yX9_kept cX9_kept 6 (some .int) { frames := 3, cells := 0, slots := 0, locals := 68 } [.ref md, .int a_, .int b_, .int c_, .int d_] [(md, .inr (9, [.int (nI W), .int (nI H), .int t, .int (nI m), .int (nI k), .ref zc, .ref zr, .ref zb, .ref z1, .ref z2, .ref z3, .ref z4, .ref z5, .ref zm, .ref zmr, .ref zmb, .int mt, .ref zca, .ref zcw, .int (nI c), .ref zg, .ref zt, .ref zs, .ref zf, .ref zy, .ref zso, .ref zsf, .ref zsm, .int nt, .int nsh, .ref ztp, .ref zrw, .ref zpp, .int (nI tn), .int (nI pn), .int rdw, .int rdh, .ref zsz, .ref zit, .ref zk, .int (bI itk)])), (zr, ia G 16 (fun ι => nI (p ι)))] (fun vv ww => vv = some (.int (bI (keptB a_ b_ c_ d_ p))) ∧ ww = [(md, .inr (9, [.int (nI W), .int (nI H), .int t, .int (nI m), .int (nI k), .ref zc, .ref zr, .ref zb, .ref z1, .ref z2, .ref z3, .ref z4, .ref z5, .ref zm, .ref zmr, .ref zmb, .int mt, .ref zca, .ref zcw, .int (nI c), .ref zg, .ref zt, .ref zs, .ref zf, .ref zy, .ref zso, .ref zsf, .ref zsm, .int nt, .int nsh, .ref ztp, .ref zrw, .ref zpp, .int (nI tn), .int (nI pn), .int rdw, .int rdh, .ref zsz, .ref zit, .ref zk, .int (bI itk)])), (zr, ia G 16 (fun ι => nI (p ι)))]) := by
  refine CT.of (lv := [(0, .ref md), (1, .int a_), (2, .int b_), (3, .int c_), (4, .int d_)]) RX9 "kept" rfl rfl (by decide +kernel) (Nat.le_of_ble_eq_true rfl) rfl (fun X hX hR => ?_)
  refine j_iload_n (pc := 0) hX dX9_kept_0 1 rfl ?_
  refine j_iload_n (pc := 1) hX dX9_kept_1 2 rfl ?_
  refine j_iload_n (pc := 2) hX dX9_kept_2 3 rfl ?_
  refine j_iload (pc := 3) hX dX9_kept_3 4 rfl ?_
  refine j_callS (pc := 5) hX kX9_areWeights kSX9_areWeights l_RX9_208 (fun l => c_X9_areWeights G a_ b_ c_ d_  l) [] [0, 1] [] rfl rfl rfl rfl ⟨rfl, rfl, by decide⟩ rfl rfl (Nat.le_of_ble_eq_true rfl) dX9_kept_5 (fun v w hq => ?_)
  obtain ⟨rfl, rfl⟩ := hq
  refine j_ws [0, 1] (ws' := [(md, .inr (9, [.int (nI W), .int (nI H), .int t, .int (nI m), .int (nI k), .ref zc, .ref zr, .ref zb, .ref z1, .ref z2, .ref z3, .ref z4, .ref z5, .ref zm, .ref zmr, .ref zmb, .int mt, .ref zca, .ref zcw, .int (nI c), .ref zg, .ref zt, .ref zs, .ref zf, .ref zy, .ref zso, .ref zsf, .ref zsm, .int nt, .int nsh, .ref ztp, .ref zrw, .ref zpp, .int (nI tn), .int (nI pn), .int rdw, .int rdh, .ref zsz, .ref zit, .ref zk, .int (bI itk)])), (zr, ia G 16 (fun ι => nI (p ι)))]) rfl rfl ?_
  refine j_ifB_ne (pc := 8) (tgt := 14) hX dX9_kept_8 (by decide) (fun c8 => ?_) (fun c8 => by rw [hb] at c8; cases c8)
  refine j_iconstN (pc := 14) (j := 0) hX dX9_kept_14 rfl ?_
  refine j_istore (pc := 15) (lv' := [(5, .int (nI 0)), (0, .ref md), (1, .int a_), (2, .int b_), (3, .int c_), (4, .int d_)]) hX dX9_kept_15 (by decide) rfl ?_
  have L17 : ∀ (m17 : Nat) (j : Nat) (hj : j ≤ 16) (hall : ∀ z, z < j → wgt z a_ b_ c_ d_ = wgt (p z) a_ b_ c_ d_ ∧ wgt z d_ c_ b_ a_ = wgt (p z) d_ c_ b_ a_), 16 - j < m17 → J X G 6 0 0 [(md, .inr (9, [.int (nI W), .int (nI H), .int t, .int (nI m), .int (nI k), .ref zc, .ref zr, .ref zb, .ref z1, .ref z2, .ref z3, .ref z4, .ref z5, .ref zm, .ref zmr, .ref zmb, .int mt, .ref zca, .ref zcw, .int (nI c), .ref zg, .ref zt, .ref zs, .ref zf, .ref zy, .ref zso, .ref zsf, .ref zsm, .int nt, .int nsh, .ref ztp, .ref zrw, .ref zpp, .int (nI tn), .int (nI pn), .int rdw, .int rdh, .ref zsz, .ref zit, .ref zk, .int (bI itk)])), (zr, ia G 16 (fun ι => nI (p ι)))] [(0, .ref md), (1, .int a_), (2, .int b_), (3, .int c_), (4, .int d_), (5, .int (nI j))] 17 [] := by
    intro m17
    induction m17 with
    | zero => intro j hj hall hm17; exact absurd hm17 (Nat.not_lt_zero _)
    | succ m17 ih17 =>
      intro j hj hall hm17
      refine j_iload (pc := 17) hX dX9_kept_17 5 rfl ?_
      refine j_bipush (pc := 19) (v := nI 16) hX dX9_kept_19 (by decide) ?_
      refine j_icmp_ge (pc := 21) (tgt := 88) hX dX9_kept_21 (by decide) (nI_toInt (n := j) (by omega)) (nI_toInt (n := 16) (by decide)) (fun c21 => ?_) (fun c21 => ?_)
      · skip
        refine j_iconstN (pc := 88) (j := 1) hX dX9_kept_88 rfl ?_
        exact j_iret (pc := 89) hX hR dX9_kept_89 ⟨congrArg some (show Value.int (nI 1) = Value.int (bI (keptB a_ b_ c_ d_ p)) from bI_tt (allB_t (fun z hz => decide_eq_true (hall z (by omega))))), rfl⟩
      · skip
        have b1 := hp j (by omega)
        refine j_iload (pc := 24) hX dX9_kept_24 5 rfl ?_
        refine j_iload_n (pc := 26) hX dX9_kept_26 1 rfl ?_
        refine j_iload_n (pc := 27) hX dX9_kept_27 2 rfl ?_
        refine j_iload_n (pc := 28) hX dX9_kept_28 3 rfl ?_
        refine j_iload (pc := 29) hX dX9_kept_29 4 rfl ?_
        refine j_callS (pc := 31) hX kX9_stateSum kSX9_stateSum l_RX9_213 (fun l => c_X9_stateSum G j a_ b_ c_ d_ (by omega) l) [] [0, 1] [] rfl rfl rfl rfl ⟨rfl, rfl, by decide⟩ rfl rfl (Nat.le_of_ble_eq_true rfl) dX9_kept_31 (fun v w hq => ?_)
        obtain ⟨rfl, rfl⟩ := hq
        refine j_ws [0, 1] (ws' := [(md, .inr (9, [.int (nI W), .int (nI H), .int t, .int (nI m), .int (nI k), .ref zc, .ref zr, .ref zb, .ref z1, .ref z2, .ref z3, .ref z4, .ref z5, .ref zm, .ref zmr, .ref zmb, .int mt, .ref zca, .ref zcw, .int (nI c), .ref zg, .ref zt, .ref zs, .ref zf, .ref zy, .ref zso, .ref zsf, .ref zsm, .int nt, .int nsh, .ref ztp, .ref zrw, .ref zpp, .int (nI tn), .int (nI pn), .int rdw, .int rdh, .ref zsz, .ref zit, .ref zk, .int (bI itk)])), (zr, ia G 16 (fun ι => nI (p ι)))]) rfl rfl ?_
        refine j_aload_n (pc := 34) hX dX9_kept_34 0 rfl ?_
        refine j_get (pc := 35) hX f_RX9_22 0 rfl rfl dX9_kept_35 ?_
        refine j_iload (pc := 38) hX dX9_kept_38 5 rfl ?_
        refine j_ialdN (pc := 40) (j := j) hX 1 rfl (by omega) (by omega) dX9_kept_40 ?_
        refine j_iload_n (pc := 41) hX dX9_kept_41 1 rfl ?_
        refine j_iload_n (pc := 42) hX dX9_kept_42 2 rfl ?_
        refine j_iload_n (pc := 43) hX dX9_kept_43 3 rfl ?_
        refine j_iload (pc := 44) hX dX9_kept_44 4 rfl ?_
        refine j_callS (pc := 46) hX kX9_stateSum kSX9_stateSum l_RX9_213 (fun l => c_X9_stateSum G (p j) a_ b_ c_ d_ (by omega) l) [] [0, 1] [.int (wgt j a_ b_ c_ d_)] rfl rfl rfl rfl ⟨rfl, rfl, by decide⟩ rfl rfl (Nat.le_of_ble_eq_true rfl) dX9_kept_46 (fun v w hq => ?_)
        obtain ⟨rfl, rfl⟩ := hq
        refine j_ws [0, 1] (ws' := [(md, .inr (9, [.int (nI W), .int (nI H), .int t, .int (nI m), .int (nI k), .ref zc, .ref zr, .ref zb, .ref z1, .ref z2, .ref z3, .ref z4, .ref z5, .ref zm, .ref zmr, .ref zmb, .int mt, .ref zca, .ref zcw, .int (nI c), .ref zg, .ref zt, .ref zs, .ref zf, .ref zy, .ref zso, .ref zsf, .ref zsm, .int nt, .int nsh, .ref ztp, .ref zrw, .ref zpp, .int (nI tn), .int (nI pn), .int rdw, .int rdh, .ref zsz, .ref zit, .ref zk, .int (bI itk)])), (zr, ia G 16 (fun ι => nI (p ι)))]) rfl rfl ?_
        refine j_icmp_ne (pc := 49) (tgt := 80) hX dX9_kept_49 (by decide) rfl rfl (fun c49 => ?_) (fun c49 => ?_)
        · skip
          refine j_iconstN (pc := 80) (j := 0) hX dX9_kept_80 rfl ?_
          exact j_iret (pc := 81) hX hR dX9_kept_81 ⟨congrArg some (show Value.int (nI 0) = Value.int (bI (keptB a_ b_ c_ d_ p)) from by first | exact bI_ff (allB_f (z := j) (by omega) (decide_eq_false (fun h => c49 (by rw [h.1])))) | exact bI_ff (allB_f (z := j) (by omega) (decide_eq_false (fun h => c77 (by rw [h.2]))))), rfl⟩
        · skip
          refine j_iload (pc := 52) hX dX9_kept_52 5 rfl ?_
          refine j_iload (pc := 54) hX dX9_kept_54 4 rfl ?_
          refine j_iload_n (pc := 56) hX dX9_kept_56 3 rfl ?_
          refine j_iload_n (pc := 57) hX dX9_kept_57 2 rfl ?_
          refine j_iload_n (pc := 58) hX dX9_kept_58 1 rfl ?_
          refine j_callS (pc := 59) hX kX9_stateSum kSX9_stateSum l_RX9_213 (fun l => c_X9_stateSum G j d_ c_ b_ a_ (by omega) l) [] [0, 1] [] rfl rfl rfl rfl ⟨rfl, rfl, by decide⟩ rfl rfl (Nat.le_of_ble_eq_true rfl) dX9_kept_59 (fun v w hq => ?_)
          obtain ⟨rfl, rfl⟩ := hq
          refine j_ws [0, 1] (ws' := [(md, .inr (9, [.int (nI W), .int (nI H), .int t, .int (nI m), .int (nI k), .ref zc, .ref zr, .ref zb, .ref z1, .ref z2, .ref z3, .ref z4, .ref z5, .ref zm, .ref zmr, .ref zmb, .int mt, .ref zca, .ref zcw, .int (nI c), .ref zg, .ref zt, .ref zs, .ref zf, .ref zy, .ref zso, .ref zsf, .ref zsm, .int nt, .int nsh, .ref ztp, .ref zrw, .ref zpp, .int (nI tn), .int (nI pn), .int rdw, .int rdh, .ref zsz, .ref zit, .ref zk, .int (bI itk)])), (zr, ia G 16 (fun ι => nI (p ι)))]) rfl rfl ?_
          refine j_aload_n (pc := 62) hX dX9_kept_62 0 rfl ?_
          refine j_get (pc := 63) hX f_RX9_22 0 rfl rfl dX9_kept_63 ?_
          refine j_iload (pc := 66) hX dX9_kept_66 5 rfl ?_
          refine j_ialdN (pc := 68) (j := j) hX 1 rfl (by omega) (by omega) dX9_kept_68 ?_
          refine j_iload (pc := 69) hX dX9_kept_69 4 rfl ?_
          refine j_iload_n (pc := 71) hX dX9_kept_71 3 rfl ?_
          refine j_iload_n (pc := 72) hX dX9_kept_72 2 rfl ?_
          refine j_iload_n (pc := 73) hX dX9_kept_73 1 rfl ?_
          refine j_callS (pc := 74) hX kX9_stateSum kSX9_stateSum l_RX9_213 (fun l => c_X9_stateSum G (p j) d_ c_ b_ a_ (by omega) l) [] [0, 1] [.int (wgt j d_ c_ b_ a_)] rfl rfl rfl rfl ⟨rfl, rfl, by decide⟩ rfl rfl (Nat.le_of_ble_eq_true rfl) dX9_kept_74 (fun v w hq => ?_)
          obtain ⟨rfl, rfl⟩ := hq
          refine j_ws [0, 1] (ws' := [(md, .inr (9, [.int (nI W), .int (nI H), .int t, .int (nI m), .int (nI k), .ref zc, .ref zr, .ref zb, .ref z1, .ref z2, .ref z3, .ref z4, .ref z5, .ref zm, .ref zmr, .ref zmb, .int mt, .ref zca, .ref zcw, .int (nI c), .ref zg, .ref zt, .ref zs, .ref zf, .ref zy, .ref zso, .ref zsf, .ref zsm, .int nt, .int nsh, .ref ztp, .ref zrw, .ref zpp, .int (nI tn), .int (nI pn), .int rdw, .int rdh, .ref zsz, .ref zit, .ref zk, .int (bI itk)])), (zr, ia G 16 (fun ι => nI (p ι)))]) rfl rfl ?_
          refine j_icmp_eq (pc := 77) (tgt := 82) hX dX9_kept_77 (by decide) rfl rfl (fun c77 => ?_) (fun c77 => ?_)
          · skip
            refine j_iinc (pc := 82) (q := 5) (v := nI (j + 1)) (lv' := [(5, .int (nI (j + 1))), (0, .ref md), (1, .int a_), (2, .int b_), (3, .int c_), (4, .int d_)]) hX dX9_kept_82 rfl (nI_inc _ 1) (by decide) rfl ?_
            refine j_goto (pc := 85) (tgt := 17) hX dX9_kept_85 (by decide) ?_
            refine j_lv [1, 2, 3, 4, 5, 0] (lv' := [(0, .ref md), (1, .int a_), (2, .int b_), (3, .int c_), (4, .int d_), (5, .int (nI (j + 1)))]) rfl ?_
            exact ih17 (j + 1) (by omega) (lt_s hall ⟨Int32.toInt_inj.mp c49, Int32.toInt_inj.mp c77⟩) (by omega)
          · skip
            refine j_iconstN (pc := 80) (j := 0) hX dX9_kept_80 rfl ?_
            exact j_iret (pc := 81) hX hR dX9_kept_81 ⟨congrArg some (show Value.int (nI 0) = Value.int (bI (keptB a_ b_ c_ d_ p)) from by first | exact bI_ff (allB_f (z := j) (by omega) (decide_eq_false (fun h => c49 (by rw [h.1])))) | exact bI_ff (allB_f (z := j) (by omega) (decide_eq_false (fun h => c77 (by rw [h.2]))))), rfl⟩
  refine j_lv [1, 2, 3, 4, 5, 0] (lv' := [(0, .ref md), (1, .int a_), (2, .int b_), (3, .int c_), (4, .int d_), (5, .int (nI 0))]) rfl ?_
  exact L17 ((16 - 0) + 1) 0 (by omega) (fun z hz => absurd hz (Nat.not_lt_zero _)) (Nat.lt_succ_self _)
