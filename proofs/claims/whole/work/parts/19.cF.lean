set_option maxHeartbeats 4000000 in
set_option maxRecDepth 100000 in
theorem c_X9_isIn (G : GT) (v a b : Int64) (r_ : Bool) (hr : inL v a b = r_) (l : Launch) : CT l G yX9_isIn cX9_isIn 6 (some .boolean) { frames := 0, cells := 0, slots := 0, locals := 0 } [.long v, .long a, .long b] [] (fun vv ww => vv = some (.int (bI r_)) ∧ ww = []) := by
  refine CT.of (lv := [(0, .long v), (2, .long a), (4, .long b)]) RX9 "isIn" rfl rfl (by decide +kernel) (Nat.le_of_ble_eq_true rfl) rfl (fun X hX hR => ?_)
  refine j_lload_n (pc := 0) hX dX9_isIn_0 0 rfl ?_
  refine j_lload_n (pc := 1) hX dX9_isIn_1 1 rfl ?_
  refine j_lcmp (pc := 2) hX dX9_isIn_2 ?_
  refine j_if_lt (pc := 3) (tgt := 17) hX dX9_isIn_3 (by decide) rfl (fun c3 => ?_) (fun c3 => ?_)
  · skip
    have k3 := lg_lt c3
    refine j_iconstN (pc := 17) (j := 0) hX dX9_isIn_17 rfl ?_
    exact j_zret (pc := 18) hX hR (by decide) dX9_isIn_18 ⟨congrArg some (show Value.int (nI 0) = Value.int (bI r_) from by rw [← hr]; unfold inL; first | exact bI_t ⟨k3, k10⟩ | exact bI_f (by omega)), rfl⟩
  · skip
    have k3 := lg_nlt c3
    refine j_lload_n (pc := 6) hX dX9_isIn_6 0 rfl ?_
    refine j_lload (pc := 7) hX dX9_isIn_7 2 rfl ?_
    refine j_lcmp (pc := 9) hX dX9_isIn_9 ?_
    refine j_if_gt (pc := 10) (tgt := 17) hX dX9_isIn_10 (by decide) rfl (fun c10 => ?_) (fun c10 => ?_)
    · skip
      have k10 := lg_gt c10
      refine j_iconstN (pc := 17) (j := 0) hX dX9_isIn_17 rfl ?_
      exact j_zret (pc := 18) hX hR (by decide) dX9_isIn_18 ⟨congrArg some (show Value.int (nI 0) = Value.int (bI r_) from by rw [← hr]; unfold inL; first | exact bI_t ⟨k3, k10⟩ | exact bI_f (by omega)), rfl⟩
    · skip
      have k10 := lg_ngt c10
      refine j_iconstN (pc := 13) (j := 1) hX dX9_isIn_13 rfl ?_
      refine j_goto (pc := 14) (tgt := 18) hX dX9_isIn_14 (by decide) ?_
      exact j_zret (pc := 18) hX hR (by decide) dX9_isIn_18 ⟨congrArg some (show Value.int (nI 1) = Value.int (bI r_) from by rw [← hr]; unfold inL; first | exact bI_t ⟨k3, k10⟩ | exact bI_f (by omega)), rfl⟩
set_option maxHeartbeats 4000000 in
set_option maxRecDepth 100000 in
theorem c_X9_isCell (G : GT) (md : Nat) (W : Nat) (H : Nat) (t : Int32) (m : Nat) (k : Nat) (zc : Nat) (zr : Nat) (zb : Nat) (z1 : Nat) (z2 : Nat) (z3 : Nat) (z4 : Nat) (z5 : Nat) (zm : Nat) (zmr : Nat) (zmb : Nat) (mt : Int32) (zca : Nat) (zcw : Nat) (c : Nat) (zg : Nat) (zt : Nat) (zs : Nat) (zf : Nat) (zy : Nat) (zso : Nat) (zsf : Nat) (zsm : Nat) (nt : Int32) (nsh : Int32) (ztp : Nat) (zrw : Nat) (zpp : Nat) (tn : Nat) (pn : Nat) (rdw : Int32) (rdh : Int32) (zsz : Nat) (zit : Nat) (zk : Nat) (itk : Bool) (x_ y_ : Int32) (hW1 : 2 ≤ W) (hW2 : W ≤ 16) (hH1 : 2 ≤ H) (hH2 : H ≤ 16) (l : Launch) : CT l G yX9_isCell cX9_isCell 3 (some .boolean) { frames := 1, cells := 0, slots := 0, locals := 25 } [.ref md, .int x_, .int y_] [(md, .inr (9, [.int (nI W), .int (nI H), .int t, .int (nI m), .int (nI k), .ref zc, .ref zr, .ref zb, .ref z1, .ref z2, .ref z3, .ref z4, .ref z5, .ref zm, .ref zmr, .ref zmb, .int mt, .ref zca, .ref zcw, .int (nI c), .ref zg, .ref zt, .ref zs, .ref zf, .ref zy, .ref zso, .ref zsf, .ref zsm, .int nt, .int nsh, .ref ztp, .ref zrw, .ref zpp, .int (nI tn), .int (nI pn), .int rdw, .int rdh, .ref zsz, .ref zit, .ref zk, .int (bI itk)]))] (fun vv ww => vv = some (.int (bI (inG W H x_ y_))) ∧ ww = [(md, .inr (9, [.int (nI W), .int (nI H), .int t, .int (nI m), .int (nI k), .ref zc, .ref zr, .ref zb, .ref z1, .ref z2, .ref z3, .ref z4, .ref z5, .ref zm, .ref zmr, .ref zmb, .int mt, .ref zca, .ref zcw, .int (nI c), .ref zg, .ref zt, .ref zs, .ref zf, .ref zy, .ref zso, .ref zsf, .ref zsm, .int nt, .int nsh, .ref ztp, .ref zrw, .ref zpp, .int (nI tn), .int (nI pn), .int rdw, .int rdh, .ref zsz, .ref zit, .ref zk, .int (bI itk)]))]) := by
  refine CT.of (lv := [(0, .ref md), (1, .int x_), (2, .int y_)]) RX9 "isCell" rfl rfl (by decide +kernel) (Nat.le_of_ble_eq_true rfl) rfl (fun X hX hR => ?_)
  refine j_iload_n (pc := 0) hX dX9_isCell_0 1 rfl ?_
  refine j_i2l (pc := 1) hX dX9_isCell_1 ?_
  refine j_lconst (pc := 2) (v := 0) hX dX9_isCell_2 (by decide) ?_
  refine j_aload_n (pc := 3) hX dX9_isCell_3 0 rfl ?_
  refine j_get (pc := 4) hX f_RX9_9 0 rfl rfl dX9_isCell_4 ?_
  refine j_iconstN (pc := 7) (j := 1) hX dX9_isCell_7 rfl ?_
  refine j_isub (pc := 8) hX dX9_isCell_8 ?_
  refine j_topi (y := nI (W - 1)) (pk_sub (by omega)) ?_
  refine j_i2l (pc := 9) hX dX9_isCell_9 ?_
  refine j_callS (pc := 10) hX kX9_isIn kSX9_isIn l_RX9_105 (fun l => c_X9_isIn G x_.toInt64 0 ((nI (W - 1)).toInt64) (rngB x_ (0) (((W - 1 : Nat) : Int))) (inL_of (toL _) (show ((0) : Int64).toInt = 0 from by decide) ((toL _).trans (nI_toInt (by omega)))) l) [] [0] [] rfl rfl rfl rfl ⟨rfl, rfl, by decide⟩ rfl rfl (Nat.le_of_ble_eq_true rfl) dX9_isCell_10 (fun v w hq => ?_)
  obtain ⟨rfl, rfl⟩ := hq
  refine j_ws [0] (ws' := [(md, .inr (9, [.int (nI W), .int (nI H), .int t, .int (nI m), .int (nI k), .ref zc, .ref zr, .ref zb, .ref z1, .ref z2, .ref z3, .ref z4, .ref z5, .ref zm, .ref zmr, .ref zmb, .int mt, .ref zca, .ref zcw, .int (nI c), .ref zg, .ref zt, .ref zs, .ref zf, .ref zy, .ref zso, .ref zsf, .ref zsm, .int nt, .int nsh, .ref ztp, .ref zrw, .ref zpp, .int (nI tn), .int (nI pn), .int rdw, .int rdh, .ref zsz, .ref zit, .ref zk, .int (bI itk)]))]) rfl rfl ?_
  refine j_ifB_eq (pc := 13) (tgt := 36) hX dX9_isCell_13 (by decide) (fun c13 => ?_) (fun c13 => ?_)
  · skip
    have c13 := of_decide_eq_false c13
    refine j_iconstN (pc := 36) (j := 0) hX dX9_isCell_36 rfl ?_
    exact j_zret (pc := 37) hX hR (by decide) dX9_isCell_37 ⟨congrArg some (show Value.int (nI 0) = Value.int (bI (inG W H x_ y_)) from by first | exact bI_t (by omega) | exact bI_f (by omega)), rfl⟩
  · skip
    have c13 := of_decide_eq_true c13
    refine j_iload_n (pc := 16) hX dX9_isCell_16 2 rfl ?_
    refine j_i2l (pc := 17) hX dX9_isCell_17 ?_
    refine j_lconst (pc := 18) (v := 0) hX dX9_isCell_18 (by decide) ?_
    refine j_aload_n (pc := 19) hX dX9_isCell_19 0 rfl ?_
    refine j_get (pc := 20) hX f_RX9_15 0 rfl rfl dX9_isCell_20 ?_
    refine j_iconstN (pc := 23) (j := 1) hX dX9_isCell_23 rfl ?_
    refine j_isub (pc := 24) hX dX9_isCell_24 ?_
    refine j_topi (y := nI (H - 1)) (pk_sub (by omega)) ?_
    refine j_i2l (pc := 25) hX dX9_isCell_25 ?_
    refine j_callS (pc := 26) hX kX9_isIn kSX9_isIn l_RX9_105 (fun l => c_X9_isIn G y_.toInt64 0 ((nI (H - 1)).toInt64) (rngB y_ (0) (((H - 1 : Nat) : Int))) (inL_of (toL _) (show ((0) : Int64).toInt = 0 from by decide) ((toL _).trans (nI_toInt (by omega)))) l) [] [0] [] rfl rfl rfl rfl ⟨rfl, rfl, by decide⟩ rfl rfl (Nat.le_of_ble_eq_true rfl) dX9_isCell_26 (fun v w hq => ?_)
    obtain ⟨rfl, rfl⟩ := hq
    refine j_ws [0] (ws' := [(md, .inr (9, [.int (nI W), .int (nI H), .int t, .int (nI m), .int (nI k), .ref zc, .ref zr, .ref zb, .ref z1, .ref z2, .ref z3, .ref z4, .ref z5, .ref zm, .ref zmr, .ref zmb, .int mt, .ref zca, .ref zcw, .int (nI c), .ref zg, .ref zt, .ref zs, .ref zf, .ref zy, .ref zso, .ref zsf, .ref zsm, .int nt, .int nsh, .ref ztp, .ref zrw, .ref zpp, .int (nI tn), .int (nI pn), .int rdw, .int rdh, .ref zsz, .ref zit, .ref zk, .int (bI itk)]))]) rfl rfl ?_
    refine j_ifB_eq (pc := 29) (tgt := 36) hX dX9_isCell_29 (by decide) (fun c29 => ?_) (fun c29 => ?_)
    · skip
      have c29 := of_decide_eq_false c29
      refine j_iconstN (pc := 36) (j := 0) hX dX9_isCell_36 rfl ?_
      exact j_zret (pc := 37) hX hR (by decide) dX9_isCell_37 ⟨congrArg some (show Value.int (nI 0) = Value.int (bI (inG W H x_ y_)) from by first | exact bI_t (by omega) | exact bI_f (by omega)), rfl⟩
    · skip
      have c29 := of_decide_eq_true c29
      refine j_iconstN (pc := 32) (j := 1) hX dX9_isCell_32 rfl ?_
      refine j_goto (pc := 33) (tgt := 37) hX dX9_isCell_33 (by decide) ?_
      exact j_zret (pc := 37) hX hR (by decide) dX9_isCell_37 ⟨congrArg some (show Value.int (nI 1) = Value.int (bI (inG W H x_ y_)) from by first | exact bI_t (by omega) | exact bI_f (by omega)), rfl⟩
set_option maxHeartbeats 4000000 in
set_option maxRecDepth 100000 in
theorem c_X9_copies (G : GT) (a b : Nat) (f g : Nat → Int32)  (l : Launch) : CT l G yX9_copies cX9_copies 3 none { frames := 0, cells := 0, slots := 0, locals := 0 } [.ref a, .ref b] [(a, ia G 16 f), (b, ia G 16 g)] (fun vv ww => vv = none ∧ ww = [(a, ia G 16 f), (b, ia G 16 f)]) := by
  refine CT.of (lv := [(0, .ref a), (1, .ref b)]) RX9 "copies" rfl rfl (by decide +kernel) (Nat.le_of_ble_eq_true rfl) rfl (fun X hX hR => ?_)
  refine j_iconstN (pc := 0) (j := 0) hX dX9_copies_0 rfl ?_
  refine j_istore_n (pc := 1) (lv' := [(2, .int (nI 0)), (0, .ref a), (1, .ref b)]) hX dX9_copies_1 (by decide) rfl ?_
  have L2 : ∀ (m2 : Nat) (k : Nat) (g2 : Nat → Int32) (hk : k ≤ 16) (hg : ∀ z, z < k → g2 z = f z), 16 - k < m2 → J X G 3 0 0 [(a, ia G 16 f), (b, ia G 16 g2)] [(0, .ref a), (1, .ref b), (2, .int (nI k))] 2 [] := by
    intro m2
    induction m2 with
    | zero => intro k g2 hk hg hm2; exact absurd hm2 (Nat.not_lt_zero _)
    | succ m2 ih2 =>
      intro k g2 hk hg hm2
      refine j_iload_n (pc := 2) hX dX9_copies_2 2 rfl ?_
      refine j_bipush (pc := 3) (v := nI 16) hX dX9_copies_3 (by decide) ?_
      refine j_icmp_ge (pc := 5) (tgt := 20) hX dX9_copies_5 (by decide) (nI_toInt (n := k) (by omega)) (nI_toInt (n := 16) (by decide)) (fun c5 => ?_) (fun c5 => ?_)
      · skip
        refine j_ia (q0 := 1) (f := g2) (g := f) rfl (fun z hz => by exact hg z (by omega)) (ws' := [(a, ia G 16 f), (b, ia G 16 f)]) rfl ?_
        exact j_vret (pc := 20) hX hR dX9_copies_20 ⟨rfl, rfl⟩
      · skip
        refine j_aload_n (pc := 8) hX dX9_copies_8 1 rfl ?_
        refine j_iload_n (pc := 9) hX dX9_copies_9 2 rfl ?_
        refine j_aload_n (pc := 10) hX dX9_copies_10 0 rfl ?_
        refine j_iload_n (pc := 11) hX dX9_copies_11 2 rfl ?_
        refine j_ialdN (pc := 12) (j := k) hX 0 rfl (by omega) (by omega) dX9_copies_12 ?_
        refine j_iastN (pc := 13) (j := k) (ws' := [(a, ia G 16 f), (b, ia G 16 (upd g2 k (f k)))]) hX 1 rfl (by omega) (by omega) rfl dX9_copies_13 ?_
        refine j_iinc (pc := 14) (q := 2) (v := nI (k + 1)) (lv' := [(2, .int (nI (k + 1))), (0, .ref a), (1, .ref b)]) hX dX9_copies_14 rfl (nI_inc _ 1) (by decide) rfl ?_
        refine j_goto (pc := 17) (tgt := 2) hX dX9_copies_17 (by decide) ?_
        refine j_lv [1, 2, 0] (lv' := [(0, .ref a), (1, .ref b), (2, .int (nI (k + 1)))]) rfl ?_
        exact ih2 (k + 1) (upd g2 k (f k)) (by omega) (upd_fill hg) (by omega)
  refine j_lv [1, 2, 0] (lv' := [(0, .ref a), (1, .ref b), (2, .int (nI 0))]) rfl ?_
  exact L2 ((16 - 0) + 1) 0 g (by omega) (fun z hz => absurd hz (Nat.not_lt_zero _)) (Nat.lt_succ_self _)
set_option maxHeartbeats 4000000 in
set_option maxRecDepth 100000 in
theorem c_X9_bits (G : GT) (v : Int32) (hv : rN v < 65536) (l : Launch) : CT l G yX9_bits cX9_bits 3 (some .int) { frames := 0, cells := 0, slots := 0, locals := 0 } [.int v] [] (fun vv ww => vv = some (.int (nI (pop (rN v)))) ∧ ww = []) := by
  refine CT.of (lv := [(0, .int v)]) RX9 "bits" rfl rfl (by decide +kernel) (Nat.le_of_ble_eq_true rfl) rfl (fun X hX hR => ?_)
  refine j_iconstN (pc := 0) (j := 0) hX dX9_bits_0 rfl ?_
  refine j_istore_n (pc := 1) (lv' := [(1, .int (nI 0)), (0, .int v)]) hX dX9_bits_1 (by decide) rfl ?_
  refine j_iload_n (pc := 2) hX dX9_bits_2 1 rfl ?_
  refine j_istore_n (pc := 3) (lv' := [(2, .int v), (1, .int (nI 0)), (0, .int v)]) hX dX9_bits_3 (by decide) rfl ?_
  have L4 : ∀ (m4 : Nat) (n : Nat) (l_ : Int32) (hl : rN l_ < 65536) (hp : pop (rN v) = n + pop (rN l_)), rN l_ < m4 → J X G 3 0 0 [] [(0, .int v), (1, .int (nI n)), (2, .int l_)] 4 [] := by
    intro m4
    induction m4 with
    | zero => intro n l_ hl hp hm4; exact absurd hm4 (Nat.not_lt_zero _)
    | succ m4 ih4 =>
      intro n l_ hl hp hm4
      refine j_iload_n (pc := 4) hX dX9_bits_4 2 rfl ?_
      refine j_if_eq (pc := 5) (tgt := 20) hX dX9_bits_5 (by decide) rfl (fun c5 => ?_) (fun c5 => ?_)
      · skip
        have c5 := (toI0 l_).mp c5
        refine j_iload_n (pc := 20) hX dX9_bits_20 1 rfl ?_
        exact j_iret (pc := 21) hX hR dX9_bits_21 ⟨congrArg some (show Value.int (nI n) = Value.int (nI (pop (rN v))) from by rw [hp, c5]; rfl), rfl⟩
      · skip
        have c5 : rN l_ ≠ 0 := fun q => c5 ((toI0 l_).mpr q)
        refine j_iinc (pc := 8) (q := 1) (v := nI (n + 1)) (lv' := [(1, .int (nI (n + 1))), (0, .int v), (2, .int l_)]) hX dX9_bits_8 rfl (nI_inc _ 1) (by decide) rfl ?_
        refine j_iload_n (pc := 11) hX dX9_bits_11 2 rfl ?_
        refine j_iload_n (pc := 12) hX dX9_bits_12 2 rfl ?_
        refine j_iconstN (pc := 13) (j := 1) hX dX9_bits_13 rfl ?_
        refine j_isub (pc := 14) hX dX9_bits_14 ?_
        refine j_iand (pc := 15) hX dX9_bits_15 ?_
        refine j_istore_n (pc := 16) (lv' := [(2, .int (l_ &&& (l_ - (nI 1)))), (1, .int (nI (n + 1))), (0, .int v)]) hX dX9_bits_16 (by decide) rfl ?_
        refine j_goto (pc := 17) (tgt := 4) hX dX9_bits_17 (by decide) ?_
        refine j_lv [2, 1, 0] (lv' := [(0, .int v), (1, .int (nI (n + 1))), (2, .int (l_ &&& (l_ - (nI 1))))]) rfl ?_
        exact ih4 (n + 1) (l_ &&& (l_ - (nI 1))) (by rw [ker (by omega) hl]; have := ker_lt (k := rN l_) (by omega); omega) (by rw [ker (by omega) hl]; have := pop_drop hl (by omega); omega) (by rw [ker (by omega) hl]; have := ker_lt (k := rN l_) (by omega); omega)
  refine j_lv [2, 1, 0] (lv' := [(0, .int v), (1, .int (nI 0)), (2, .int v)]) rfl ?_
  exact L4 ((rN v) + 1) 0 v (hv) ((Nat.zero_add _).symm) (Nat.lt_succ_self _)
set_option maxHeartbeats 4000000 in
set_option maxRecDepth 100000 in
theorem c_X9_ball (G : GT) (s : Nat) (hs : s < 16) (l : Launch) : CT l G yX9_ball cX9_ball 1 (some .int) { frames := 1, cells := 0, slots := 0, locals := 22 } [.int (nI s)] [] (fun vv ww => vv = some (.int (nI (wrd 4 s))) ∧ ww = []) := by
  refine CT.of (lv := [(0, .int (nI s))]) RX9 "ball" rfl rfl (by decide +kernel) (Nat.le_of_ble_eq_true rfl) rfl (fun X hX hR => ?_)
  have hpb := pop_le (rN (nI s))
  refine j_iload_n (pc := 0) hX dX9_ball_0 0 rfl ?_
  refine j_callS (pc := 1) hX kX9_bits kSX9_bits l_RX9_109 (fun l => c_X9_bits G (nI s) (by rw [rN_nI (by omega)]; omega) l) [] [] [] rfl rfl rfl rfl ⟨rfl, rfl, by decide⟩ rfl rfl (Nat.le_of_ble_eq_true rfl) dX9_ball_1 (fun v w hq => ?_)
  obtain ⟨rfl, rfl⟩ := hq
  refine j_ws [] (ws' := []) rfl rfl ?_
  refine j_iconstN (pc := 4) (j := 1) hX dX9_ball_4 rfl ?_
  refine j_icmp_eq (pc := 5) (tgt := 20) hX dX9_ball_5 (by decide) (nI_toInt (n := pop (rN (nI s))) (by omega)) (nI_toInt (n := 1) (by decide)) (fun c5 => ?_) (fun c5 => ?_)
  · skip
    refine j_iload_n (pc := 20) hX dX9_ball_20 0 rfl ?_
    refine j_iconstN (pc := 21) (j := 1) hX dX9_ball_21 rfl ?_
    refine j_icmp_ne (pc := 22) (tgt := 30) hX dX9_ball_22 (by decide) (nI_toInt (n := s) (by omega)) (nI_toInt (n := 1) (by decide)) (fun c22 => ?_) (fun c22 => ?_)
    · skip
      refine j_iload_n (pc := 30) hX dX9_ball_30 0 rfl ?_
      refine j_bipush (pc := 31) (v := nI 8) hX dX9_ball_31 (by decide) ?_
      refine j_icmp_ne (pc := 33) (tgt := 40) hX dX9_ball_33 (by decide) (nI_toInt (n := s) (by omega)) (nI_toInt (n := 8) (by decide)) (fun c33 => ?_) (fun c33 => ?_)
      · skip
        refine j_iload_n (pc := 40) hX dX9_ball_40 0 rfl ?_
        refine j_iconstN (pc := 41) (j := 2) hX dX9_ball_41 rfl ?_
        refine j_icmp_ne (pc := 42) (tgt := 49) hX dX9_ball_42 (by decide) (nI_toInt (n := s) (by omega)) (nI_toInt (n := 2) (by decide)) (fun c42 => ?_) (fun c42 => ?_)
        · skip
          refine j_iload_n (pc := 49) hX dX9_ball_49 0 rfl ?_
          refine j_iconstN (pc := 50) (j := 4) hX dX9_ball_50 rfl ?_
          refine j_icmp_ne (pc := 51) (tgt := 58) hX dX9_ball_51 (by decide) (nI_toInt (n := s) (by omega)) (nI_toInt (n := 4) (by decide)) (fun c51 => ?_) (fun c51 => ?_)
          · skip
            refine j_bipush (pc := 58) (v := nI 15) hX dX9_ball_58 (by decide) ?_
            refine j_iload_n (pc := 60) hX dX9_ball_60 0 rfl ?_
            refine j_isub (pc := 61) hX dX9_ball_61 ?_
            refine j_topi (y := nI (15 - s)) (pk_sub (by omega)) ?_
            refine j_goto (pc := 62) (tgt := 66) hX dX9_ball_62 (by decide) ?_
            exact j_iret (pc := 66) hX hR dX9_ball_66 ⟨congrArg some (show Value.int (nI (15 - s)) = Value.int (nI (wrd 4 s)) from by rcases (show s = 0 ∨ s = 1 ∨ s = 2 ∨ s = 3 ∨ s = 4 ∨ s = 5 ∨ s = 6 ∨ s = 7 ∨ s = 8 ∨ s = 9 ∨ s = 10 ∨ s = 11 ∨ s = 12 ∨ s = 13 ∨ s = 14 ∨ s = 15 from by omega) with e | e | e | e | e | e | e | e | e | e | e | e | e | e | e | e <;> subst e <;> first | rfl | (exfalso; omega) | (exfalso; exact absurd c5 (by decide))), rfl⟩
          · skip
            refine j_iconstN (pc := 54) (j := 2) hX dX9_ball_54 rfl ?_
            refine j_goto (pc := 55) (tgt := 66) hX dX9_ball_55 (by decide) ?_
            exact j_iret (pc := 66) hX hR dX9_ball_66 ⟨congrArg some (show Value.int (nI 2) = Value.int (nI (wrd 4 s)) from by rcases (show s = 0 ∨ s = 1 ∨ s = 2 ∨ s = 3 ∨ s = 4 ∨ s = 5 ∨ s = 6 ∨ s = 7 ∨ s = 8 ∨ s = 9 ∨ s = 10 ∨ s = 11 ∨ s = 12 ∨ s = 13 ∨ s = 14 ∨ s = 15 from by omega) with e | e | e | e | e | e | e | e | e | e | e | e | e | e | e | e <;> subst e <;> first | rfl | (exfalso; omega) | (exfalso; exact absurd c5 (by decide))), rfl⟩
        · skip
          refine j_iconstN (pc := 45) (j := 4) hX dX9_ball_45 rfl ?_
          refine j_goto (pc := 46) (tgt := 66) hX dX9_ball_46 (by decide) ?_
          exact j_iret (pc := 66) hX hR dX9_ball_66 ⟨congrArg some (show Value.int (nI 4) = Value.int (nI (wrd 4 s)) from by rcases (show s = 0 ∨ s = 1 ∨ s = 2 ∨ s = 3 ∨ s = 4 ∨ s = 5 ∨ s = 6 ∨ s = 7 ∨ s = 8 ∨ s = 9 ∨ s = 10 ∨ s = 11 ∨ s = 12 ∨ s = 13 ∨ s = 14 ∨ s = 15 from by omega) with e | e | e | e | e | e | e | e | e | e | e | e | e | e | e | e <;> subst e <;> first | rfl | (exfalso; omega) | (exfalso; exact absurd c5 (by decide))), rfl⟩
      · skip
        refine j_iconstN (pc := 36) (j := 1) hX dX9_ball_36 rfl ?_
        refine j_goto (pc := 37) (tgt := 66) hX dX9_ball_37 (by decide) ?_
        exact j_iret (pc := 66) hX hR dX9_ball_66 ⟨congrArg some (show Value.int (nI 1) = Value.int (nI (wrd 4 s)) from by rcases (show s = 0 ∨ s = 1 ∨ s = 2 ∨ s = 3 ∨ s = 4 ∨ s = 5 ∨ s = 6 ∨ s = 7 ∨ s = 8 ∨ s = 9 ∨ s = 10 ∨ s = 11 ∨ s = 12 ∨ s = 13 ∨ s = 14 ∨ s = 15 from by omega) with e | e | e | e | e | e | e | e | e | e | e | e | e | e | e | e <;> subst e <;> first | rfl | (exfalso; omega) | (exfalso; exact absurd c5 (by decide))), rfl⟩
    · skip
      refine j_bipush (pc := 25) (v := nI 8) hX dX9_ball_25 (by decide) ?_
      refine j_goto (pc := 27) (tgt := 66) hX dX9_ball_27 (by decide) ?_
      exact j_iret (pc := 66) hX hR dX9_ball_66 ⟨congrArg some (show Value.int (nI 8) = Value.int (nI (wrd 4 s)) from by rcases (show s = 0 ∨ s = 1 ∨ s = 2 ∨ s = 3 ∨ s = 4 ∨ s = 5 ∨ s = 6 ∨ s = 7 ∨ s = 8 ∨ s = 9 ∨ s = 10 ∨ s = 11 ∨ s = 12 ∨ s = 13 ∨ s = 14 ∨ s = 15 from by omega) with e | e | e | e | e | e | e | e | e | e | e | e | e | e | e | e <;> subst e <;> first | rfl | (exfalso; omega) | (exfalso; exact absurd c5 (by decide))), rfl⟩
  · skip
    refine j_iload_n (pc := 8) hX dX9_ball_8 0 rfl ?_
    refine j_bipush (pc := 9) (v := nI 6) hX dX9_ball_9 (by decide) ?_
    refine j_icmp_eq (pc := 11) (tgt := 20) hX dX9_ball_11 (by decide) (nI_toInt (n := s) (by omega)) (nI_toInt (n := 6) (by decide)) (fun c11 => ?_) (fun c11 => ?_)
    · skip
      refine j_iload_n (pc := 20) hX dX9_ball_20 0 rfl ?_
      refine j_iconstN (pc := 21) (j := 1) hX dX9_ball_21 rfl ?_
      refine j_icmp_ne (pc := 22) (tgt := 30) hX dX9_ball_22 (by decide) (nI_toInt (n := s) (by omega)) (nI_toInt (n := 1) (by decide)) (fun c22 => ?_) (fun c22 => ?_)
      · skip
        refine j_iload_n (pc := 30) hX dX9_ball_30 0 rfl ?_
        refine j_bipush (pc := 31) (v := nI 8) hX dX9_ball_31 (by decide) ?_
        refine j_icmp_ne (pc := 33) (tgt := 40) hX dX9_ball_33 (by decide) (nI_toInt (n := s) (by omega)) (nI_toInt (n := 8) (by decide)) (fun c33 => ?_) (fun c33 => ?_)
        · skip
          refine j_iload_n (pc := 40) hX dX9_ball_40 0 rfl ?_
          refine j_iconstN (pc := 41) (j := 2) hX dX9_ball_41 rfl ?_
          refine j_icmp_ne (pc := 42) (tgt := 49) hX dX9_ball_42 (by decide) (nI_toInt (n := s) (by omega)) (nI_toInt (n := 2) (by decide)) (fun c42 => ?_) (fun c42 => ?_)
          · skip
            refine j_iload_n (pc := 49) hX dX9_ball_49 0 rfl ?_
            refine j_iconstN (pc := 50) (j := 4) hX dX9_ball_50 rfl ?_
            refine j_icmp_ne (pc := 51) (tgt := 58) hX dX9_ball_51 (by decide) (nI_toInt (n := s) (by omega)) (nI_toInt (n := 4) (by decide)) (fun c51 => ?_) (fun c51 => ?_)
            · skip
              refine j_bipush (pc := 58) (v := nI 15) hX dX9_ball_58 (by decide) ?_
              refine j_iload_n (pc := 60) hX dX9_ball_60 0 rfl ?_
              refine j_isub (pc := 61) hX dX9_ball_61 ?_
              refine j_topi (y := nI (15 - s)) (pk_sub (by omega)) ?_
              refine j_goto (pc := 62) (tgt := 66) hX dX9_ball_62 (by decide) ?_
              exact j_iret (pc := 66) hX hR dX9_ball_66 ⟨congrArg some (show Value.int (nI (15 - s)) = Value.int (nI (wrd 4 s)) from by rcases (show s = 0 ∨ s = 1 ∨ s = 2 ∨ s = 3 ∨ s = 4 ∨ s = 5 ∨ s = 6 ∨ s = 7 ∨ s = 8 ∨ s = 9 ∨ s = 10 ∨ s = 11 ∨ s = 12 ∨ s = 13 ∨ s = 14 ∨ s = 15 from by omega) with e | e | e | e | e | e | e | e | e | e | e | e | e | e | e | e <;> subst e <;> first | rfl | (exfalso; omega) | (exfalso; exact absurd c5 (by decide))), rfl⟩
            · skip
              refine j_iconstN (pc := 54) (j := 2) hX dX9_ball_54 rfl ?_
              refine j_goto (pc := 55) (tgt := 66) hX dX9_ball_55 (by decide) ?_
              exact j_iret (pc := 66) hX hR dX9_ball_66 ⟨congrArg some (show Value.int (nI 2) = Value.int (nI (wrd 4 s)) from by rcases (show s = 0 ∨ s = 1 ∨ s = 2 ∨ s = 3 ∨ s = 4 ∨ s = 5 ∨ s = 6 ∨ s = 7 ∨ s = 8 ∨ s = 9 ∨ s = 10 ∨ s = 11 ∨ s = 12 ∨ s = 13 ∨ s = 14 ∨ s = 15 from by omega) with e | e | e | e | e | e | e | e | e | e | e | e | e | e | e | e <;> subst e <;> first | rfl | (exfalso; omega) | (exfalso; exact absurd c5 (by decide))), rfl⟩
          · skip
            refine j_iconstN (pc := 45) (j := 4) hX dX9_ball_45 rfl ?_
            refine j_goto (pc := 46) (tgt := 66) hX dX9_ball_46 (by decide) ?_
            exact j_iret (pc := 66) hX hR dX9_ball_66 ⟨congrArg some (show Value.int (nI 4) = Value.int (nI (wrd 4 s)) from by rcases (show s = 0 ∨ s = 1 ∨ s = 2 ∨ s = 3 ∨ s = 4 ∨ s = 5 ∨ s = 6 ∨ s = 7 ∨ s = 8 ∨ s = 9 ∨ s = 10 ∨ s = 11 ∨ s = 12 ∨ s = 13 ∨ s = 14 ∨ s = 15 from by omega) with e | e | e | e | e | e | e | e | e | e | e | e | e | e | e | e <;> subst e <;> first | rfl | (exfalso; omega) | (exfalso; exact absurd c5 (by decide))), rfl⟩
        · skip
          refine j_iconstN (pc := 36) (j := 1) hX dX9_ball_36 rfl ?_
          refine j_goto (pc := 37) (tgt := 66) hX dX9_ball_37 (by decide) ?_
          exact j_iret (pc := 66) hX hR dX9_ball_66 ⟨congrArg some (show Value.int (nI 1) = Value.int (nI (wrd 4 s)) from by rcases (show s = 0 ∨ s = 1 ∨ s = 2 ∨ s = 3 ∨ s = 4 ∨ s = 5 ∨ s = 6 ∨ s = 7 ∨ s = 8 ∨ s = 9 ∨ s = 10 ∨ s = 11 ∨ s = 12 ∨ s = 13 ∨ s = 14 ∨ s = 15 from by omega) with e | e | e | e | e | e | e | e | e | e | e | e | e | e | e | e <;> subst e <;> first | rfl | (exfalso; omega) | (exfalso; exact absurd c5 (by decide))), rfl⟩
      · skip
        refine j_bipush (pc := 25) (v := nI 8) hX dX9_ball_25 (by decide) ?_
        refine j_goto (pc := 27) (tgt := 66) hX dX9_ball_27 (by decide) ?_
        exact j_iret (pc := 66) hX hR dX9_ball_66 ⟨congrArg some (show Value.int (nI 8) = Value.int (nI (wrd 4 s)) from by rcases (show s = 0 ∨ s = 1 ∨ s = 2 ∨ s = 3 ∨ s = 4 ∨ s = 5 ∨ s = 6 ∨ s = 7 ∨ s = 8 ∨ s = 9 ∨ s = 10 ∨ s = 11 ∨ s = 12 ∨ s = 13 ∨ s = 14 ∨ s = 15 from by omega) with e | e | e | e | e | e | e | e | e | e | e | e | e | e | e | e <;> subst e <;> first | rfl | (exfalso; omega) | (exfalso; exact absurd c5 (by decide))), rfl⟩
    · skip
      refine j_iload_n (pc := 14) hX dX9_ball_14 0 rfl ?_
      refine j_bipush (pc := 15) (v := nI 9) hX dX9_ball_15 (by decide) ?_
      refine j_icmp_ne (pc := 17) (tgt := 65) hX dX9_ball_17 (by decide) (nI_toInt (n := s) (by omega)) (nI_toInt (n := 9) (by decide)) (fun c17 => ?_) (fun c17 => ?_)
      · skip
        refine j_iload_n (pc := 65) hX dX9_ball_65 0 rfl ?_
        exact j_iret (pc := 66) hX hR dX9_ball_66 ⟨congrArg some (show Value.int (nI s) = Value.int (nI (wrd 4 s)) from by rcases (show s = 0 ∨ s = 1 ∨ s = 2 ∨ s = 3 ∨ s = 4 ∨ s = 5 ∨ s = 6 ∨ s = 7 ∨ s = 8 ∨ s = 9 ∨ s = 10 ∨ s = 11 ∨ s = 12 ∨ s = 13 ∨ s = 14 ∨ s = 15 from by omega) with e | e | e | e | e | e | e | e | e | e | e | e | e | e | e | e <;> subst e <;> first | rfl | (exfalso; omega) | (exfalso; exact absurd c5 (by decide))), rfl⟩
      · skip
        refine j_iload_n (pc := 20) hX dX9_ball_20 0 rfl ?_
        refine j_iconstN (pc := 21) (j := 1) hX dX9_ball_21 rfl ?_
        refine j_icmp_ne (pc := 22) (tgt := 30) hX dX9_ball_22 (by decide) (nI_toInt (n := s) (by omega)) (nI_toInt (n := 1) (by decide)) (fun c22 => ?_) (fun c22 => ?_)
        · skip
          refine j_iload_n (pc := 30) hX dX9_ball_30 0 rfl ?_
          refine j_bipush (pc := 31) (v := nI 8) hX dX9_ball_31 (by decide) ?_
          refine j_icmp_ne (pc := 33) (tgt := 40) hX dX9_ball_33 (by decide) (nI_toInt (n := s) (by omega)) (nI_toInt (n := 8) (by decide)) (fun c33 => ?_) (fun c33 => ?_)
          · skip
            refine j_iload_n (pc := 40) hX dX9_ball_40 0 rfl ?_
            refine j_iconstN (pc := 41) (j := 2) hX dX9_ball_41 rfl ?_
            refine j_icmp_ne (pc := 42) (tgt := 49) hX dX9_ball_42 (by decide) (nI_toInt (n := s) (by omega)) (nI_toInt (n := 2) (by decide)) (fun c42 => ?_) (fun c42 => ?_)
            · skip
              refine j_iload_n (pc := 49) hX dX9_ball_49 0 rfl ?_
              refine j_iconstN (pc := 50) (j := 4) hX dX9_ball_50 rfl ?_
              refine j_icmp_ne (pc := 51) (tgt := 58) hX dX9_ball_51 (by decide) (nI_toInt (n := s) (by omega)) (nI_toInt (n := 4) (by decide)) (fun c51 => ?_) (fun c51 => ?_)
              · skip
                refine j_bipush (pc := 58) (v := nI 15) hX dX9_ball_58 (by decide) ?_
                refine j_iload_n (pc := 60) hX dX9_ball_60 0 rfl ?_
                refine j_isub (pc := 61) hX dX9_ball_61 ?_
                refine j_topi (y := nI (15 - s)) (pk_sub (by omega)) ?_
                refine j_goto (pc := 62) (tgt := 66) hX dX9_ball_62 (by decide) ?_
                exact j_iret (pc := 66) hX hR dX9_ball_66 ⟨congrArg some (show Value.int (nI (15 - s)) = Value.int (nI (wrd 4 s)) from by rcases (show s = 0 ∨ s = 1 ∨ s = 2 ∨ s = 3 ∨ s = 4 ∨ s = 5 ∨ s = 6 ∨ s = 7 ∨ s = 8 ∨ s = 9 ∨ s = 10 ∨ s = 11 ∨ s = 12 ∨ s = 13 ∨ s = 14 ∨ s = 15 from by omega) with e | e | e | e | e | e | e | e | e | e | e | e | e | e | e | e <;> subst e <;> first | rfl | (exfalso; omega) | (exfalso; exact absurd c5 (by decide))), rfl⟩
              · skip
                refine j_iconstN (pc := 54) (j := 2) hX dX9_ball_54 rfl ?_
                refine j_goto (pc := 55) (tgt := 66) hX dX9_ball_55 (by decide) ?_
                exact j_iret (pc := 66) hX hR dX9_ball_66 ⟨congrArg some (show Value.int (nI 2) = Value.int (nI (wrd 4 s)) from by rcases (show s = 0 ∨ s = 1 ∨ s = 2 ∨ s = 3 ∨ s = 4 ∨ s = 5 ∨ s = 6 ∨ s = 7 ∨ s = 8 ∨ s = 9 ∨ s = 10 ∨ s = 11 ∨ s = 12 ∨ s = 13 ∨ s = 14 ∨ s = 15 from by omega) with e | e | e | e | e | e | e | e | e | e | e | e | e | e | e | e <;> subst e <;> first | rfl | (exfalso; omega) | (exfalso; exact absurd c5 (by decide))), rfl⟩
            · skip
              refine j_iconstN (pc := 45) (j := 4) hX dX9_ball_45 rfl ?_
              refine j_goto (pc := 46) (tgt := 66) hX dX9_ball_46 (by decide) ?_
              exact j_iret (pc := 66) hX hR dX9_ball_66 ⟨congrArg some (show Value.int (nI 4) = Value.int (nI (wrd 4 s)) from by rcases (show s = 0 ∨ s = 1 ∨ s = 2 ∨ s = 3 ∨ s = 4 ∨ s = 5 ∨ s = 6 ∨ s = 7 ∨ s = 8 ∨ s = 9 ∨ s = 10 ∨ s = 11 ∨ s = 12 ∨ s = 13 ∨ s = 14 ∨ s = 15 from by omega) with e | e | e | e | e | e | e | e | e | e | e | e | e | e | e | e <;> subst e <;> first | rfl | (exfalso; omega) | (exfalso; exact absurd c5 (by decide))), rfl⟩
          · skip
            refine j_iconstN (pc := 36) (j := 1) hX dX9_ball_36 rfl ?_
            refine j_goto (pc := 37) (tgt := 66) hX dX9_ball_37 (by decide) ?_
            exact j_iret (pc := 66) hX hR dX9_ball_66 ⟨congrArg some (show Value.int (nI 1) = Value.int (nI (wrd 4 s)) from by rcases (show s = 0 ∨ s = 1 ∨ s = 2 ∨ s = 3 ∨ s = 4 ∨ s = 5 ∨ s = 6 ∨ s = 7 ∨ s = 8 ∨ s = 9 ∨ s = 10 ∨ s = 11 ∨ s = 12 ∨ s = 13 ∨ s = 14 ∨ s = 15 from by omega) with e | e | e | e | e | e | e | e | e | e | e | e | e | e | e | e <;> subst e <;> first | rfl | (exfalso; omega) | (exfalso; exact absurd c5 (by decide))), rfl⟩
        · skip
          refine j_bipush (pc := 25) (v := nI 8) hX dX9_ball_25 (by decide) ?_
          refine j_goto (pc := 27) (tgt := 66) hX dX9_ball_27 (by decide) ?_
          exact j_iret (pc := 66) hX hR dX9_ball_66 ⟨congrArg some (show Value.int (nI 8) = Value.int (nI (wrd 4 s)) from by rcases (show s = 0 ∨ s = 1 ∨ s = 2 ∨ s = 3 ∨ s = 4 ∨ s = 5 ∨ s = 6 ∨ s = 7 ∨ s = 8 ∨ s = 9 ∨ s = 10 ∨ s = 11 ∨ s = 12 ∨ s = 13 ∨ s = 14 ∨ s = 15 from by omega) with e | e | e | e | e | e | e | e | e | e | e | e | e | e | e | e <;> subst e <;> first | rfl | (exfalso; omega) | (exfalso; exact absurd c5 (by decide))), rfl⟩
set_option maxHeartbeats 4000000 in
set_option maxRecDepth 100000 in
theorem c_X9_turned (G : GT) (s : Nat) (hs : s < 16) (l : Launch) : CT l G yX9_turned cX9_turned 1 (some .int) { frames := 0, cells := 0, slots := 0, locals := 0 } [.int (nI s)] [] (fun vv ww => vv = some (.int (nI (wrd 1 s))) ∧ ww = []) := by
  refine CT.of (lv := [(0, .int (nI s))]) RX9 "turned" rfl rfl (by decide +kernel) (Nat.le_of_ble_eq_true rfl) rfl (fun X hX hR => ?_)
  refine j_iload_n (pc := 0) hX dX9_turned_0 0 rfl ?_
  refine j_iconstN (pc := 1) (j := 1) hX dX9_turned_1 rfl ?_
  refine j_iand (pc := 2) hX dX9_turned_2 ?_
  refine j_iconstN (pc := 3) (j := 1) hX dX9_turned_3 rfl ?_
  refine j_ishl (pc := 4) hX dX9_turned_4 ?_
  refine j_iload_n (pc := 5) hX dX9_turned_5 0 rfl ?_
  refine j_iconstN (pc := 6) (j := 2) hX dX9_turned_6 rfl ?_
  refine j_iand (pc := 7) hX dX9_turned_7 ?_
  refine j_iconstN (pc := 8) (j := 2) hX dX9_turned_8 rfl ?_
  refine j_ishl (pc := 9) hX dX9_turned_9 ?_
  refine j_ior (pc := 10) hX dX9_turned_10 ?_
  refine j_iload_n (pc := 11) hX dX9_turned_11 0 rfl ?_
  refine j_bipush (pc := 12) (v := nI 8) hX dX9_turned_12 (by decide) ?_
  refine j_iand (pc := 14) hX dX9_turned_14 ?_
  refine j_iconstN (pc := 15) (j := 1) hX dX9_turned_15 rfl ?_
  refine j_ishr (pc := 16) hX dX9_turned_16 ?_
  refine j_ior (pc := 17) hX dX9_turned_17 ?_
  refine j_iload_n (pc := 18) hX dX9_turned_18 0 rfl ?_
  refine j_iconstN (pc := 19) (j := 4) hX dX9_turned_19 rfl ?_
  refine j_iand (pc := 20) hX dX9_turned_20 ?_
  refine j_iconstN (pc := 21) (j := 2) hX dX9_turned_21 rfl ?_
  refine j_ishr (pc := 22) hX dX9_turned_22 ?_
  refine j_ior (pc := 23) hX dX9_turned_23 ?_
  exact j_iret (pc := 24) hX hR dX9_turned_24 ⟨congrArg some (show Value.int ((((((nI s) &&& (nI 1)) <<< ((nI 1) &&& 31)) ||| (((nI s) &&& (nI 2)) <<< ((nI 2) &&& 31))) ||| (((nI s) &&& (nI 8)) >>> ((nI 1) &&& 31))) ||| (((nI s) &&& (nI 4)) >>> ((nI 2) &&& 31))) = Value.int (nI (wrd 1 s)) from congrArg Value.int ((show ∀ s, s < 16 → (((((nI s) &&& (nI 1)) <<< ((nI 1) &&& 31)) ||| (((nI s) &&& (nI 2)) <<< ((nI 2) &&& 31))) ||| (((nI s) &&& (nI 8)) >>> ((nI 1) &&& 31))) ||| (((nI s) &&& (nI 4)) >>> ((nI 2) &&& 31)) = nI (wrd 1 s) from by decide +kernel) s hs)), rfl⟩
set_option maxHeartbeats 4000000 in
set_option maxRecDepth 100000 in
theorem c_X9_ruleOf (G : GT) (w a : Nat) (g : Nat → Int32) (hw : w < 5) (l : Launch) : CT l G yX9_ruleOf cX9_ruleOf 3 none { frames := 2, cells := 0, slots := 0, locals := 42 } [.int (nI w), .ref a] [(a, ia G 16 g)] (fun vv ww => vv = none ∧ ww = [(a, ia G 16 (fun ι => nI (wrd w ι)))]) := by
  refine CT.of (lv := [(0, .int (nI w)), (1, .ref a)]) RX9 "ruleOf" rfl rfl (by decide +kernel) (Nat.le_of_ble_eq_true rfl) rfl (fun X hX hR => ?_)
  refine j_iconstN (pc := 0) (j := 0) hX dX9_ruleOf_0 rfl ?_
  refine j_istore_n (pc := 1) (lv' := [(2, .int (nI 0)), (0, .int (nI w)), (1, .ref a)]) hX dX9_ruleOf_1 (by decide) rfl ?_
  have L2 : ∀ (m2 : Nat) (k : Nat) (g2 : Nat → Int32) (hk : k ≤ 16) (hg : ∀ z, z < k → g2 z = nI (wrd w z)), 16 - k < m2 → J X G 3 0 0 [(a, ia G 16 g2)] [(0, .int (nI w)), (1, .ref a), (2, .int (nI k))] 2 [] := by
    intro m2
    induction m2 with
    | zero => intro k g2 hk hg hm2; exact absurd hm2 (Nat.not_lt_zero _)
    | succ m2 ih2 =>
      intro k g2 hk hg hm2
      refine j_iload_n (pc := 2) hX dX9_ruleOf_2 2 rfl ?_
      refine j_bipush (pc := 3) (v := nI 16) hX dX9_ruleOf_3 (by decide) ?_
      refine j_icmp_ge (pc := 5) (tgt := 71) hX dX9_ruleOf_5 (by decide) (nI_toInt (n := k) (by omega)) (nI_toInt (n := 16) (by decide)) (fun c5 => ?_) (fun c5 => ?_)
      · skip
        refine j_ia (q0 := 0) (f := g2) (g := fun ι => nI (wrd w ι)) rfl (fun z hz => by exact hg z (by omega)) (ws' := [(a, ia G 16 (fun ι => nI (wrd w ι)))]) rfl ?_
        exact j_vret (pc := 71) hX hR dX9_ruleOf_71 ⟨rfl, rfl⟩
      · skip
        refine j_aload_n (pc := 8) hX dX9_ruleOf_8 1 rfl ?_
        refine j_iload_n (pc := 9) hX dX9_ruleOf_9 2 rfl ?_
        refine j_iload_n (pc := 10) hX dX9_ruleOf_10 0 rfl ?_
        refine j_if_ne (pc := 11) (tgt := 18) hX dX9_ruleOf_11 (by decide) (nI_toInt (n := w) (by omega)) (fun c11 => ?_) (fun c11 => ?_)
        · skip
          refine j_iload_n (pc := 18) hX dX9_ruleOf_18 0 rfl ?_
          refine j_iconstN (pc := 19) (j := 1) hX dX9_ruleOf_19 rfl ?_
          refine j_icmp_ne (pc := 20) (tgt := 30) hX dX9_ruleOf_20 (by decide) (nI_toInt (n := w) (by omega)) (nI_toInt (n := 1) (by decide)) (fun c20 => ?_) (fun c20 => ?_)
          · skip
            refine j_iload_n (pc := 30) hX dX9_ruleOf_30 0 rfl ?_
            refine j_iconstN (pc := 31) (j := 2) hX dX9_ruleOf_31 rfl ?_
            refine j_icmp_ne (pc := 32) (tgt := 48) hX dX9_ruleOf_32 (by decide) (nI_toInt (n := w) (by omega)) (nI_toInt (n := 2) (by decide)) (fun c32 => ?_) (fun c32 => ?_)
            · skip
              refine j_iload_n (pc := 48) hX dX9_ruleOf_48 0 rfl ?_
              refine j_iconstN (pc := 49) (j := 3) hX dX9_ruleOf_49 rfl ?_
              refine j_icmp_ne (pc := 50) (tgt := 60) hX dX9_ruleOf_50 (by decide) (nI_toInt (n := w) (by omega)) (nI_toInt (n := 3) (by decide)) (fun c50 => ?_) (fun c50 => ?_)
              · skip
                refine j_iload_n (pc := 60) hX dX9_ruleOf_60 2 rfl ?_
                refine j_callS (pc := 61) hX kX9_ball kSX9_ball l_RX9_116 (fun l => c_X9_ball G k (by omega) l) [] [0] [.int (nI k), .ref a] rfl rfl rfl rfl ⟨rfl, rfl, by decide⟩ rfl rfl (Nat.le_of_ble_eq_true rfl) dX9_ruleOf_61 (fun v w hq => ?_)
                obtain ⟨rfl, rfl⟩ := hq
                refine j_ws [0] (ws' := [(a, ia G 16 g2)]) rfl rfl ?_
                refine j_iastN (pc := 64) (j := k) (ws' := [(a, ia G 16 (upd g2 k (nI (wrd 4 k))))]) hX 0 rfl (by omega) (by omega) rfl dX9_ruleOf_64 ?_
                refine j_iinc (pc := 65) (q := 2) (v := nI (k + 1)) (lv' := [(2, .int (nI (k + 1))), (0, .int (nI w)), (1, .ref a)]) hX dX9_ruleOf_65 rfl (nI_inc _ 1) (by decide) rfl ?_
                refine j_goto (pc := 68) (tgt := 2) hX dX9_ruleOf_68 (by decide) ?_
                refine j_lv [1, 2, 0] (lv' := [(0, .int (nI w)), (1, .ref a), (2, .int (nI (k + 1)))]) rfl ?_
                exact ih2 (k + 1) (upd g2 k (nI (wrd 4 k))) (by omega) (upd_fillv (F := fun z => nI (wrd w z)) hg (by first | (rw [show w = 0 from by omega]; exact wv0 (by omega)) | (rw [show w = 1 from by omega]; done) | (rw [show w = 2 from by omega]; exact wv2 (by omega)) | (rw [show w = 3 from by omega]; exact wv3 (by omega)) | (rw [show w = 4 from by omega]; done))) (by omega)
              · skip
                refine j_bipush (pc := 53) (v := nI 15) hX dX9_ruleOf_53 (by decide) ?_
                refine j_iload_n (pc := 55) hX dX9_ruleOf_55 2 rfl ?_
                refine j_isub (pc := 56) hX dX9_ruleOf_56 ?_
                refine j_topi (y := nI (15 - k)) (pk_sub (by omega)) ?_
                refine j_goto (pc := 57) (tgt := 64) hX dX9_ruleOf_57 (by decide) ?_
                refine j_iastN (pc := 64) (j := k) (ws' := [(a, ia G 16 (upd g2 k (nI (15 - k))))]) hX 0 rfl (by omega) (by omega) rfl dX9_ruleOf_64 ?_
                refine j_iinc (pc := 65) (q := 2) (v := nI (k + 1)) (lv' := [(2, .int (nI (k + 1))), (0, .int (nI w)), (1, .ref a)]) hX dX9_ruleOf_65 rfl (nI_inc _ 1) (by decide) rfl ?_
                refine j_goto (pc := 68) (tgt := 2) hX dX9_ruleOf_68 (by decide) ?_
                refine j_lv [1, 2, 0] (lv' := [(0, .int (nI w)), (1, .ref a), (2, .int (nI (k + 1)))]) rfl ?_
                exact ih2 (k + 1) (upd g2 k (nI (15 - k))) (by omega) (upd_fillv (F := fun z => nI (wrd w z)) hg (by first | (rw [show w = 0 from by omega]; exact wv0 (by omega)) | (rw [show w = 1 from by omega]; done) | (rw [show w = 2 from by omega]; exact wv2 (by omega)) | (rw [show w = 3 from by omega]; exact wv3 (by omega)) | (rw [show w = 4 from by omega]; done))) (by omega)
            · skip
              refine j_iload_n (pc := 35) hX dX9_ruleOf_35 2 rfl ?_
              refine j_callS (pc := 36) hX kX9_turned kSX9_turned l_RX9_113 (fun l => c_X9_turned G k (by omega) l) [] [0] [.int (nI k), .ref a] rfl rfl rfl rfl ⟨rfl, rfl, by decide⟩ rfl rfl (Nat.le_of_ble_eq_true rfl) dX9_ruleOf_36 (fun v w hq => ?_)
              obtain ⟨rfl, rfl⟩ := hq
              refine j_ws [0] (ws' := [(a, ia G 16 g2)]) rfl rfl ?_
              have b1 := (wrd_all 1 (by omega) k (by omega)).1
              refine j_callS (pc := 39) hX kX9_turned kSX9_turned l_RX9_113 (fun l => c_X9_turned G (wrd 1 k) (by omega) l) [] [0] [.int (nI k), .ref a] rfl rfl rfl rfl ⟨rfl, rfl, by decide⟩ rfl rfl (Nat.le_of_ble_eq_true rfl) dX9_ruleOf_39 (fun v w hq => ?_)
              obtain ⟨rfl, rfl⟩ := hq
              refine j_ws [0] (ws' := [(a, ia G 16 g2)]) rfl rfl ?_
              have b2 := (wrd_all 1 (by omega) (wrd 1 k) (by omega)).1
              refine j_callS (pc := 42) hX kX9_turned kSX9_turned l_RX9_113 (fun l => c_X9_turned G (wrd 1 (wrd 1 k)) (by omega) l) [] [0] [.int (nI k), .ref a] rfl rfl rfl rfl ⟨rfl, rfl, by decide⟩ rfl rfl (Nat.le_of_ble_eq_true rfl) dX9_ruleOf_42 (fun v w hq => ?_)
              obtain ⟨rfl, rfl⟩ := hq
              refine j_ws [0] (ws' := [(a, ia G 16 g2)]) rfl rfl ?_
              refine j_goto (pc := 45) (tgt := 64) hX dX9_ruleOf_45 (by decide) ?_
              refine j_iastN (pc := 64) (j := k) (ws' := [(a, ia G 16 (upd g2 k (nI (wrd 1 (wrd 1 (wrd 1 k))))))]) hX 0 rfl (by omega) (by omega) rfl dX9_ruleOf_64 ?_
              refine j_iinc (pc := 65) (q := 2) (v := nI (k + 1)) (lv' := [(2, .int (nI (k + 1))), (0, .int (nI w)), (1, .ref a)]) hX dX9_ruleOf_65 rfl (nI_inc _ 1) (by decide) rfl ?_
              refine j_goto (pc := 68) (tgt := 2) hX dX9_ruleOf_68 (by decide) ?_
              refine j_lv [1, 2, 0] (lv' := [(0, .int (nI w)), (1, .ref a), (2, .int (nI (k + 1)))]) rfl ?_
              exact ih2 (k + 1) (upd g2 k (nI (wrd 1 (wrd 1 (wrd 1 k))))) (by omega) (upd_fillv (F := fun z => nI (wrd w z)) hg (by first | (rw [show w = 0 from by omega]; exact wv0 (by omega)) | (rw [show w = 1 from by omega]; done) | (rw [show w = 2 from by omega]; exact wv2 (by omega)) | (rw [show w = 3 from by omega]; exact wv3 (by omega)) | (rw [show w = 4 from by omega]; done))) (by omega)
          · skip
            refine j_iload_n (pc := 23) hX dX9_ruleOf_23 2 rfl ?_
            refine j_callS (pc := 24) hX kX9_turned kSX9_turned l_RX9_113 (fun l => c_X9_turned G k (by omega) l) [] [0] [.int (nI k), .ref a] rfl rfl rfl rfl ⟨rfl, rfl, by decide⟩ rfl rfl (Nat.le_of_ble_eq_true rfl) dX9_ruleOf_24 (fun v w hq => ?_)
            obtain ⟨rfl, rfl⟩ := hq
            refine j_ws [0] (ws' := [(a, ia G 16 g2)]) rfl rfl ?_
            refine j_goto (pc := 27) (tgt := 64) hX dX9_ruleOf_27 (by decide) ?_
            refine j_iastN (pc := 64) (j := k) (ws' := [(a, ia G 16 (upd g2 k (nI (wrd 1 k))))]) hX 0 rfl (by omega) (by omega) rfl dX9_ruleOf_64 ?_
            refine j_iinc (pc := 65) (q := 2) (v := nI (k + 1)) (lv' := [(2, .int (nI (k + 1))), (0, .int (nI w)), (1, .ref a)]) hX dX9_ruleOf_65 rfl (nI_inc _ 1) (by decide) rfl ?_
            refine j_goto (pc := 68) (tgt := 2) hX dX9_ruleOf_68 (by decide) ?_
            refine j_lv [1, 2, 0] (lv' := [(0, .int (nI w)), (1, .ref a), (2, .int (nI (k + 1)))]) rfl ?_
            exact ih2 (k + 1) (upd g2 k (nI (wrd 1 k))) (by omega) (upd_fillv (F := fun z => nI (wrd w z)) hg (by first | (rw [show w = 0 from by omega]; exact wv0 (by omega)) | (rw [show w = 1 from by omega]; done) | (rw [show w = 2 from by omega]; exact wv2 (by omega)) | (rw [show w = 3 from by omega]; exact wv3 (by omega)) | (rw [show w = 4 from by omega]; done))) (by omega)
        · skip
          refine j_iload_n (pc := 14) hX dX9_ruleOf_14 2 rfl ?_
          refine j_goto (pc := 15) (tgt := 64) hX dX9_ruleOf_15 (by decide) ?_
          refine j_iastN (pc := 64) (j := k) (ws' := [(a, ia G 16 (upd g2 k (nI k)))]) hX 0 rfl (by omega) (by omega) rfl dX9_ruleOf_64 ?_
          refine j_iinc (pc := 65) (q := 2) (v := nI (k + 1)) (lv' := [(2, .int (nI (k + 1))), (0, .int (nI w)), (1, .ref a)]) hX dX9_ruleOf_65 rfl (nI_inc _ 1) (by decide) rfl ?_
          refine j_goto (pc := 68) (tgt := 2) hX dX9_ruleOf_68 (by decide) ?_
          refine j_lv [1, 2, 0] (lv' := [(0, .int (nI w)), (1, .ref a), (2, .int (nI (k + 1)))]) rfl ?_
          exact ih2 (k + 1) (upd g2 k (nI k)) (by omega) (upd_fillv (F := fun z => nI (wrd w z)) hg (by first | (rw [show w = 0 from by omega]; exact wv0 (by omega)) | (rw [show w = 1 from by omega]; done) | (rw [show w = 2 from by omega]; exact wv2 (by omega)) | (rw [show w = 3 from by omega]; exact wv3 (by omega)) | (rw [show w = 4 from by omega]; done))) (by omega)
  refine j_lv [1, 2, 0] (lv' := [(0, .int (nI w)), (1, .ref a), (2, .int (nI 0))]) rfl ?_
  exact L2 ((16 - 0) + 1) 0 g (by omega) (fun z hz => absurd hz (Nat.not_lt_zero _)) (Nat.lt_succ_self _)
set_option maxHeartbeats 4000000 in
set_option maxRecDepth 100000 in
theorem c_X9_inverse (G : GT) (a b : Nat) (p q : Nat → Nat) (g : Nat → Int32) (hp : isP p q) (l : Launch) : CT l G yX9_inverse cX9_inverse 3 none { frames := 0, cells := 0, slots := 0, locals := 0 } [.ref a, .ref b] [(a, ia G 16 (fun ι => nI (p ι))), (b, ia G 16 g)] (fun vv ww => vv = none ∧ ww = [(a, ia G 16 (fun ι => nI (p ι))), (b, ia G 16 (fun ι => nI (q ι)))]) := by
  refine CT.of (lv := [(0, .ref a), (1, .ref b)]) RX9 "inverse" rfl rfl (by decide +kernel) (Nat.le_of_ble_eq_true rfl) rfl (fun X hX hR => ?_)
  refine j_iconstN (pc := 0) (j := 0) hX dX9_inverse_0 rfl ?_
  refine j_istore_n (pc := 1) (lv' := [(2, .int (nI 0)), (0, .ref a), (1, .ref b)]) hX dX9_inverse_1 (by decide) rfl ?_
  have L2 : ∀ (m2 : Nat) (k : Nat) (g2 : Nat → Int32) (hk : k ≤ 16) (hg : ∀ z, z < k → g2 (p z) = nI z), 16 - k < m2 → J X G 3 0 0 [(a, ia G 16 (fun ι => nI (p ι))), (b, ia G 16 g2)] [(0, .ref a), (1, .ref b), (2, .int (nI k))] 2 [] := by
    intro m2
    induction m2 with
    | zero => intro k g2 hk hg hm2; exact absurd hm2 (Nat.not_lt_zero _)
    | succ m2 ih2 =>
      intro k g2 hk hg hm2
      refine j_iload_n (pc := 2) hX dX9_inverse_2 2 rfl ?_
      refine j_bipush (pc := 3) (v := nI 16) hX dX9_inverse_3 (by decide) ?_
      refine j_icmp_ge (pc := 5) (tgt := 20) hX dX9_inverse_5 (by decide) (nI_toInt (n := k) (by omega)) (nI_toInt (n := 16) (by decide)) (fun c5 => ?_) (fun c5 => ?_)
      · skip
        refine j_ia (q0 := 1) (f := g2) (g := fun ι => nI (q ι)) rfl (fun z hz => by exact hp.last (fun y hy => hg y (by omega)) hz) (ws' := [(a, ia G 16 (fun ι => nI (p ι))), (b, ia G 16 (fun ι => nI (q ι)))]) rfl ?_
        exact j_vret (pc := 20) hX hR dX9_inverse_20 ⟨rfl, rfl⟩
      · skip
        refine j_aload_n (pc := 8) hX dX9_inverse_8 1 rfl ?_
        refine j_aload_n (pc := 9) hX dX9_inverse_9 0 rfl ?_
        refine j_iload_n (pc := 10) hX dX9_inverse_10 2 rfl ?_
        refine j_ialdN (pc := 11) (j := k) hX 0 rfl (by omega) (by omega) dX9_inverse_11 ?_
        refine j_iload_n (pc := 12) hX dX9_inverse_12 2 rfl ?_
        refine j_iastN (pc := 13) (j := p k) (ws' := [(a, ia G 16 (fun ι => nI (p ι))), (b, ia G 16 (upd g2 (p k) (nI k)))]) hX 1 rfl ((hp k (by omega)).1) (by omega) rfl dX9_inverse_13 ?_
        refine j_iinc (pc := 14) (q := 2) (v := nI (k + 1)) (lv' := [(2, .int (nI (k + 1))), (0, .ref a), (1, .ref b)]) hX dX9_inverse_14 rfl (nI_inc _ 1) (by decide) rfl ?_
        refine j_goto (pc := 17) (tgt := 2) hX dX9_inverse_17 (by decide) ?_
        refine j_lv [1, 2, 0] (lv' := [(0, .ref a), (1, .ref b), (2, .int (nI (k + 1)))]) rfl ?_
        exact ih2 (k + 1) (upd g2 (p k) (nI k)) (by omega) (hp.next (by omega) hg) (by omega)
  refine j_lv [1, 2, 0] (lv' := [(0, .ref a), (1, .ref b), (2, .int (nI 0))]) rfl ?_
  exact L2 ((16 - 0) + 1) 0 g (by omega) (fun z hz => absurd hz (Nat.not_lt_zero _)) (Nat.lt_succ_self _)
set_option maxHeartbeats 4000000 in
set_option maxRecDepth 100000 in
theorem c_X9_rule_ok (G : GT) (md : Nat) (W : Nat) (H : Nat) (t : Int32) (m : Nat) (k : Nat) (zc : Nat) (zr : Nat) (zb : Nat) (z1 : Nat) (z2 : Nat) (z3 : Nat) (z4 : Nat) (z5 : Nat) (zm : Nat) (zmr : Nat) (zmb : Nat) (mt : Int32) (zca : Nat) (zcw : Nat) (c : Nat) (zg : Nat) (zt : Nat) (zs : Nat) (zf : Nat) (zy : Nat) (zso : Nat) (zsf : Nat) (zsm : Nat) (nt : Int32) (nsh : Int32) (ztp : Nat) (zrw : Nat) (zpp : Nat) (tn : Nat) (pn : Nat) (rdw : Int32) (rdh : Int32) (zsz : Nat) (zit : Nat) (zk : Nat) (itk : Bool) (p : Nat → Nat) (bk : Nat → Int32) (w : Nat) (hw : w < 5) (hp : ∀ s, s < 16 → p s < 16) (l : Launch) : CT l G yX9_rule cX9_rule 4 (some .int) { frames := 3, cells := 0, slots := 0, locals := 64 } [.ref md, .int (nI w)] [(md, .inr (9, [.int (nI W), .int (nI H), .int t, .int (nI m), .int (nI k), .ref zc, .ref zr, .ref zb, .ref z1, .ref z2, .ref z3, .ref z4, .ref z5, .ref zm, .ref zmr, .ref zmb, .int mt, .ref zca, .ref zcw, .int (nI c), .ref zg, .ref zt, .ref zs, .ref zf, .ref zy, .ref zso, .ref zsf, .ref zsm, .int nt, .int nsh, .ref ztp, .ref zrw, .ref zpp, .int (nI tn), .int (nI pn), .int rdw, .int rdh, .ref zsz, .ref zit, .ref zk, .int (bI itk)])), (zr, ia G 16 (fun ι => nI (p ι))), (zb, ia G 16 bk)] (fun vv ww => vv = some (.int (bI (otherB w p))) ∧ ww = [(md, .inr (9, [.int (nI W), .int (nI H), .int t, .int (nI m), .int (nI k), .ref zc, .ref zr, .ref zb, .ref z1, .ref z2, .ref z3, .ref z4, .ref z5, .ref zm, .ref zmr, .ref zmb, .int mt, .ref zca, .ref zcw, .int (nI c), .ref zg, .ref zt, .ref zs, .ref zf, .ref zy, .ref zso, .ref zsf, .ref zsm, .int nt, .int nsh, .ref ztp, .ref zrw, .ref zpp, .int (nI tn), .int (nI pn), .int rdw, .int rdh, .ref zsz, .ref zit, .ref zk, .int (bI itk)])), (zr, ia G 16 (fun ι => nI (wrd w ι))), (zb, ia G 16 (fun ι => nI (wrd w ι)))]) := by
  refine CT.of (lv := [(0, .ref md), (1, .int (nI w))]) RX9 "rule" rfl rfl (by decide +kernel) (Nat.le_of_ble_eq_true rfl) rfl (fun X hX hR => ?_)
  refine j_iload_n (pc := 0) hX dX9_rule_0 1 rfl ?_
  refine j_i2l (pc := 1) hX dX9_rule_1 ?_
  refine j_lconst (pc := 2) (v := 0) hX dX9_rule_2 (by decide) ?_
  refine j_ldc2 (pc := 3) (v := (4)) hX k_RX9_119 dX9_rule_3 ?_
  refine j_callS (pc := 6) hX kX9_isIn kSX9_isIn l_RX9_105 (fun l => c_X9_isIn G ((nI w).toInt64) 0 (4) (rngB (nI w) (0) (4)) (inL_of (toL _) (show ((0) : Int64).toInt = 0 from by decide) (show ((4) : Int64).toInt = 4 from by decide)) l) [] [0, 1, 2] [] rfl rfl rfl rfl ⟨rfl, rfl, by decide⟩ rfl rfl (Nat.le_of_ble_eq_true rfl) dX9_rule_6 (fun v w hq => ?_)
  obtain ⟨rfl, rfl⟩ := hq
  refine j_ws [0, 1, 2] (ws' := [(md, .inr (9, [.int (nI W), .int (nI H), .int t, .int (nI m), .int (nI k), .ref zc, .ref zr, .ref zb, .ref z1, .ref z2, .ref z3, .ref z4, .ref z5, .ref zm, .ref zmr, .ref zmb, .int mt, .ref zca, .ref zcw, .int (nI c), .ref zg, .ref zt, .ref zs, .ref zf, .ref zy, .ref zso, .ref zsf, .ref zsm, .int nt, .int nsh, .ref ztp, .ref zrw, .ref zpp, .int (nI tn), .int (nI pn), .int rdw, .int rdh, .ref zsz, .ref zit, .ref zk, .int (bI itk)])), (zr, ia G 16 (fun ι => nI (p ι))), (zb, ia G 16 bk)]) rfl rfl ?_
  refine j_ifB_ne (pc := 9) (tgt := 14) hX dX9_rule_9 (by decide) (fun c9 => ?_) (fun c9 => by rw [rng_t (x := nI w) (A := 0) (B := 4) (by rw [nI_toInt (by omega)]; omega)] at c9; cases c9)
  refine j_iload_n (pc := 14) hX dX9_rule_14 1 rfl ?_
  refine j_aload_n (pc := 15) hX dX9_rule_15 0 rfl ?_
  refine j_get (pc := 16) hX f_RX9_25 0 rfl rfl dX9_rule_16 ?_
  refine j_callS (pc := 19) hX kX9_ruleOf kSX9_ruleOf l_RX9_101 (fun l => c_X9_ruleOf G w zb bk (by omega) l) [2] [0, 1] [] rfl rfl rfl rfl ⟨rfl, rfl, by decide⟩ rfl rfl (Nat.le_of_ble_eq_true rfl) dX9_rule_19 (fun v w hq => ?_)
  obtain ⟨rfl, rfl⟩ := hq
  refine j_ws [0, 1, 2] (ws' := [(md, .inr (9, [.int (nI W), .int (nI H), .int t, .int (nI m), .int (nI k), .ref zc, .ref zr, .ref zb, .ref z1, .ref z2, .ref z3, .ref z4, .ref z5, .ref zm, .ref zmr, .ref zmb, .int mt, .ref zca, .ref zcw, .int (nI c), .ref zg, .ref zt, .ref zs, .ref zf, .ref zy, .ref zso, .ref zsf, .ref zsm, .int nt, .int nsh, .ref ztp, .ref zrw, .ref zpp, .int (nI tn), .int (nI pn), .int rdw, .int rdh, .ref zsz, .ref zit, .ref zk, .int (bI itk)])), (zr, ia G 16 (fun ι => nI (p ι))), (zb, ia G 16 (fun ι => nI (wrd w ι)))]) rfl rfl ?_
  refine j_iconstN (pc := 22) (j := 0) hX dX9_rule_22 rfl ?_
  refine j_istore_n (pc := 23) (lv' := [(2, .int (nI 0)), (0, .ref md), (1, .int (nI w))]) hX dX9_rule_23 (by decide) rfl ?_
  refine j_iconstN (pc := 24) (j := 0) hX dX9_rule_24 rfl ?_
  refine j_istore_n (pc := 25) (lv' := [(3, .int (nI 0)), (2, .int (nI 0)), (0, .ref md), (1, .int (nI w))]) hX dX9_rule_25 (by decide) rfl ?_
  have L26 : ∀ (m26 : Nat) (k_ : Nat) (o : Bool) (p2 : Nat → Nat) (hk : k_ ≤ 16) (ho : o = anyB k_ (fun s => decide (wrd w s ≠ p s))) (h1 : ∀ s, s < k_ → p2 s = wrd w s) (h2 : ∀ s, k_ ≤ s → p2 s = p s), 16 - k_ < m26 → J X G 4 0 0 [(md, .inr (9, [.int (nI W), .int (nI H), .int t, .int (nI m), .int (nI k), .ref zc, .ref zr, .ref zb, .ref z1, .ref z2, .ref z3, .ref z4, .ref z5, .ref zm, .ref zmr, .ref zmb, .int mt, .ref zca, .ref zcw, .int (nI c), .ref zg, .ref zt, .ref zs, .ref zf, .ref zy, .ref zso, .ref zsf, .ref zsm, .int nt, .int nsh, .ref ztp, .ref zrw, .ref zpp, .int (nI tn), .int (nI pn), .int rdw, .int rdh, .ref zsz, .ref zit, .ref zk, .int (bI itk)])), (zr, ia G 16 (fun ι => nI (p2 ι))), (zb, ia G 16 (fun ι => nI (wrd w ι)))] [(0, .ref md), (1, .int (nI w)), (2, .int (bI o)), (3, .int (nI k_))] 26 [] := by
    intro m26
    induction m26 with
    | zero => intro k_ o p2 hk ho h1 h2 hm26; exact absurd hm26 (Nat.not_lt_zero _)
    | succ m26 ih26 =>
      intro k_ o p2 hk ho h1 h2 hm26
      refine j_iload_n (pc := 26) hX dX9_rule_26 3 rfl ?_
      refine j_bipush (pc := 27) (v := nI 16) hX dX9_rule_27 (by decide) ?_
      refine j_icmp_ge (pc := 29) (tgt := 73) hX dX9_rule_29 (by decide) (nI_toInt (n := k_) (by omega)) (nI_toInt (n := 16) (by decide)) (fun c29 => ?_) (fun c29 => ?_)
      · skip
        refine j_iload_n (pc := 73) hX dX9_rule_73 2 rfl ?_
        refine j_ifB_eq (pc := 74) (tgt := 81) hX dX9_rule_74 (by decide) (fun c74 => ?_) (fun c74 => ?_)
        · skip
          refine j_iconstN (pc := 81) (j := 0) hX dX9_rule_81 rfl ?_
          refine j_ia (q0 := 1) (f := fun ι => nI (p2 ι)) (g := fun ι => nI (wrd w ι)) rfl (fun z hz => by show nI (p2 z) = nI (wrd w z); rw [h1 z (by omega)]) (ws' := [(md, .inr (9, [.int (nI W), .int (nI H), .int t, .int (nI m), .int (nI k), .ref zc, .ref zr, .ref zb, .ref z1, .ref z2, .ref z3, .ref z4, .ref z5, .ref zm, .ref zmr, .ref zmb, .int mt, .ref zca, .ref zcw, .int (nI c), .ref zg, .ref zt, .ref zs, .ref zf, .ref zy, .ref zso, .ref zsf, .ref zsm, .int nt, .int nsh, .ref ztp, .ref zrw, .ref zpp, .int (nI tn), .int (nI pn), .int rdw, .int rdh, .ref zsz, .ref zit, .ref zk, .int (bI itk)])), (zr, ia G 16 (fun ι => nI (wrd w ι))), (zb, ia G 16 (fun ι => nI (wrd w ι)))]) rfl ?_
          exact j_iret (pc := 82) hX hR dX9_rule_82 ⟨congrArg some (show Value.int (nI 0) = Value.int (bI (otherB w p)) from by first | exact bI_tt (by rw [← c74, ho, show k_ = 16 from by omega]; rfl) | exact bI_ff (by rw [← c74, ho, show k_ = 16 from by omega]; rfl)), rfl⟩
        · skip
          refine j_iconstN (pc := 77) (j := 1) hX dX9_rule_77 rfl ?_
          refine j_goto (pc := 78) (tgt := 82) hX dX9_rule_78 (by decide) ?_
          refine j_ia (q0 := 1) (f := fun ι => nI (p2 ι)) (g := fun ι => nI (wrd w ι)) rfl (fun z hz => by show nI (p2 z) = nI (wrd w z); rw [h1 z (by omega)]) (ws' := [(md, .inr (9, [.int (nI W), .int (nI H), .int t, .int (nI m), .int (nI k), .ref zc, .ref zr, .ref zb, .ref z1, .ref z2, .ref z3, .ref z4, .ref z5, .ref zm, .ref zmr, .ref zmb, .int mt, .ref zca, .ref zcw, .int (nI c), .ref zg, .ref zt, .ref zs, .ref zf, .ref zy, .ref zso, .ref zsf, .ref zsm, .int nt, .int nsh, .ref ztp, .ref zrw, .ref zpp, .int (nI tn), .int (nI pn), .int rdw, .int rdh, .ref zsz, .ref zit, .ref zk, .int (bI itk)])), (zr, ia G 16 (fun ι => nI (wrd w ι))), (zb, ia G 16 (fun ι => nI (wrd w ι)))]) rfl ?_
          exact j_iret (pc := 82) hX hR dX9_rule_82 ⟨congrArg some (show Value.int (nI 1) = Value.int (bI (otherB w p)) from by first | exact bI_tt (by rw [← c74, ho, show k_ = 16 from by omega]; rfl) | exact bI_ff (by rw [← c74, ho, show k_ = 16 from by omega]; rfl)), rfl⟩
      · skip
        refine j_iload_n (pc := 32) hX dX9_rule_32 2 rfl ?_
        have b1 := (wrd_all w hw k_ (by omega)).1
        have b2 : p2 k_ < 16 := by rw [h2 k_ (Nat.le_refl k_)]; exact hp k_ (by omega)
        refine j_aload_n (pc := 33) hX dX9_rule_33 0 rfl ?_
        refine j_get (pc := 34) hX f_RX9_25 0 rfl rfl dX9_rule_34 ?_
        refine j_iload_n (pc := 37) hX dX9_rule_37 3 rfl ?_
        refine j_ialdN (pc := 38) (j := k_) hX 2 rfl (by omega) (by omega) dX9_rule_38 ?_
        refine j_aload_n (pc := 39) hX dX9_rule_39 0 rfl ?_
        refine j_get (pc := 40) hX f_RX9_22 0 rfl rfl dX9_rule_40 ?_
        refine j_iload_n (pc := 43) hX dX9_rule_43 3 rfl ?_
        refine j_ialdN (pc := 44) (j := k_) hX 1 rfl (by omega) (by omega) dX9_rule_44 ?_
        refine j_icmp_eq (pc := 45) (tgt := 52) hX dX9_rule_45 (by decide) (nI_toInt (n := wrd w k_) (by omega)) (nI_toInt (n := p2 k_) (by omega)) (fun c45 => ?_) (fun c45 => ?_)
        · skip
          refine j_iconstN (pc := 52) (j := 0) hX dX9_rule_52 rfl ?_
          refine j_ior (pc := 53) hX dX9_rule_53 ?_
          refine j_topi (y := bI o) (bor0 _) ?_
          refine j_istore_n (pc := 54) (lv' := [(2, .int (bI o)), (0, .ref md), (1, .int (nI w)), (3, .int (nI k_))]) hX dX9_rule_54 (by decide) rfl ?_
          refine j_aload_n (pc := 55) hX dX9_rule_55 1 rfl ?_
          refine j_get (pc := 56) hX f_RX9_22 0 rfl rfl dX9_rule_56 ?_
          refine j_iload_n (pc := 59) hX dX9_rule_59 3 rfl ?_
          refine j_aload_n (pc := 60) hX dX9_rule_60 1 rfl ?_
          refine j_get (pc := 61) hX f_RX9_25 0 rfl rfl dX9_rule_61 ?_
          refine j_iload_n (pc := 64) hX dX9_rule_64 3 rfl ?_
          refine j_ialdN (pc := 65) (j := k_) hX 2 rfl (by omega) (by omega) dX9_rule_65 ?_
          refine j_iastN (pc := 66) (j := k_) (ws' := [(md, .inr (9, [.int (nI W), .int (nI H), .int t, .int (nI m), .int (nI k), .ref zc, .ref zr, .ref zb, .ref z1, .ref z2, .ref z3, .ref z4, .ref z5, .ref zm, .ref zmr, .ref zmb, .int mt, .ref zca, .ref zcw, .int (nI c), .ref zg, .ref zt, .ref zs, .ref zf, .ref zy, .ref zso, .ref zsf, .ref zsm, .int nt, .int nsh, .ref ztp, .ref zrw, .ref zpp, .int (nI tn), .int (nI pn), .int rdw, .int rdh, .ref zsz, .ref zit, .ref zk, .int (bI itk)])), (zr, ia G 16 (upd (fun ι => nI (p2 ι)) k_ (nI (wrd w k_)))), (zb, ia G 16 (fun ι => nI (wrd w ι)))]) hX 1 rfl (by omega) (by omega) rfl dX9_rule_66 ?_
          refine j_ia (q0 := 1) (f := upd (fun ι => nI (p2 ι)) k_ (nI (wrd w k_))) (g := fun ι => nI (updN p2 k_ (wrd w k_) ι)) rfl (fun z hz => by exact updNI) (ws' := [(md, .inr (9, [.int (nI W), .int (nI H), .int t, .int (nI m), .int (nI k), .ref zc, .ref zr, .ref zb, .ref z1, .ref z2, .ref z3, .ref z4, .ref z5, .ref zm, .ref zmr, .ref zmb, .int mt, .ref zca, .ref zcw, .int (nI c), .ref zg, .ref zt, .ref zs, .ref zf, .ref zy, .ref zso, .ref zsf, .ref zsm, .int nt, .int nsh, .ref ztp, .ref zrw, .ref zpp, .int (nI tn), .int (nI pn), .int rdw, .int rdh, .ref zsz, .ref zit, .ref zk, .int (bI itk)])), (zr, ia G 16 (fun ι => nI (updN p2 k_ (wrd w k_) ι))), (zb, ia G 16 (fun ι => nI (wrd w ι)))]) rfl ?_
          refine j_iinc (pc := 67) (q := 3) (v := nI (k_ + 1)) (lv' := [(3, .int (nI (k_ + 1))), (2, .int (bI o)), (0, .ref md), (1, .int (nI w))]) hX dX9_rule_67 rfl (nI_inc _ 1) (by decide) rfl ?_
          refine j_goto (pc := 70) (tgt := 26) hX dX9_rule_70 (by decide) ?_
          refine j_ia (q0 := 1) (f := fun ι => nI (updN p2 k_ (wrd w k_) ι)) (g := fun ι => nI ((updN p2 k_ (wrd w k_)) ι)) rfl (fun z hz => by rfl) (ws' := [(md, .inr (9, [.int (nI W), .int (nI H), .int t, .int (nI m), .int (nI k), .ref zc, .ref zr, .ref zb, .ref z1, .ref z2, .ref z3, .ref z4, .ref z5, .ref zm, .ref zmr, .ref zmb, .int mt, .ref zca, .ref zcw, .int (nI c), .ref zg, .ref zt, .ref zs, .ref zf, .ref zy, .ref zso, .ref zsf, .ref zsm, .int nt, .int nsh, .ref ztp, .ref zrw, .ref zpp, .int (nI tn), .int (nI pn), .int rdw, .int rdh, .ref zsz, .ref zit, .ref zk, .int (bI itk)])), (zr, ia G 16 (fun ι => nI ((updN p2 k_ (wrd w k_)) ι))), (zb, ia G 16 (fun ι => nI (wrd w ι)))]) rfl ?_
          refine j_lv [2, 3, 1, 0] (lv' := [(0, .ref md), (1, .int (nI w)), (2, .int (bI o)), (3, .int (nI (k_ + 1)))]) rfl ?_
          exact ih26 (k_ + 1) o (updN p2 k_ (wrd w k_)) (by omega) (by first | (rw [anyB, ← ho, decide_eq_false (fun hh => hh (by have := h2 k_ (Nat.le_refl k_); omega)), Bool.or_false]; done) | (rw [anyB, decide_eq_true (by have := h2 k_ (Nat.le_refl k_); omega), Bool.or_true]; done)) (updN_lt h1) (updN_ge h2) (by omega)
        · skip
          refine j_iconstN (pc := 48) (j := 1) hX dX9_rule_48 rfl ?_
          refine j_goto (pc := 49) (tgt := 53) hX dX9_rule_49 (by decide) ?_
          refine j_ior (pc := 53) hX dX9_rule_53 ?_
          refine j_topi (y := bI true) (bor1 _) ?_
          refine j_istore_n (pc := 54) (lv' := [(2, .int (bI true)), (0, .ref md), (1, .int (nI w)), (3, .int (nI k_))]) hX dX9_rule_54 (by decide) rfl ?_
          refine j_aload_n (pc := 55) hX dX9_rule_55 1 rfl ?_
          refine j_get (pc := 56) hX f_RX9_22 0 rfl rfl dX9_rule_56 ?_
          refine j_iload_n (pc := 59) hX dX9_rule_59 3 rfl ?_
          refine j_aload_n (pc := 60) hX dX9_rule_60 1 rfl ?_
          refine j_get (pc := 61) hX f_RX9_25 0 rfl rfl dX9_rule_61 ?_
          refine j_iload_n (pc := 64) hX dX9_rule_64 3 rfl ?_
          refine j_ialdN (pc := 65) (j := k_) hX 2 rfl (by omega) (by omega) dX9_rule_65 ?_
          refine j_iastN (pc := 66) (j := k_) (ws' := [(md, .inr (9, [.int (nI W), .int (nI H), .int t, .int (nI m), .int (nI k), .ref zc, .ref zr, .ref zb, .ref z1, .ref z2, .ref z3, .ref z4, .ref z5, .ref zm, .ref zmr, .ref zmb, .int mt, .ref zca, .ref zcw, .int (nI c), .ref zg, .ref zt, .ref zs, .ref zf, .ref zy, .ref zso, .ref zsf, .ref zsm, .int nt, .int nsh, .ref ztp, .ref zrw, .ref zpp, .int (nI tn), .int (nI pn), .int rdw, .int rdh, .ref zsz, .ref zit, .ref zk, .int (bI itk)])), (zr, ia G 16 (upd (fun ι => nI (p2 ι)) k_ (nI (wrd w k_)))), (zb, ia G 16 (fun ι => nI (wrd w ι)))]) hX 1 rfl (by omega) (by omega) rfl dX9_rule_66 ?_
          refine j_ia (q0 := 1) (f := upd (fun ι => nI (p2 ι)) k_ (nI (wrd w k_))) (g := fun ι => nI (updN p2 k_ (wrd w k_) ι)) rfl (fun z hz => by exact updNI) (ws' := [(md, .inr (9, [.int (nI W), .int (nI H), .int t, .int (nI m), .int (nI k), .ref zc, .ref zr, .ref zb, .ref z1, .ref z2, .ref z3, .ref z4, .ref z5, .ref zm, .ref zmr, .ref zmb, .int mt, .ref zca, .ref zcw, .int (nI c), .ref zg, .ref zt, .ref zs, .ref zf, .ref zy, .ref zso, .ref zsf, .ref zsm, .int nt, .int nsh, .ref ztp, .ref zrw, .ref zpp, .int (nI tn), .int (nI pn), .int rdw, .int rdh, .ref zsz, .ref zit, .ref zk, .int (bI itk)])), (zr, ia G 16 (fun ι => nI (updN p2 k_ (wrd w k_) ι))), (zb, ia G 16 (fun ι => nI (wrd w ι)))]) rfl ?_
          refine j_iinc (pc := 67) (q := 3) (v := nI (k_ + 1)) (lv' := [(3, .int (nI (k_ + 1))), (2, .int (bI true)), (0, .ref md), (1, .int (nI w))]) hX dX9_rule_67 rfl (nI_inc _ 1) (by decide) rfl ?_
          refine j_goto (pc := 70) (tgt := 26) hX dX9_rule_70 (by decide) ?_
          refine j_ia (q0 := 1) (f := fun ι => nI (updN p2 k_ (wrd w k_) ι)) (g := fun ι => nI ((updN p2 k_ (wrd w k_)) ι)) rfl (fun z hz => by rfl) (ws' := [(md, .inr (9, [.int (nI W), .int (nI H), .int t, .int (nI m), .int (nI k), .ref zc, .ref zr, .ref zb, .ref z1, .ref z2, .ref z3, .ref z4, .ref z5, .ref zm, .ref zmr, .ref zmb, .int mt, .ref zca, .ref zcw, .int (nI c), .ref zg, .ref zt, .ref zs, .ref zf, .ref zy, .ref zso, .ref zsf, .ref zsm, .int nt, .int nsh, .ref ztp, .ref zrw, .ref zpp, .int (nI tn), .int (nI pn), .int rdw, .int rdh, .ref zsz, .ref zit, .ref zk, .int (bI itk)])), (zr, ia G 16 (fun ι => nI ((updN p2 k_ (wrd w k_)) ι))), (zb, ia G 16 (fun ι => nI (wrd w ι)))]) rfl ?_
          refine j_lv [2, 3, 1, 0] (lv' := [(0, .ref md), (1, .int (nI w)), (2, .int (bI true)), (3, .int (nI (k_ + 1)))]) rfl ?_
          exact ih26 (k_ + 1) true (updN p2 k_ (wrd w k_)) (by omega) (by first | (rw [anyB, ← ho, decide_eq_false (fun hh => hh (by have := h2 k_ (Nat.le_refl k_); omega)), Bool.or_false]; done) | (rw [anyB, decide_eq_true (by have := h2 k_ (Nat.le_refl k_); omega), Bool.or_true]; done)) (updN_lt h1) (updN_ge h2) (by omega)
  refine j_lv [2, 3, 1, 0] (lv' := [(0, .ref md), (1, .int (nI w)), (2, .int (bI false)), (3, .int (nI 0))]) rfl ?_
  exact L26 ((16 - 0) + 1) 0 false p (by omega) (rfl) (fun z hz => absurd hz (Nat.not_lt_zero _)) (fun _ _ => rfl) (Nat.lt_succ_self _)
set_option maxHeartbeats 4000000 in
set_option maxRecDepth 100000 in
theorem c_X9_rule_bad (G : GT) (md : Nat) (W : Nat) (H : Nat) (t : Int32) (m : Nat) (k : Nat) (zc : Nat) (zr : Nat) (zb : Nat) (z1 : Nat) (z2 : Nat) (z3 : Nat) (z4 : Nat) (z5 : Nat) (zm : Nat) (zmr : Nat) (zmb : Nat) (mt : Int32) (zca : Nat) (zcw : Nat) (c : Nat) (zg : Nat) (zt : Nat) (zs : Nat) (zf : Nat) (zy : Nat) (zso : Nat) (zsf : Nat) (zsm : Nat) (nt : Int32) (nsh : Int32) (ztp : Nat) (zrw : Nat) (zpp : Nat) (tn : Nat) (pn : Nat) (rdw : Int32) (rdh : Int32) (zsz : Nat) (zit : Nat) (zk : Nat) (itk : Bool) (w : Int32) (hb : w.toInt < 0 ∨ 5 ≤ w.toInt) (l : Launch) : CT l G yX9_rule cX9_rule 4 (some .int) { frames := 3, cells := 0, slots := 0, locals := 64 } [.ref md, .int w] [(md, .inr (9, [.int (nI W), .int (nI H), .int t, .int (nI m), .int (nI k), .ref zc, .ref zr, .ref zb, .ref z1, .ref z2, .ref z3, .ref z4, .ref z5, .ref zm, .ref zmr, .ref zmb, .int mt, .ref zca, .ref zcw, .int (nI c), .ref zg, .ref zt, .ref zs, .ref zf, .ref zy, .ref zso, .ref zsf, .ref zsm, .int nt, .int nsh, .ref ztp, .ref zrw, .ref zpp, .int (nI tn), .int (nI pn), .int rdw, .int rdh, .ref zsz, .ref zit, .ref zk, .int (bI itk)]))] (fun vv ww => vv = some (.int (-1)) ∧ ww = [(md, .inr (9, [.int (nI W), .int (nI H), .int t, .int (nI m), .int (nI k), .ref zc, .ref zr, .ref zb, .ref z1, .ref z2, .ref z3, .ref z4, .ref z5, .ref zm, .ref zmr, .ref zmb, .int mt, .ref zca, .ref zcw, .int (nI c), .ref zg, .ref zt, .ref zs, .ref zf, .ref zy, .ref zso, .ref zsf, .ref zsm, .int nt, .int nsh, .ref ztp, .ref zrw, .ref zpp, .int (nI tn), .int (nI pn), .int rdw, .int rdh, .ref zsz, .ref zit, .ref zk, .int (bI itk)]))]) := by
  refine CT.of (lv := [(0, .ref md), (1, .int w)]) RX9 "rule" rfl rfl (by decide +kernel) (Nat.le_of_ble_eq_true rfl) rfl (fun X hX hR => ?_)
  refine j_iload_n (pc := 0) hX dX9_rule_0 1 rfl ?_
  refine j_i2l (pc := 1) hX dX9_rule_1 ?_
  refine j_lconst (pc := 2) (v := 0) hX dX9_rule_2 (by decide) ?_
  refine j_ldc2 (pc := 3) (v := (4)) hX k_RX9_119 dX9_rule_3 ?_
  refine j_callS (pc := 6) hX kX9_isIn kSX9_isIn l_RX9_105 (fun l => c_X9_isIn G w.toInt64 0 (4) (rngB w (0) (4)) (inL_of (toL _) (show ((0) : Int64).toInt = 0 from by decide) (show ((4) : Int64).toInt = 4 from by decide)) l) [] [0] [] rfl rfl rfl rfl ⟨rfl, rfl, by decide⟩ rfl rfl (Nat.le_of_ble_eq_true rfl) dX9_rule_6 (fun v w hq => ?_)
  obtain ⟨rfl, rfl⟩ := hq
  refine j_ws [0] (ws' := [(md, .inr (9, [.int (nI W), .int (nI H), .int t, .int (nI m), .int (nI k), .ref zc, .ref zr, .ref zb, .ref z1, .ref z2, .ref z3, .ref z4, .ref z5, .ref zm, .ref zmr, .ref zmb, .int mt, .ref zca, .ref zcw, .int (nI c), .ref zg, .ref zt, .ref zs, .ref zf, .ref zy, .ref zso, .ref zsf, .ref zsm, .int nt, .int nsh, .ref ztp, .ref zrw, .ref zpp, .int (nI tn), .int (nI pn), .int rdw, .int rdh, .ref zsz, .ref zit, .ref zk, .int (bI itk)]))]) rfl rfl ?_
  refine j_ifB_ne (pc := 9) (tgt := 14) hX dX9_rule_9 (by decide) (fun c9 => by exfalso; have := of_decide_eq_true c9; omega) (fun c9 => ?_)
  refine j_iconst (pc := 12) (v := (-1)) hX dX9_rule_12 (by decide) ?_
  exact j_iret (pc := 13) hX hR dX9_rule_13 ⟨rfl, rfl⟩
set_option maxHeartbeats 4000000 in
set_option maxRecDepth 100000 in
theorem c_X9_change_ok (G : GT) (md : Nat) (W : Nat) (H : Nat) (t : Int32) (m : Nat) (k : Nat) (zc : Nat) (zr : Nat) (zb : Nat) (z1 : Nat) (z2 : Nat) (z3 : Nat) (z4 : Nat) (z5 : Nat) (zm : Nat) (zmr : Nat) (zmb : Nat) (mt : Int32) (zca : Nat) (zcw : Nat) (c : Nat) (zg : Nat) (zt : Nat) (zs : Nat) (zf : Nat) (zy : Nat) (zso : Nat) (zsf : Nat) (zsm : Nat) (nt : Int32) (nsh : Int32) (ztp : Nat) (zrw : Nat) (zpp : Nat) (tn : Nat) (pn : Nat) (rdw : Int32) (rdh : Int32) (zsz : Nat) (zit : Nat) (zk : Nat) (itk : Bool) (p : Nat → Nat) (i j : Nat) (hi : i < 16) (hj : j < 16) (hij : i ≠ j) (l : Launch) : CT l G yX9_change cX9_change 4 (some .int) { frames := 1, cells := 0, slots := 0, locals := 25 } [.ref md, .int (nI i), .int (nI j)] [(md, .inr (9, [.int (nI W), .int (nI H), .int t, .int (nI m), .int (nI k), .ref zc, .ref zr, .ref zb, .ref z1, .ref z2, .ref z3, .ref z4, .ref z5, .ref zm, .ref zmr, .ref zmb, .int mt, .ref zca, .ref zcw, .int (nI c), .ref zg, .ref zt, .ref zs, .ref zf, .ref zy, .ref zso, .ref zsf, .ref zsm, .int nt, .int nsh, .ref ztp, .ref zrw, .ref zpp, .int (nI tn), .int (nI pn), .int rdw, .int rdh, .ref zsz, .ref zit, .ref zk, .int (bI itk)])), (zr, ia G 16 (fun ι => nI (p ι)))] (fun vv ww => vv = some (.int (nI (updN (updN p i (p j)) j (p i) i))) ∧ ww = [(md, .inr (9, [.int (nI W), .int (nI H), .int t, .int (nI m), .int (nI k), .ref zc, .ref zr, .ref zb, .ref z1, .ref z2, .ref z3, .ref z4, .ref z5, .ref zm, .ref zmr, .ref zmb, .int mt, .ref zca, .ref zcw, .int (nI c), .ref zg, .ref zt, .ref zs, .ref zf, .ref zy, .ref zso, .ref zsf, .ref zsm, .int nt, .int nsh, .ref ztp, .ref zrw, .ref zpp, .int (nI tn), .int (nI pn), .int rdw, .int rdh, .ref zsz, .ref zit, .ref zk, .int (bI itk)])), (zr, ia G 16 (fun ι => nI (updN (updN p i (p j)) j (p i) ι)))]) := by
  refine CT.of (lv := [(0, .ref md), (1, .int (nI i)), (2, .int (nI j))]) RX9 "change" rfl rfl (by decide +kernel) (Nat.le_of_ble_eq_true rfl) rfl (fun X hX hR => ?_)
  refine j_iload_n (pc := 0) hX dX9_change_0 1 rfl ?_
  refine j_i2l (pc := 1) hX dX9_change_1 ?_
  refine j_lconst (pc := 2) (v := 0) hX dX9_change_2 (by decide) ?_
  refine j_ldc2 (pc := 3) (v := (15)) hX k_RX9_121 dX9_change_3 ?_
  refine j_callS (pc := 6) hX kX9_isIn kSX9_isIn l_RX9_105 (fun l => c_X9_isIn G ((nI i).toInt64) 0 (15) (rngB (nI i) (0) (15)) (inL_of (toL _) (show ((0) : Int64).toInt = 0 from by decide) (show ((15) : Int64).toInt = 15 from by decide)) l) [] [0, 1] [] rfl rfl rfl rfl ⟨rfl, rfl, by decide⟩ rfl rfl (Nat.le_of_ble_eq_true rfl) dX9_change_6 (fun v w hq => ?_)
  obtain ⟨rfl, rfl⟩ := hq
  refine j_ws [0, 1] (ws' := [(md, .inr (9, [.int (nI W), .int (nI H), .int t, .int (nI m), .int (nI k), .ref zc, .ref zr, .ref zb, .ref z1, .ref z2, .ref z3, .ref z4, .ref z5, .ref zm, .ref zmr, .ref zmb, .int mt, .ref zca, .ref zcw, .int (nI c), .ref zg, .ref zt, .ref zs, .ref zf, .ref zy, .ref zso, .ref zsf, .ref zsm, .int nt, .int nsh, .ref ztp, .ref zrw, .ref zpp, .int (nI tn), .int (nI pn), .int rdw, .int rdh, .ref zsz, .ref zit, .ref zk, .int (bI itk)])), (zr, ia G 16 (fun ι => nI (p ι)))]) rfl rfl ?_
  refine j_ifB_eq (pc := 9) (tgt := 29) hX dX9_change_9 (by decide) (fun c9 => by rw [rng_t (x := nI i) (A := 0) (B := 15) (by rw [nI_toInt (by omega)]; omega)] at c9; cases c9) (fun c9 => ?_)
  refine j_iload_n (pc := 12) hX dX9_change_12 2 rfl ?_
  refine j_i2l (pc := 13) hX dX9_change_13 ?_
  refine j_lconst (pc := 14) (v := 0) hX dX9_change_14 (by decide) ?_
  refine j_ldc2 (pc := 15) (v := (15)) hX k_RX9_121 dX9_change_15 ?_
  refine j_callS (pc := 18) hX kX9_isIn kSX9_isIn l_RX9_105 (fun l => c_X9_isIn G ((nI j).toInt64) 0 (15) (rngB (nI j) (0) (15)) (inL_of (toL _) (show ((0) : Int64).toInt = 0 from by decide) (show ((15) : Int64).toInt = 15 from by decide)) l) [] [0, 1] [] rfl rfl rfl rfl ⟨rfl, rfl, by decide⟩ rfl rfl (Nat.le_of_ble_eq_true rfl) dX9_change_18 (fun v w hq => ?_)
  obtain ⟨rfl, rfl⟩ := hq
  refine j_ws [0, 1] (ws' := [(md, .inr (9, [.int (nI W), .int (nI H), .int t, .int (nI m), .int (nI k), .ref zc, .ref zr, .ref zb, .ref z1, .ref z2, .ref z3, .ref z4, .ref z5, .ref zm, .ref zmr, .ref zmb, .int mt, .ref zca, .ref zcw, .int (nI c), .ref zg, .ref zt, .ref zs, .ref zf, .ref zy, .ref zso, .ref zsf, .ref zsm, .int nt, .int nsh, .ref ztp, .ref zrw, .ref zpp, .int (nI tn), .int (nI pn), .int rdw, .int rdh, .ref zsz, .ref zit, .ref zk, .int (bI itk)])), (zr, ia G 16 (fun ι => nI (p ι)))]) rfl rfl ?_
  refine j_ifB_eq (pc := 21) (tgt := 29) hX dX9_change_21 (by decide) (fun c21 => by rw [rng_t (x := nI j) (A := 0) (B := 15) (by rw [nI_toInt (by omega)]; omega)] at c21; cases c21) (fun c21 => ?_)
  refine j_iload_n (pc := 24) hX dX9_change_24 1 rfl ?_
  refine j_iload_n (pc := 25) hX dX9_change_25 2 rfl ?_
  refine j_icmp_ne (pc := 26) (tgt := 31) hX dX9_change_26 (by decide) (nI_toInt (n := i) (by omega)) (nI_toInt (n := j) (by omega)) (fun c26 => ?_) (fun c26 => by exfalso; omega)
  refine j_aload_n (pc := 31) hX dX9_change_31 0 rfl ?_
  refine j_get (pc := 32) hX f_RX9_22 0 rfl rfl dX9_change_32 ?_
  refine j_iload_n (pc := 35) hX dX9_change_35 1 rfl ?_
  refine j_ialdN (pc := 36) (j := i) hX 1 rfl (by omega) (by omega) dX9_change_36 ?_
  refine j_istore_n (pc := 37) (lv' := [(3, .int (nI (p i))), (0, .ref md), (1, .int (nI i)), (2, .int (nI j))]) hX dX9_change_37 (by decide) rfl ?_
  refine j_aload_n (pc := 38) hX dX9_change_38 1 rfl ?_
  refine j_get (pc := 39) hX f_RX9_22 0 rfl rfl dX9_change_39 ?_
  refine j_iload_n (pc := 42) hX dX9_change_42 2 rfl ?_
  refine j_aload_n (pc := 43) hX dX9_change_43 1 rfl ?_
  refine j_get (pc := 44) hX f_RX9_22 0 rfl rfl dX9_change_44 ?_
  refine j_iload_n (pc := 47) hX dX9_change_47 3 rfl ?_
  refine j_ialdN (pc := 48) (j := j) hX 1 rfl (by omega) (by omega) dX9_change_48 ?_
  refine j_iastN (pc := 49) (j := i) (ws' := [(md, .inr (9, [.int (nI W), .int (nI H), .int t, .int (nI m), .int (nI k), .ref zc, .ref zr, .ref zb, .ref z1, .ref z2, .ref z3, .ref z4, .ref z5, .ref zm, .ref zmr, .ref zmb, .int mt, .ref zca, .ref zcw, .int (nI c), .ref zg, .ref zt, .ref zs, .ref zf, .ref zy, .ref zso, .ref zsf, .ref zsm, .int nt, .int nsh, .ref ztp, .ref zrw, .ref zpp, .int (nI tn), .int (nI pn), .int rdw, .int rdh, .ref zsz, .ref zit, .ref zk, .int (bI itk)])), (zr, ia G 16 (upd (fun ι => nI (p ι)) i (nI (p j))))]) hX 1 rfl (by omega) (by omega) rfl dX9_change_49 ?_
  refine j_ia (q0 := 1) (f := upd (fun ι => nI (p ι)) i (nI (p j))) (g := fun ι => nI (updN p i (p j) ι)) rfl (fun z hz => by exact updNI) (ws' := [(md, .inr (9, [.int (nI W), .int (nI H), .int t, .int (nI m), .int (nI k), .ref zc, .ref zr, .ref zb, .ref z1, .ref z2, .ref z3, .ref z4, .ref z5, .ref zm, .ref zmr, .ref zmb, .int mt, .ref zca, .ref zcw, .int (nI c), .ref zg, .ref zt, .ref zs, .ref zf, .ref zy, .ref zso, .ref zsf, .ref zsm, .int nt, .int nsh, .ref ztp, .ref zrw, .ref zpp, .int (nI tn), .int (nI pn), .int rdw, .int rdh, .ref zsz, .ref zit, .ref zk, .int (bI itk)])), (zr, ia G 16 (fun ι => nI (updN p i (p j) ι)))]) rfl ?_
  refine j_aload_n (pc := 50) hX dX9_change_50 1 rfl ?_
  refine j_get (pc := 51) hX f_RX9_22 0 rfl rfl dX9_change_51 ?_
  refine j_iload_n (pc := 54) hX dX9_change_54 3 rfl ?_
  refine j_iload_n (pc := 55) hX dX9_change_55 0 rfl ?_
  refine j_iastN (pc := 56) (j := j) (ws' := [(md, .inr (9, [.int (nI W), .int (nI H), .int t, .int (nI m), .int (nI k), .ref zc, .ref zr, .ref zb, .ref z1, .ref z2, .ref z3, .ref z4, .ref z5, .ref zm, .ref zmr, .ref zmb, .int mt, .ref zca, .ref zcw, .int (nI c), .ref zg, .ref zt, .ref zs, .ref zf, .ref zy, .ref zso, .ref zsf, .ref zsm, .int nt, .int nsh, .ref ztp, .ref zrw, .ref zpp, .int (nI tn), .int (nI pn), .int rdw, .int rdh, .ref zsz, .ref zit, .ref zk, .int (bI itk)])), (zr, ia G 16 (upd (fun ι => nI (updN p i (p j) ι)) j (nI (p i))))]) hX 1 rfl (by omega) (by omega) rfl dX9_change_56 ?_
  refine j_ia (q0 := 1) (f := upd (fun ι => nI (updN p i (p j) ι)) j (nI (p i))) (g := fun ι => nI (updN (updN p i (p j)) j (p i) ι)) rfl (fun z hz => by exact updNI) (ws' := [(md, .inr (9, [.int (nI W), .int (nI H), .int t, .int (nI m), .int (nI k), .ref zc, .ref zr, .ref zb, .ref z1, .ref z2, .ref z3, .ref z4, .ref z5, .ref zm, .ref zmr, .ref zmb, .int mt, .ref zca, .ref zcw, .int (nI c), .ref zg, .ref zt, .ref zs, .ref zf, .ref zy, .ref zso, .ref zsf, .ref zsm, .int nt, .int nsh, .ref ztp, .ref zrw, .ref zpp, .int (nI tn), .int (nI pn), .int rdw, .int rdh, .ref zsz, .ref zit, .ref zk, .int (bI itk)])), (zr, ia G 16 (fun ι => nI (updN (updN p i (p j)) j (p i) ι)))]) rfl ?_
  refine j_aload_n (pc := 57) hX dX9_change_57 1 rfl ?_
  refine j_get (pc := 58) hX f_RX9_22 0 rfl rfl dX9_change_58 ?_
  refine j_iload_n (pc := 61) hX dX9_change_61 2 rfl ?_
  refine j_ialdN (pc := 62) (j := i) hX 1 rfl (by omega) (by omega) dX9_change_62 ?_
  exact j_iret (pc := 63) hX hR dX9_change_63 ⟨rfl, rfl⟩
set_option maxHeartbeats 4000000 in
set_option maxRecDepth 100000 in
theorem c_X9_change_bad (G : GT) (md : Nat) (W : Nat) (H : Nat) (t : Int32) (m : Nat) (k : Nat) (zc : Nat) (zr : Nat) (zb : Nat) (z1 : Nat) (z2 : Nat) (z3 : Nat) (z4 : Nat) (z5 : Nat) (zm : Nat) (zmr : Nat) (zmb : Nat) (mt : Int32) (zca : Nat) (zcw : Nat) (c : Nat) (zg : Nat) (zt : Nat) (zs : Nat) (zf : Nat) (zy : Nat) (zso : Nat) (zsf : Nat) (zsm : Nat) (nt : Int32) (nsh : Int32) (ztp : Nat) (zrw : Nat) (zpp : Nat) (tn : Nat) (pn : Nat) (rdw : Int32) (rdh : Int32) (zsz : Nat) (zit : Nat) (zk : Nat) (itk : Bool) (i j : Int32) (hb : (rngB i 0 15 && (rngB j 0 15 && decide (i ≠ j))) = false) (l : Launch) : CT l G yX9_change cX9_change 4 (some .int) { frames := 1, cells := 0, slots := 0, locals := 25 } [.ref md, .int i, .int j] [(md, .inr (9, [.int (nI W), .int (nI H), .int t, .int (nI m), .int (nI k), .ref zc, .ref zr, .ref zb, .ref z1, .ref z2, .ref z3, .ref z4, .ref z5, .ref zm, .ref zmr, .ref zmb, .int mt, .ref zca, .ref zcw, .int (nI c), .ref zg, .ref zt, .ref zs, .ref zf, .ref zy, .ref zso, .ref zsf, .ref zsm, .int nt, .int nsh, .ref ztp, .ref zrw, .ref zpp, .int (nI tn), .int (nI pn), .int rdw, .int rdh, .ref zsz, .ref zit, .ref zk, .int (bI itk)]))] (fun vv ww => vv = some (.int (-1)) ∧ ww = [(md, .inr (9, [.int (nI W), .int (nI H), .int t, .int (nI m), .int (nI k), .ref zc, .ref zr, .ref zb, .ref z1, .ref z2, .ref z3, .ref z4, .ref z5, .ref zm, .ref zmr, .ref zmb, .int mt, .ref zca, .ref zcw, .int (nI c), .ref zg, .ref zt, .ref zs, .ref zf, .ref zy, .ref zso, .ref zsf, .ref zsm, .int nt, .int nsh, .ref ztp, .ref zrw, .ref zpp, .int (nI tn), .int (nI pn), .int rdw, .int rdh, .ref zsz, .ref zit, .ref zk, .int (bI itk)]))]) := by
  refine CT.of (lv := [(0, .ref md), (1, .int i), (2, .int j)]) RX9 "change" rfl rfl (by decide +kernel) (Nat.le_of_ble_eq_true rfl) rfl (fun X hX hR => ?_)
  refine j_iload_n (pc := 0) hX dX9_change_0 1 rfl ?_
  refine j_i2l (pc := 1) hX dX9_change_1 ?_
  refine j_lconst (pc := 2) (v := 0) hX dX9_change_2 (by decide) ?_
  refine j_ldc2 (pc := 3) (v := (15)) hX k_RX9_121 dX9_change_3 ?_
  refine j_callS (pc := 6) hX kX9_isIn kSX9_isIn l_RX9_105 (fun l => c_X9_isIn G i.toInt64 0 (15) (rngB i (0) (15)) (inL_of (toL _) (show ((0) : Int64).toInt = 0 from by decide) (show ((15) : Int64).toInt = 15 from by decide)) l) [] [0] [] rfl rfl rfl rfl ⟨rfl, rfl, by decide⟩ rfl rfl (Nat.le_of_ble_eq_true rfl) dX9_change_6 (fun v w hq => ?_)
  obtain ⟨rfl, rfl⟩ := hq
  refine j_ws [0] (ws' := [(md, .inr (9, [.int (nI W), .int (nI H), .int t, .int (nI m), .int (nI k), .ref zc, .ref zr, .ref zb, .ref z1, .ref z2, .ref z3, .ref z4, .ref z5, .ref zm, .ref zmr, .ref zmb, .int mt, .ref zca, .ref zcw, .int (nI c), .ref zg, .ref zt, .ref zs, .ref zf, .ref zy, .ref zso, .ref zsf, .ref zsm, .int nt, .int nsh, .ref ztp, .ref zrw, .ref zpp, .int (nI tn), .int (nI pn), .int rdw, .int rdh, .ref zsz, .ref zit, .ref zk, .int (bI itk)]))]) rfl rfl ?_
  refine j_ifB_eq (pc := 9) (tgt := 29) hX dX9_change_9 (by decide) (fun c9 => ?_) (fun c9 => ?_)
  · skip
    refine j_iconst (pc := 29) (v := (-1)) hX dX9_change_29 (by decide) ?_
    exact j_iret (pc := 30) hX hR dX9_change_30 ⟨rfl, rfl⟩
  · skip
    refine j_iload_n (pc := 12) hX dX9_change_12 2 rfl ?_
    refine j_i2l (pc := 13) hX dX9_change_13 ?_
    refine j_lconst (pc := 14) (v := 0) hX dX9_change_14 (by decide) ?_
    refine j_ldc2 (pc := 15) (v := (15)) hX k_RX9_121 dX9_change_15 ?_
    refine j_callS (pc := 18) hX kX9_isIn kSX9_isIn l_RX9_105 (fun l => c_X9_isIn G j.toInt64 0 (15) (rngB j (0) (15)) (inL_of (toL _) (show ((0) : Int64).toInt = 0 from by decide) (show ((15) : Int64).toInt = 15 from by decide)) l) [] [0] [] rfl rfl rfl rfl ⟨rfl, rfl, by decide⟩ rfl rfl (Nat.le_of_ble_eq_true rfl) dX9_change_18 (fun v w hq => ?_)
    obtain ⟨rfl, rfl⟩ := hq
    refine j_ws [0] (ws' := [(md, .inr (9, [.int (nI W), .int (nI H), .int t, .int (nI m), .int (nI k), .ref zc, .ref zr, .ref zb, .ref z1, .ref z2, .ref z3, .ref z4, .ref z5, .ref zm, .ref zmr, .ref zmb, .int mt, .ref zca, .ref zcw, .int (nI c), .ref zg, .ref zt, .ref zs, .ref zf, .ref zy, .ref zso, .ref zsf, .ref zsm, .int nt, .int nsh, .ref ztp, .ref zrw, .ref zpp, .int (nI tn), .int (nI pn), .int rdw, .int rdh, .ref zsz, .ref zit, .ref zk, .int (bI itk)]))]) rfl rfl ?_
    refine j_ifB_eq (pc := 21) (tgt := 29) hX dX9_change_21 (by decide) (fun c21 => ?_) (fun c21 => ?_)
    · skip
      refine j_iconst (pc := 29) (v := (-1)) hX dX9_change_29 (by decide) ?_
      exact j_iret (pc := 30) hX hR dX9_change_30 ⟨rfl, rfl⟩
    · skip
      refine j_iload_n (pc := 24) hX dX9_change_24 1 rfl ?_
      refine j_iload_n (pc := 25) hX dX9_change_25 2 rfl ?_
      refine j_icmp_ne (pc := 26) (tgt := 31) hX dX9_change_26 (by decide) rfl rfl (fun c26 => by rw [c9, c21, decide_eq_true (show i ≠ j from fun h => c26 (by rw [h]))] at hb; cases hb) (fun c26 => ?_)
      refine j_iconst (pc := 29) (v := (-1)) hX dX9_change_29 (by decide) ?_
      exact j_iret (pc := 30) hX hR dX9_change_30 ⟨rfl, rfl⟩
set_option maxHeartbeats 4000000 in
set_option maxRecDepth 100000 in
theorem c_X9_becomes_f (G : GT) (md : Nat) (W : Nat) (H : Nat) (t : Int32) (m : Nat) (k : Nat) (zc : Nat) (zr : Nat) (zb : Nat) (z1 : Nat) (z2 : Nat) (z3 : Nat) (z4 : Nat) (z5 : Nat) (zm : Nat) (zmr : Nat) (zmb : Nat) (mt : Int32) (zca : Nat) (zcw : Nat) (c : Nat) (zg : Nat) (zt : Nat) (zs : Nat) (zf : Nat) (zy : Nat) (zso : Nat) (zsf : Nat) (zsm : Nat) (nt : Int32) (nsh : Int32) (ztp : Nat) (zrw : Nat) (zpp : Nat) (tn : Nat) (pn : Nat) (rdw : Int32) (rdh : Int32) (zsz : Nat) (zit : Nat) (zk : Nat) (itk : Bool) (p : Nat → Nat) (bk : Nat → Int32) (q : Nat → Nat) (s : Nat) (hp : isP p q) (hs : s < 16) (l : Launch) : CT l G yX9_becomes cX9_becomes 3 (some .int) { frames := 1, cells := 0, slots := 0, locals := 25 } [.ref md, .int (nI s), .int (nI 0)] [(md, .inr (9, [.int (nI W), .int (nI H), .int t, .int (nI m), .int (nI k), .ref zc, .ref zr, .ref zb, .ref z1, .ref z2, .ref z3, .ref z4, .ref z5, .ref zm, .ref zmr, .ref zmb, .int mt, .ref zca, .ref zcw, .int (nI c), .ref zg, .ref zt, .ref zs, .ref zf, .ref zy, .ref zso, .ref zsf, .ref zsm, .int nt, .int nsh, .ref ztp, .ref zrw, .ref zpp, .int (nI tn), .int (nI pn), .int rdw, .int rdh, .ref zsz, .ref zit, .ref zk, .int (bI itk)])), (zr, ia G 16 (fun ι => nI (p ι))), (zb, ia G 16 bk)] (fun vv ww => vv = some (.int (nI (p s))) ∧ ww = [(md, .inr (9, [.int (nI W), .int (nI H), .int t, .int (nI m), .int (nI k), .ref zc, .ref zr, .ref zb, .ref z1, .ref z2, .ref z3, .ref z4, .ref z5, .ref zm, .ref zmr, .ref zmb, .int mt, .ref zca, .ref zcw, .int (nI c), .ref zg, .ref zt, .ref zs, .ref zf, .ref zy, .ref zso, .ref zsf, .ref zsm, .int nt, .int nsh, .ref ztp, .ref zrw, .ref zpp, .int (nI tn), .int (nI pn), .int rdw, .int rdh, .ref zsz, .ref zit, .ref zk, .int (bI itk)])), (zr, ia G 16 (fun ι => nI (p ι))), (zb, ia G 16 (fun ι => nI (q ι)))]) := by
  refine CT.of (lv := [(0, .ref md), (1, .int (nI s)), (2, .int (nI 0))]) RX9 "becomes" rfl rfl (by decide +kernel) (Nat.le_of_ble_eq_true rfl) rfl (fun X hX hR => ?_)
  refine j_iload_n (pc := 0) hX dX9_becomes_0 1 rfl ?_
  refine j_i2l (pc := 1) hX dX9_becomes_1 ?_
  refine j_lconst (pc := 2) (v := 0) hX dX9_becomes_2 (by decide) ?_
  refine j_ldc2 (pc := 3) (v := (15)) hX k_RX9_121 dX9_becomes_3 ?_
  refine j_callS (pc := 6) hX kX9_isIn kSX9_isIn l_RX9_105 (fun l => c_X9_isIn G ((nI s).toInt64) 0 (15) (rngB (nI s) (0) (15)) (inL_of (toL _) (show ((0) : Int64).toInt = 0 from by decide) (show ((15) : Int64).toInt = 15 from by decide)) l) [] [0, 1, 2] [] rfl rfl rfl rfl ⟨rfl, rfl, by decide⟩ rfl rfl (Nat.le_of_ble_eq_true rfl) dX9_becomes_6 (fun v w hq => ?_)
  obtain ⟨rfl, rfl⟩ := hq
  refine j_ws [0, 1, 2] (ws' := [(md, .inr (9, [.int (nI W), .int (nI H), .int t, .int (nI m), .int (nI k), .ref zc, .ref zr, .ref zb, .ref z1, .ref z2, .ref z3, .ref z4, .ref z5, .ref zm, .ref zmr, .ref zmb, .int mt, .ref zca, .ref zcw, .int (nI c), .ref zg, .ref zt, .ref zs, .ref zf, .ref zy, .ref zso, .ref zsf, .ref zsm, .int nt, .int nsh, .ref ztp, .ref zrw, .ref zpp, .int (nI tn), .int (nI pn), .int rdw, .int rdh, .ref zsz, .ref zit, .ref zk, .int (bI itk)])), (zr, ia G 16 (fun ι => nI (p ι))), (zb, ia G 16 bk)]) rfl rfl ?_
  refine j_ifB_ne (pc := 9) (tgt := 14) hX dX9_becomes_9 (by decide) (fun c9 => ?_) (fun c9 => by rw [rng_t (x := nI s) (A := 0) (B := 15) (by rw [nI_toInt (by omega)]; omega)] at c9; cases c9)
  refine j_aload_n (pc := 14) hX dX9_becomes_14 0 rfl ?_
  refine j_get (pc := 15) hX f_RX9_22 0 rfl rfl dX9_becomes_15 ?_
  refine j_aload_n (pc := 18) hX dX9_becomes_18 0 rfl ?_
  refine j_get (pc := 19) hX f_RX9_25 0 rfl rfl dX9_becomes_19 ?_
  refine j_callS (pc := 22) hX kX9_inverse kSX9_inverse l_RX9_123 (fun l => c_X9_inverse G zr zb p q bk (by assumption) l) [1, 2] [0] [] rfl rfl rfl rfl ⟨rfl, rfl, by decide⟩ rfl rfl (Nat.le_of_ble_eq_true rfl) dX9_becomes_22 (fun v w hq => ?_)
  obtain ⟨rfl, rfl⟩ := hq
  refine j_ws [0, 1, 2] (ws' := [(md, .inr (9, [.int (nI W), .int (nI H), .int t, .int (nI m), .int (nI k), .ref zc, .ref zr, .ref zb, .ref z1, .ref z2, .ref z3, .ref z4, .ref z5, .ref zm, .ref zmr, .ref zmb, .int mt, .ref zca, .ref zcw, .int (nI c), .ref zg, .ref zt, .ref zs, .ref zf, .ref zy, .ref zso, .ref zsf, .ref zsm, .int nt, .int nsh, .ref ztp, .ref zrw, .ref zpp, .int (nI tn), .int (nI pn), .int rdw, .int rdh, .ref zsz, .ref zit, .ref zk, .int (bI itk)])), (zr, ia G 16 (fun ι => nI (p ι))), (zb, ia G 16 (fun ι => nI (q ι)))]) rfl rfl ?_
  refine j_iload_n (pc := 25) hX dX9_becomes_25 2 rfl ?_
  refine j_if_eq (pc := 26) (tgt := 38) hX dX9_becomes_26 (by decide) (nI_toInt (n := 0) (by decide)) (fun c26 => ?_) (fun c26 => absurd c26 (by decide))
  refine j_aload_n (pc := 38) hX dX9_becomes_38 0 rfl ?_
  refine j_get (pc := 39) hX f_RX9_22 0 rfl rfl dX9_becomes_39 ?_
  refine j_iload_n (pc := 42) hX dX9_becomes_42 1 rfl ?_
  refine j_ialdN (pc := 43) (j := s) hX 1 rfl (by omega) (by omega) dX9_becomes_43 ?_
  exact j_iret (pc := 44) hX hR dX9_becomes_44 ⟨rfl, rfl⟩
set_option maxHeartbeats 4000000 in
set_option maxRecDepth 100000 in
theorem c_X9_becomes_t (G : GT) (md : Nat) (W : Nat) (H : Nat) (t : Int32) (m : Nat) (k : Nat) (zc : Nat) (zr : Nat) (zb : Nat) (z1 : Nat) (z2 : Nat) (z3 : Nat) (z4 : Nat) (z5 : Nat) (zm : Nat) (zmr : Nat) (zmb : Nat) (mt : Int32) (zca : Nat) (zcw : Nat) (c : Nat) (zg : Nat) (zt : Nat) (zs : Nat) (zf : Nat) (zy : Nat) (zso : Nat) (zsf : Nat) (zsm : Nat) (nt : Int32) (nsh : Int32) (ztp : Nat) (zrw : Nat) (zpp : Nat) (tn : Nat) (pn : Nat) (rdw : Int32) (rdh : Int32) (zsz : Nat) (zit : Nat) (zk : Nat) (itk : Bool) (p : Nat → Nat) (bk : Nat → Int32) (q : Nat → Nat) (s : Nat) (hp : isP p q) (hs : s < 16) (l : Launch) : CT l G yX9_becomes cX9_becomes 3 (some .int) { frames := 1, cells := 0, slots := 0, locals := 25 } [.ref md, .int (nI s), .int (nI 1)] [(md, .inr (9, [.int (nI W), .int (nI H), .int t, .int (nI m), .int (nI k), .ref zc, .ref zr, .ref zb, .ref z1, .ref z2, .ref z3, .ref z4, .ref z5, .ref zm, .ref zmr, .ref zmb, .int mt, .ref zca, .ref zcw, .int (nI c), .ref zg, .ref zt, .ref zs, .ref zf, .ref zy, .ref zso, .ref zsf, .ref zsm, .int nt, .int nsh, .ref ztp, .ref zrw, .ref zpp, .int (nI tn), .int (nI pn), .int rdw, .int rdh, .ref zsz, .ref zit, .ref zk, .int (bI itk)])), (zr, ia G 16 (fun ι => nI (p ι))), (zb, ia G 16 bk)] (fun vv ww => vv = some (.int (nI (q s))) ∧ ww = [(md, .inr (9, [.int (nI W), .int (nI H), .int t, .int (nI m), .int (nI k), .ref zc, .ref zr, .ref zb, .ref z1, .ref z2, .ref z3, .ref z4, .ref z5, .ref zm, .ref zmr, .ref zmb, .int mt, .ref zca, .ref zcw, .int (nI c), .ref zg, .ref zt, .ref zs, .ref zf, .ref zy, .ref zso, .ref zsf, .ref zsm, .int nt, .int nsh, .ref ztp, .ref zrw, .ref zpp, .int (nI tn), .int (nI pn), .int rdw, .int rdh, .ref zsz, .ref zit, .ref zk, .int (bI itk)])), (zr, ia G 16 (fun ι => nI (p ι))), (zb, ia G 16 (fun ι => nI (q ι)))]) := by
  refine CT.of (lv := [(0, .ref md), (1, .int (nI s)), (2, .int (nI 1))]) RX9 "becomes" rfl rfl (by decide +kernel) (Nat.le_of_ble_eq_true rfl) rfl (fun X hX hR => ?_)
  refine j_iload_n (pc := 0) hX dX9_becomes_0 1 rfl ?_
  refine j_i2l (pc := 1) hX dX9_becomes_1 ?_
  refine j_lconst (pc := 2) (v := 0) hX dX9_becomes_2 (by decide) ?_
  refine j_ldc2 (pc := 3) (v := (15)) hX k_RX9_121 dX9_becomes_3 ?_
  refine j_callS (pc := 6) hX kX9_isIn kSX9_isIn l_RX9_105 (fun l => c_X9_isIn G ((nI s).toInt64) 0 (15) (rngB (nI s) (0) (15)) (inL_of (toL _) (show ((0) : Int64).toInt = 0 from by decide) (show ((15) : Int64).toInt = 15 from by decide)) l) [] [0, 1, 2] [] rfl rfl rfl rfl ⟨rfl, rfl, by decide⟩ rfl rfl (Nat.le_of_ble_eq_true rfl) dX9_becomes_6 (fun v w hq => ?_)
  obtain ⟨rfl, rfl⟩ := hq
  refine j_ws [0, 1, 2] (ws' := [(md, .inr (9, [.int (nI W), .int (nI H), .int t, .int (nI m), .int (nI k), .ref zc, .ref zr, .ref zb, .ref z1, .ref z2, .ref z3, .ref z4, .ref z5, .ref zm, .ref zmr, .ref zmb, .int mt, .ref zca, .ref zcw, .int (nI c), .ref zg, .ref zt, .ref zs, .ref zf, .ref zy, .ref zso, .ref zsf, .ref zsm, .int nt, .int nsh, .ref ztp, .ref zrw, .ref zpp, .int (nI tn), .int (nI pn), .int rdw, .int rdh, .ref zsz, .ref zit, .ref zk, .int (bI itk)])), (zr, ia G 16 (fun ι => nI (p ι))), (zb, ia G 16 bk)]) rfl rfl ?_
  refine j_ifB_ne (pc := 9) (tgt := 14) hX dX9_becomes_9 (by decide) (fun c9 => ?_) (fun c9 => by rw [rng_t (x := nI s) (A := 0) (B := 15) (by rw [nI_toInt (by omega)]; omega)] at c9; cases c9)
  refine j_aload_n (pc := 14) hX dX9_becomes_14 0 rfl ?_
  refine j_get (pc := 15) hX f_RX9_22 0 rfl rfl dX9_becomes_15 ?_
  refine j_aload_n (pc := 18) hX dX9_becomes_18 0 rfl ?_
  refine j_get (pc := 19) hX f_RX9_25 0 rfl rfl dX9_becomes_19 ?_
  refine j_callS (pc := 22) hX kX9_inverse kSX9_inverse l_RX9_123 (fun l => c_X9_inverse G zr zb p q bk (by assumption) l) [1, 2] [0] [] rfl rfl rfl rfl ⟨rfl, rfl, by decide⟩ rfl rfl (Nat.le_of_ble_eq_true rfl) dX9_becomes_22 (fun v w hq => ?_)
  obtain ⟨rfl, rfl⟩ := hq
  refine j_ws [0, 1, 2] (ws' := [(md, .inr (9, [.int (nI W), .int (nI H), .int t, .int (nI m), .int (nI k), .ref zc, .ref zr, .ref zb, .ref z1, .ref z2, .ref z3, .ref z4, .ref z5, .ref zm, .ref zmr, .ref zmb, .int mt, .ref zca, .ref zcw, .int (nI c), .ref zg, .ref zt, .ref zs, .ref zf, .ref zy, .ref zso, .ref zsf, .ref zsm, .int nt, .int nsh, .ref ztp, .ref zrw, .ref zpp, .int (nI tn), .int (nI pn), .int rdw, .int rdh, .ref zsz, .ref zit, .ref zk, .int (bI itk)])), (zr, ia G 16 (fun ι => nI (p ι))), (zb, ia G 16 (fun ι => nI (q ι)))]) rfl rfl ?_
  refine j_iload_n (pc := 25) hX dX9_becomes_25 2 rfl ?_
  refine j_if_eq (pc := 26) (tgt := 38) hX dX9_becomes_26 (by decide) (nI_toInt (n := 1) (by decide)) (fun c26 => absurd c26 (by decide)) (fun c26 => ?_)
  refine j_aload_n (pc := 29) hX dX9_becomes_29 0 rfl ?_
  refine j_get (pc := 30) hX f_RX9_25 0 rfl rfl dX9_becomes_30 ?_
  refine j_iload_n (pc := 33) hX dX9_becomes_33 1 rfl ?_
  refine j_ialdN (pc := 34) (j := s) hX 2 rfl (by omega) (by omega) dX9_becomes_34 ?_
  refine j_goto (pc := 35) (tgt := 44) hX dX9_becomes_35 (by decide) ?_
  exact j_iret (pc := 44) hX hR dX9_becomes_44 ⟨rfl, rfl⟩
set_option maxHeartbeats 4000000 in
set_option maxRecDepth 100000 in
theorem c_X9_becomes_bad (G : GT) (md : Nat) (W : Nat) (H : Nat) (t : Int32) (m : Nat) (k : Nat) (zc : Nat) (zr : Nat) (zb : Nat) (z1 : Nat) (z2 : Nat) (z3 : Nat) (z4 : Nat) (z5 : Nat) (zm : Nat) (zmr : Nat) (zmb : Nat) (mt : Int32) (zca : Nat) (zcw : Nat) (c : Nat) (zg : Nat) (zt : Nat) (zs : Nat) (zf : Nat) (zy : Nat) (zso : Nat) (zsf : Nat) (zsm : Nat) (nt : Int32) (nsh : Int32) (ztp : Nat) (zrw : Nat) (zpp : Nat) (tn : Nat) (pn : Nat) (rdw : Int32) (rdh : Int32) (zsz : Nat) (zit : Nat) (zk : Nat) (itk : Bool) (s : Int32) (bk_ : Bool) (hb : rngB s 0 15 = false) (l : Launch) : CT l G yX9_becomes cX9_becomes 3 (some .int) { frames := 1, cells := 0, slots := 0, locals := 25 } [.ref md, .int s, .int (bI bk_)] [(md, .inr (9, [.int (nI W), .int (nI H), .int t, .int (nI m), .int (nI k), .ref zc, .ref zr, .ref zb, .ref z1, .ref z2, .ref z3, .ref z4, .ref z5, .ref zm, .ref zmr, .ref zmb, .int mt, .ref zca, .ref zcw, .int (nI c), .ref zg, .ref zt, .ref zs, .ref zf, .ref zy, .ref zso, .ref zsf, .ref zsm, .int nt, .int nsh, .ref ztp, .ref zrw, .ref zpp, .int (nI tn), .int (nI pn), .int rdw, .int rdh, .ref zsz, .ref zit, .ref zk, .int (bI itk)]))] (fun vv ww => vv = some (.int (-1)) ∧ ww = [(md, .inr (9, [.int (nI W), .int (nI H), .int t, .int (nI m), .int (nI k), .ref zc, .ref zr, .ref zb, .ref z1, .ref z2, .ref z3, .ref z4, .ref z5, .ref zm, .ref zmr, .ref zmb, .int mt, .ref zca, .ref zcw, .int (nI c), .ref zg, .ref zt, .ref zs, .ref zf, .ref zy, .ref zso, .ref zsf, .ref zsm, .int nt, .int nsh, .ref ztp, .ref zrw, .ref zpp, .int (nI tn), .int (nI pn), .int rdw, .int rdh, .ref zsz, .ref zit, .ref zk, .int (bI itk)]))]) := by
  refine CT.of (lv := [(0, .ref md), (1, .int s), (2, .int (bI bk_))]) RX9 "becomes" rfl rfl (by decide +kernel) (Nat.le_of_ble_eq_true rfl) rfl (fun X hX hR => ?_)
  refine j_iload_n (pc := 0) hX dX9_becomes_0 1 rfl ?_
  refine j_i2l (pc := 1) hX dX9_becomes_1 ?_
  refine j_lconst (pc := 2) (v := 0) hX dX9_becomes_2 (by decide) ?_
  refine j_ldc2 (pc := 3) (v := (15)) hX k_RX9_121 dX9_becomes_3 ?_
  refine j_callS (pc := 6) hX kX9_isIn kSX9_isIn l_RX9_105 (fun l => c_X9_isIn G s.toInt64 0 (15) (rngB s (0) (15)) (inL_of (toL _) (show ((0) : Int64).toInt = 0 from by decide) (show ((15) : Int64).toInt = 15 from by decide)) l) [] [0] [] rfl rfl rfl rfl ⟨rfl, rfl, by decide⟩ rfl rfl (Nat.le_of_ble_eq_true rfl) dX9_becomes_6 (fun v w hq => ?_)
  obtain ⟨rfl, rfl⟩ := hq
  refine j_ws [0] (ws' := [(md, .inr (9, [.int (nI W), .int (nI H), .int t, .int (nI m), .int (nI k), .ref zc, .ref zr, .ref zb, .ref z1, .ref z2, .ref z3, .ref z4, .ref z5, .ref zm, .ref zmr, .ref zmb, .int mt, .ref zca, .ref zcw, .int (nI c), .ref zg, .ref zt, .ref zs, .ref zf, .ref zy, .ref zso, .ref zsf, .ref zsm, .int nt, .int nsh, .ref ztp, .ref zrw, .ref zpp, .int (nI tn), .int (nI pn), .int rdw, .int rdh, .ref zsz, .ref zit, .ref zk, .int (bI itk)]))]) rfl rfl ?_
  refine j_ifB_ne (pc := 9) (tgt := 14) hX dX9_becomes_9 (by decide) (fun c9 => by rw [hb] at c9; cases c9) (fun c9 => ?_)
  refine j_iconst (pc := 12) (v := (-1)) hX dX9_becomes_12 (by decide) ?_
  exact j_iret (pc := 13) hX hR dX9_becomes_13 ⟨rfl, rfl⟩
set_option maxHeartbeats 4000000 in
set_option maxRecDepth 100000 in
theorem c_X9_blockAt (G : GT) (md : Nat) (W : Nat) (H : Nat) (t : Int32) (m : Nat) (k : Nat) (zc : Nat) (zr : Nat) (zb : Nat) (z1 : Nat) (z2 : Nat) (z3 : Nat) (z4 : Nat) (z5 : Nat) (zm : Nat) (zmr : Nat) (zmb : Nat) (mt : Int32) (zca : Nat) (zcw : Nat) (c : Nat) (zg : Nat) (zt : Nat) (zs : Nat) (zf : Nat) (zy : Nat) (zso : Nat) (zsf : Nat) (zsm : Nat) (nt : Int32) (nsh : Int32) (ztp : Nat) (zrw : Nat) (zpp : Nat) (tn : Nat) (pn : Nat) (rdw : Int32) (rdh : Int32) (zsz : Nat) (zit : Nat) (zk : Nat) (itk : Bool) (f : Nat → Int32) (a x y : Nat) (f : Nat → Int32) (hW1 : 2 ≤ W) (hW2 : W ≤ 16) (hH1 : 2 ≤ H) (hH2 : H ≤ 16) (hx : x < W) (hy : y < H) (l : Launch) : CT l G yX9_blockAt cX9_blockAt 6 (some .int) { frames := 0, cells := 0, slots := 0, locals := 0 } [.ref md, .ref a, .int (nI x), .int (nI y)] [(md, .inr (9, [.int (nI W), .int (nI H), .int t, .int (nI m), .int (nI k), .ref zc, .ref zr, .ref zb, .ref z1, .ref z2, .ref z3, .ref z4, .ref z5, .ref zm, .ref zmr, .ref zmb, .int mt, .ref zca, .ref zcw, .int (nI c), .ref zg, .ref zt, .ref zs, .ref zf, .ref zy, .ref zso, .ref zsf, .ref zsm, .int nt, .int nsh, .ref ztp, .ref zrw, .ref zpp, .int (nI tn), .int (nI pn), .int rdw, .int rdh, .ref zsz, .ref zit, .ref zk, .int (bI itk)])), (a, ia G 16 f)] (fun vv ww => vv = some (.int (nI (stA W H f x y))) ∧ ww = [(md, .inr (9, [.int (nI W), .int (nI H), .int t, .int (nI m), .int (nI k), .ref zc, .ref zr, .ref zb, .ref z1, .ref z2, .ref z3, .ref z4, .ref z5, .ref zm, .ref zmr, .ref zmb, .int mt, .ref zca, .ref zcw, .int (nI c), .ref zg, .ref zt, .ref zs, .ref zf, .ref zy, .ref zso, .ref zsf, .ref zsm, .int nt, .int nsh, .ref ztp, .ref zrw, .ref zpp, .int (nI tn), .int (nI pn), .int rdw, .int rdh, .ref zsz, .ref zit, .ref zk, .int (bI itk)])), (a, ia G 16 f)]) := by
  refine CT.of (lv := [(0, .ref md), (1, .ref a), (2, .int (nI x)), (3, .int (nI y))]) RX9 "blockAt" rfl rfl (by decide +kernel) (Nat.le_of_ble_eq_true rfl) rfl (fun X hX hR => ?_)
  have hx2 := wr_lt (k := x + 1) (n := W) (by omega)
  have hy2 := wr_lt (k := y + 1) (n := H) (by omega)
  refine j_iload_n (pc := 0) hX dX9_blockAt_0 2 rfl ?_
  refine j_iconstN (pc := 1) (j := 1) hX dX9_blockAt_1 rfl ?_
  refine j_iadd (pc := 2) hX dX9_blockAt_2 ?_
  refine j_topi (y := nI (x + 1)) (nI_add _ _) ?_
  refine j_aload_n (pc := 3) hX dX9_blockAt_3 0 rfl ?_
  refine j_get (pc := 4) hX f_RX9_9 0 rfl rfl dX9_blockAt_4 ?_
  refine j_irem (pc := 7) hX dX9_blockAt_7 (nI_ne0 (by omega) (by omega)) ?_
  refine j_topi (y := nI (wr (x + 1) W)) (rem_wr (by omega) (by omega)) ?_
  refine j_istore (pc := 8) (lv' := [(4, .int (nI (wr (x + 1) W))), (0, .ref md), (1, .ref a), (2, .int (nI x)), (3, .int (nI y))]) hX dX9_blockAt_8 (by decide) rfl ?_
  refine j_iload_n (pc := 10) hX dX9_blockAt_10 4 rfl ?_
  refine j_iconstN (pc := 11) (j := 1) hX dX9_blockAt_11 rfl ?_
  refine j_iadd (pc := 12) hX dX9_blockAt_12 ?_
  refine j_topi (y := nI (y + 1)) (nI_add _ _) ?_
  refine j_aload_n (pc := 13) hX dX9_blockAt_13 1 rfl ?_
  refine j_get (pc := 14) hX f_RX9_15 0 rfl rfl dX9_blockAt_14 ?_
  refine j_irem (pc := 17) hX dX9_blockAt_17 (nI_ne0 (by omega) (by omega)) ?_
  refine j_topi (y := nI (wr (y + 1) H)) (rem_wr (by omega) (by omega)) ?_
  refine j_istore (pc := 18) (lv' := [(5, .int (nI (wr (y + 1) H))), (4, .int (nI (wr (x + 1) W))), (0, .ref md), (1, .ref a), (2, .int (nI x)), (3, .int (nI y))]) hX dX9_blockAt_18 (by decide) rfl ?_
  refine j_aload_n (pc := 20) hX dX9_blockAt_20 3 rfl ?_
  refine j_iload_n (pc := 21) hX dX9_blockAt_21 5 rfl ?_
  refine j_ialdN (pc := 22) (j := y) hX 1 rfl (by omega) (by omega) dX9_blockAt_22 ?_
  refine j_iload_n (pc := 23) hX dX9_blockAt_23 4 rfl ?_
  refine j_ishr (pc := 24) hX dX9_blockAt_24 ?_
  refine j_iconstN (pc := 25) (j := 1) hX dX9_blockAt_25 rfl ?_
  refine j_iand (pc := 26) hX dX9_blockAt_26 ?_
  refine j_topi (y := bI (bt (f y) x)) (bt_raw _ (by omega)) ?_
  refine j_aload_n (pc := 27) hX dX9_blockAt_27 3 rfl ?_
  refine j_iload_n (pc := 28) hX dX9_blockAt_28 5 rfl ?_
  refine j_ialdN (pc := 29) (j := y) hX 1 rfl (by omega) (by omega) dX9_blockAt_29 ?_
  refine j_iload (pc := 30) hX dX9_blockAt_30 1 rfl ?_
  refine j_ishr (pc := 32) hX dX9_blockAt_32 ?_
  refine j_iconstN (pc := 33) (j := 1) hX dX9_blockAt_33 rfl ?_
  refine j_iand (pc := 34) hX dX9_blockAt_34 ?_
  refine j_topi (y := bI (bt (f y) (wr (x + 1) W))) (bt_raw _ (by omega)) ?_
  refine j_iconstN (pc := 35) (j := 1) hX dX9_blockAt_35 rfl ?_
  refine j_ishl (pc := 36) hX dX9_blockAt_36 ?_
  refine j_ior (pc := 37) hX dX9_blockAt_37 ?_
  refine j_aload_n (pc := 38) hX dX9_blockAt_38 3 rfl ?_
  refine j_iload (pc := 39) hX dX9_blockAt_39 0 rfl ?_
  refine j_ialdN (pc := 41) (j := wr (y + 1) H) hX 1 rfl (by omega) (by omega) dX9_blockAt_41 ?_
  refine j_iload_n (pc := 42) hX dX9_blockAt_42 4 rfl ?_
  refine j_ishr (pc := 43) hX dX9_blockAt_43 ?_
  refine j_iconstN (pc := 44) (j := 1) hX dX9_blockAt_44 rfl ?_
  refine j_iand (pc := 45) hX dX9_blockAt_45 ?_
  refine j_topi (y := bI (bt (f (wr (y + 1) H)) x)) (bt_raw _ (by omega)) ?_
  refine j_iconstN (pc := 46) (j := 2) hX dX9_blockAt_46 rfl ?_
  refine j_ishl (pc := 47) hX dX9_blockAt_47 ?_
  refine j_ior (pc := 48) hX dX9_blockAt_48 ?_
  refine j_aload_n (pc := 49) hX dX9_blockAt_49 3 rfl ?_
  refine j_iload (pc := 50) hX dX9_blockAt_50 0 rfl ?_
  refine j_ialdN (pc := 52) (j := wr (y + 1) H) hX 1 rfl (by omega) (by omega) dX9_blockAt_52 ?_
  refine j_iload (pc := 53) hX dX9_blockAt_53 1 rfl ?_
  refine j_ishr (pc := 55) hX dX9_blockAt_55 ?_
  refine j_iconstN (pc := 56) (j := 1) hX dX9_blockAt_56 rfl ?_
  refine j_iand (pc := 57) hX dX9_blockAt_57 ?_
  refine j_topi (y := bI (bt (f (wr (y + 1) H)) (wr (x + 1) W))) (bt_raw _ (by omega)) ?_
  refine j_iconstN (pc := 58) (j := 3) hX dX9_blockAt_58 rfl ?_
  refine j_ishl (pc := 59) hX dX9_blockAt_59 ?_
  refine j_ior (pc := 60) hX dX9_blockAt_60 ?_
  exact j_iret (pc := 61) hX hR dX9_blockAt_61 ⟨congrArg some (show Value.int ((((bI (bt (f y) x)) ||| ((bI (bt (f y) (wr (x + 1) W))) <<< ((nI 1) &&& 31))) ||| ((bI (bt (f (wr (y + 1) H)) x)) <<< ((nI 2) &&& 31))) ||| ((bI (bt (f (wr (y + 1) H)) (wr (x + 1) W))) <<< ((nI 3) &&& 31))) = Value.int (nI (stA W H f x y)) from by unfold stA prN; generalize bt (f y) x = b1; generalize bt (f y) (wr (x + 1) W) = b2; generalize bt (f (wr (y + 1) H)) x = b3; generalize bt (f (wr (y + 1) H)) (wr (x + 1) W) = b4; cases b1 <;> cases b2 <;> cases b3 <;> cases b4 <;> rfl), rfl⟩
set_option maxHeartbeats 4000000 in
set_option maxRecDepth 100000 in
theorem c_X9_with (G : GT) (row : Int32) (x : Nat) (v : Int32)  (l : Launch) : CT l G yX9_with cX9_with 3 (some .int) { frames := 0, cells := 0, slots := 0, locals := 0 } [.int row, .int (nI x), .int v] [] (fun vv ww => vv = some (.int (wth row x v)) ∧ ww = []) := by
  refine CT.of (lv := [(0, .int row), (1, .int (nI x)), (2, .int v)]) RX9 "with" rfl rfl (by decide +kernel) (Nat.le_of_ble_eq_true rfl) rfl (fun X hX hR => ?_)
  refine j_iload_n (pc := 0) hX dX9_with_0 0 rfl ?_
  refine j_iconstN (pc := 1) (j := 1) hX dX9_with_1 rfl ?_
  refine j_iload_n (pc := 2) hX dX9_with_2 1 rfl ?_
  refine j_ishl (pc := 3) hX dX9_with_3 ?_
  refine j_iconst (pc := 4) (v := (-1)) hX dX9_with_4 (by decide) ?_
  refine j_ixor (pc := 5) hX dX9_with_5 ?_
  refine j_iand (pc := 6) hX dX9_with_6 ?_
  refine j_iload_n (pc := 7) hX dX9_with_7 2 rfl ?_
  refine j_iload_n (pc := 8) hX dX9_with_8 1 rfl ?_
  refine j_ishl (pc := 9) hX dX9_with_9 ?_
  refine j_ior (pc := 10) hX dX9_with_10 ?_
  exact j_iret (pc := 11) hX hR dX9_with_11 ⟨congrArg some (show Value.int ((row &&& (((nI 1) <<< ((nI x) &&& 31)) ^^^ (-1))) ||| (v <<< ((nI x) &&& 31))) = Value.int (wth row x v) from by rfl), rfl⟩
set_option maxHeartbeats 4000000 in
set_option maxRecDepth 100000 in
theorem c_X9_blockBecomes (G : GT) (md : Nat) (W : Nat) (H : Nat) (t : Int32) (m : Nat) (k : Nat) (zc : Nat) (zr : Nat) (zb : Nat) (z1 : Nat) (z2 : Nat) (z3 : Nat) (z4 : Nat) (z5 : Nat) (zm : Nat) (zmr : Nat) (zmb : Nat) (mt : Int32) (zca : Nat) (zcw : Nat) (c : Nat) (zg : Nat) (zt : Nat) (zs : Nat) (zf : Nat) (zy : Nat) (zso : Nat) (zsf : Nat) (zsm : Nat) (nt : Int32) (nsh : Int32) (ztp : Nat) (zrw : Nat) (zpp : Nat) (tn : Nat) (pn : Nat) (rdw : Int32) (rdh : Int32) (zsz : Nat) (zit : Nat) (zk : Nat) (itk : Bool) (f : Nat → Int32) (a x y : Nat) (s : Int32) (f : Nat → Int32) (hW1 : 2 ≤ W) (hW2 : W ≤ 16) (hH1 : 2 ≤ H) (hH2 : H ≤ 16) (hx : x < W) (hy : y < H) (l : Launch) : CT l G yX9_blockBecomes cX9_blockBecomes 7 none { frames := 1, cells := 0, slots := 0, locals := 22 } [.ref md, .ref a, .int (nI x), .int (nI y), .int s] [(md, .inr (9, [.int (nI W), .int (nI H), .int t, .int (nI m), .int (nI k), .ref zc, .ref zr, .ref zb, .ref z1, .ref z2, .ref z3, .ref z4, .ref z5, .ref zm, .ref zmr, .ref zmb, .int mt, .ref zca, .ref zcw, .int (nI c), .ref zg, .ref zt, .ref zs, .ref zf, .ref zy, .ref zso, .ref zsf, .ref zsm, .int nt, .int nsh, .ref ztp, .ref zrw, .ref zpp, .int (nI tn), .int (nI pn), .int rdw, .int rdh, .ref zsz, .ref zit, .ref zk, .int (bI itk)])), (a, ia G 16 f)] (fun vv ww => vv = none ∧ ww = [(md, .inr (9, [.int (nI W), .int (nI H), .int t, .int (nI m), .int (nI k), .ref zc, .ref zr, .ref zb, .ref z1, .ref z2, .ref z3, .ref z4, .ref z5, .ref zm, .ref zmr, .ref zmb, .int mt, .ref zca, .ref zcw, .int (nI c), .ref zg, .ref zt, .ref zs, .ref zf, .ref zy, .ref zso, .ref zsf, .ref zsm, .int nt, .int nsh, .ref ztp, .ref zrw, .ref zpp, .int (nI tn), .int (nI pn), .int rdw, .int rdh, .ref zsz, .ref zit, .ref zk, .int (bI itk)])), (a, ia G 16 (ptA W H f x y s))]) := by
  refine CT.of (lv := [(0, .ref md), (1, .ref a), (2, .int (nI x)), (3, .int (nI y)), (4, .int s)]) RX9 "blockBecomes" rfl rfl (by decide +kernel) (Nat.le_of_ble_eq_true rfl) rfl (fun X hX hR => ?_)
  have hx2 := wr_lt (k := x + 1) (n := W) (by omega)
  have hy2 := wr_lt (k := y + 1) (n := H) (by omega)
  refine j_iload_n (pc := 0) hX dX9_blockBecomes_0 2 rfl ?_
  refine j_iconstN (pc := 1) (j := 1) hX dX9_blockBecomes_1 rfl ?_
  refine j_iadd (pc := 2) hX dX9_blockBecomes_2 ?_
  refine j_topi (y := nI (x + 1)) (nI_add _ _) ?_
  refine j_aload_n (pc := 3) hX dX9_blockBecomes_3 0 rfl ?_
  refine j_get (pc := 4) hX f_RX9_9 0 rfl rfl dX9_blockBecomes_4 ?_
  refine j_irem (pc := 7) hX dX9_blockBecomes_7 (nI_ne0 (by omega) (by omega)) ?_
  refine j_topi (y := nI (wr (x + 1) W)) (rem_wr (by omega) (by omega)) ?_
  refine j_istore (pc := 8) (lv' := [(5, .int (nI (wr (x + 1) W))), (0, .ref md), (1, .ref a), (2, .int (nI x)), (3, .int (nI y)), (4, .int s)]) hX dX9_blockBecomes_8 (by decide) rfl ?_
  refine j_iload_n (pc := 10) hX dX9_blockBecomes_10 4 rfl ?_
  refine j_iconstN (pc := 11) (j := 1) hX dX9_blockBecomes_11 rfl ?_
  refine j_iadd (pc := 12) hX dX9_blockBecomes_12 ?_
  refine j_topi (y := nI (y + 1)) (nI_add _ _) ?_
  refine j_aload_n (pc := 13) hX dX9_blockBecomes_13 1 rfl ?_
  refine j_get (pc := 14) hX f_RX9_15 0 rfl rfl dX9_blockBecomes_14 ?_
  refine j_irem (pc := 17) hX dX9_blockBecomes_17 (nI_ne0 (by omega) (by omega)) ?_
  refine j_topi (y := nI (wr (y + 1) H)) (rem_wr (by omega) (by omega)) ?_
  refine j_istore (pc := 18) (lv' := [(6, .int (nI (wr (y + 1) H))), (5, .int (nI (wr (x + 1) W))), (0, .ref md), (1, .ref a), (2, .int (nI x)), (3, .int (nI y)), (4, .int s)]) hX dX9_blockBecomes_18 (by decide) rfl ?_
  refine j_aload_n (pc := 20) hX dX9_blockBecomes_20 3 rfl ?_
  refine j_iload_n (pc := 21) hX dX9_blockBecomes_21 5 rfl ?_
  refine j_aload_n (pc := 22) hX dX9_blockBecomes_22 3 rfl ?_
  refine j_iload_n (pc := 23) hX dX9_blockBecomes_23 5 rfl ?_
  refine j_ialdN (pc := 24) (j := y) hX 1 rfl (by omega) (by omega) dX9_blockBecomes_24 ?_
  refine j_iload_n (pc := 25) hX dX9_blockBecomes_25 4 rfl ?_
  refine j_iload (pc := 26) hX dX9_blockBecomes_26 6 rfl ?_
  refine j_iconstN (pc := 28) (j := 1) hX dX9_blockBecomes_28 rfl ?_
  refine j_iand (pc := 29) hX dX9_blockBecomes_29 ?_
  refine j_callS (pc := 30) hX kX9_with kSX9_with l_RX9_127 (fun l => c_X9_with G (f y) x (s &&& (nI 1))  l) [] [0, 1] [.int (nI y), .ref a] rfl rfl rfl rfl ⟨rfl, rfl, by decide⟩ rfl rfl (Nat.le_of_ble_eq_true rfl) dX9_blockBecomes_30 (fun v w hq => ?_)
  obtain ⟨rfl, rfl⟩ := hq
  refine j_ws [0, 1] (ws' := [(md, .inr (9, [.int (nI W), .int (nI H), .int t, .int (nI m), .int (nI k), .ref zc, .ref zr, .ref zb, .ref z1, .ref z2, .ref z3, .ref z4, .ref z5, .ref zm, .ref zmr, .ref zmb, .int mt, .ref zca, .ref zcw, .int (nI c), .ref zg, .ref zt, .ref zs, .ref zf, .ref zy, .ref zso, .ref zsf, .ref zsm, .int nt, .int nsh, .ref ztp, .ref zrw, .ref zpp, .int (nI tn), .int (nI pn), .int rdw, .int rdh, .ref zsz, .ref zit, .ref zk, .int (bI itk)])), (a, ia G 16 f)]) rfl rfl ?_
  refine j_iastN (pc := 33) (j := y) (ws' := [(md, .inr (9, [.int (nI W), .int (nI H), .int t, .int (nI m), .int (nI k), .ref zc, .ref zr, .ref zb, .ref z1, .ref z2, .ref z3, .ref z4, .ref z5, .ref zm, .ref zmr, .ref zmb, .int mt, .ref zca, .ref zcw, .int (nI c), .ref zg, .ref zt, .ref zs, .ref zf, .ref zy, .ref zso, .ref zsf, .ref zsm, .int nt, .int nsh, .ref ztp, .ref zrw, .ref zpp, .int (nI tn), .int (nI pn), .int rdw, .int rdh, .ref zsz, .ref zit, .ref zk, .int (bI itk)])), (a, ia G 16 (upd f y (wth (f y) x (s &&& (nI 1)))))]) hX 1 rfl (by omega) (by omega) rfl dX9_blockBecomes_33 ?_
  refine j_aload_n (pc := 34) hX dX9_blockBecomes_34 3 rfl ?_
  refine j_iload_n (pc := 35) hX dX9_blockBecomes_35 5 rfl ?_
  refine j_aload_n (pc := 36) hX dX9_blockBecomes_36 3 rfl ?_
  refine j_iload_n (pc := 37) hX dX9_blockBecomes_37 5 rfl ?_
  refine j_ialdN (pc := 38) (j := y) hX 1 rfl (by omega) (by omega) dX9_blockBecomes_38 ?_
  refine j_iload (pc := 39) hX dX9_blockBecomes_39 1 rfl ?_
  refine j_iload (pc := 41) hX dX9_blockBecomes_41 6 rfl ?_
  refine j_iconstN (pc := 43) (j := 1) hX dX9_blockBecomes_43 rfl ?_
  refine j_ishr (pc := 44) hX dX9_blockBecomes_44 ?_
  refine j_iconstN (pc := 45) (j := 1) hX dX9_blockBecomes_45 rfl ?_
  refine j_iand (pc := 46) hX dX9_blockBecomes_46 ?_
  refine j_callS (pc := 47) hX kX9_with kSX9_with l_RX9_127 (fun l => c_X9_with G ((upd f y (wth (f y) x (s &&& (nI 1)))) y) (wr (x + 1) W) ((s >>> ((nI 1) &&& 31)) &&& (nI 1))  l) [] [0, 1] [.int (nI y), .ref a] rfl rfl rfl rfl ⟨rfl, rfl, by decide⟩ rfl rfl (Nat.le_of_ble_eq_true rfl) dX9_blockBecomes_47 (fun v w hq => ?_)
  obtain ⟨rfl, rfl⟩ := hq
  refine j_ws [0, 1] (ws' := [(md, .inr (9, [.int (nI W), .int (nI H), .int t, .int (nI m), .int (nI k), .ref zc, .ref zr, .ref zb, .ref z1, .ref z2, .ref z3, .ref z4, .ref z5, .ref zm, .ref zmr, .ref zmb, .int mt, .ref zca, .ref zcw, .int (nI c), .ref zg, .ref zt, .ref zs, .ref zf, .ref zy, .ref zso, .ref zsf, .ref zsm, .int nt, .int nsh, .ref ztp, .ref zrw, .ref zpp, .int (nI tn), .int (nI pn), .int rdw, .int rdh, .ref zsz, .ref zit, .ref zk, .int (bI itk)])), (a, ia G 16 (upd f y (wth (f y) x (s &&& (nI 1)))))]) rfl rfl ?_
  refine j_iastN (pc := 50) (j := y) (ws' := [(md, .inr (9, [.int (nI W), .int (nI H), .int t, .int (nI m), .int (nI k), .ref zc, .ref zr, .ref zb, .ref z1, .ref z2, .ref z3, .ref z4, .ref z5, .ref zm, .ref zmr, .ref zmb, .int mt, .ref zca, .ref zcw, .int (nI c), .ref zg, .ref zt, .ref zs, .ref zf, .ref zy, .ref zso, .ref zsf, .ref zsm, .int nt, .int nsh, .ref ztp, .ref zrw, .ref zpp, .int (nI tn), .int (nI pn), .int rdw, .int rdh, .ref zsz, .ref zit, .ref zk, .int (bI itk)])), (a, ia G 16 (upd (upd f y (wth (f y) x (s &&& (nI 1)))) y (wth ((upd f y (wth (f y) x (s &&& (nI 1)))) y) (wr (x + 1) W) ((s >>> ((nI 1) &&& 31)) &&& (nI 1)))))]) hX 1 rfl (by omega) (by omega) rfl dX9_blockBecomes_50 ?_
  refine j_aload_n (pc := 51) hX dX9_blockBecomes_51 3 rfl ?_
  refine j_iload (pc := 52) hX dX9_blockBecomes_52 0 rfl ?_
  refine j_aload_n (pc := 54) hX dX9_blockBecomes_54 3 rfl ?_
  refine j_iload (pc := 55) hX dX9_blockBecomes_55 0 rfl ?_
  refine j_ialdN (pc := 57) (j := wr (y + 1) H) hX 1 rfl (by omega) (by omega) dX9_blockBecomes_57 ?_
  refine j_iload_n (pc := 58) hX dX9_blockBecomes_58 4 rfl ?_
  refine j_iload (pc := 59) hX dX9_blockBecomes_59 6 rfl ?_
  refine j_iconstN (pc := 61) (j := 2) hX dX9_blockBecomes_61 rfl ?_
  refine j_ishr (pc := 62) hX dX9_blockBecomes_62 ?_
  refine j_iconstN (pc := 63) (j := 1) hX dX9_blockBecomes_63 rfl ?_
  refine j_iand (pc := 64) hX dX9_blockBecomes_64 ?_
  refine j_callS (pc := 65) hX kX9_with kSX9_with l_RX9_127 (fun l => c_X9_with G ((upd (upd f y (wth (f y) x (s &&& (nI 1)))) y (wth ((upd f y (wth (f y) x (s &&& (nI 1)))) y) (wr (x + 1) W) ((s >>> ((nI 1) &&& 31)) &&& (nI 1)))) (wr (y + 1) H)) x ((s >>> ((nI 2) &&& 31)) &&& (nI 1))  l) [] [0, 1] [.int (nI (wr (y + 1) H)), .ref a] rfl rfl rfl rfl ⟨rfl, rfl, by decide⟩ rfl rfl (Nat.le_of_ble_eq_true rfl) dX9_blockBecomes_65 (fun v w hq => ?_)
  obtain ⟨rfl, rfl⟩ := hq
  refine j_ws [0, 1] (ws' := [(md, .inr (9, [.int (nI W), .int (nI H), .int t, .int (nI m), .int (nI k), .ref zc, .ref zr, .ref zb, .ref z1, .ref z2, .ref z3, .ref z4, .ref z5, .ref zm, .ref zmr, .ref zmb, .int mt, .ref zca, .ref zcw, .int (nI c), .ref zg, .ref zt, .ref zs, .ref zf, .ref zy, .ref zso, .ref zsf, .ref zsm, .int nt, .int nsh, .ref ztp, .ref zrw, .ref zpp, .int (nI tn), .int (nI pn), .int rdw, .int rdh, .ref zsz, .ref zit, .ref zk, .int (bI itk)])), (a, ia G 16 (upd (upd f y (wth (f y) x (s &&& (nI 1)))) y (wth ((upd f y (wth (f y) x (s &&& (nI 1)))) y) (wr (x + 1) W) ((s >>> ((nI 1) &&& 31)) &&& (nI 1)))))]) rfl rfl ?_
  refine j_iastN (pc := 68) (j := wr (y + 1) H) (ws' := [(md, .inr (9, [.int (nI W), .int (nI H), .int t, .int (nI m), .int (nI k), .ref zc, .ref zr, .ref zb, .ref z1, .ref z2, .ref z3, .ref z4, .ref z5, .ref zm, .ref zmr, .ref zmb, .int mt, .ref zca, .ref zcw, .int (nI c), .ref zg, .ref zt, .ref zs, .ref zf, .ref zy, .ref zso, .ref zsf, .ref zsm, .int nt, .int nsh, .ref ztp, .ref zrw, .ref zpp, .int (nI tn), .int (nI pn), .int rdw, .int rdh, .ref zsz, .ref zit, .ref zk, .int (bI itk)])), (a, ia G 16 (upd (upd (upd f y (wth (f y) x (s &&& (nI 1)))) y (wth ((upd f y (wth (f y) x (s &&& (nI 1)))) y) (wr (x + 1) W) ((s >>> ((nI 1) &&& 31)) &&& (nI 1)))) (wr (y + 1) H) (wth ((upd (upd f y (wth (f y) x (s &&& (nI 1)))) y (wth ((upd f y (wth (f y) x (s &&& (nI 1)))) y) (wr (x + 1) W) ((s >>> ((nI 1) &&& 31)) &&& (nI 1)))) (wr (y + 1) H)) x ((s >>> ((nI 2) &&& 31)) &&& (nI 1)))))]) hX 1 rfl (by omega) (by omega) rfl dX9_blockBecomes_68 ?_
  refine j_aload_n (pc := 69) hX dX9_blockBecomes_69 3 rfl ?_
  refine j_iload (pc := 70) hX dX9_blockBecomes_70 0 rfl ?_
  refine j_aload_n (pc := 72) hX dX9_blockBecomes_72 3 rfl ?_
  refine j_iload (pc := 73) hX dX9_blockBecomes_73 0 rfl ?_
  refine j_ialdN (pc := 75) (j := wr (y + 1) H) hX 1 rfl (by omega) (by omega) dX9_blockBecomes_75 ?_
  refine j_iload (pc := 76) hX dX9_blockBecomes_76 1 rfl ?_
  refine j_iload (pc := 78) hX dX9_blockBecomes_78 6 rfl ?_
  refine j_iconstN (pc := 80) (j := 3) hX dX9_blockBecomes_80 rfl ?_
  refine j_ishr (pc := 81) hX dX9_blockBecomes_81 ?_
  refine j_iconstN (pc := 82) (j := 1) hX dX9_blockBecomes_82 rfl ?_
  refine j_iand (pc := 83) hX dX9_blockBecomes_83 ?_
  refine j_callS (pc := 84) hX kX9_with kSX9_with l_RX9_127 (fun l => c_X9_with G ((upd (upd (upd f y (wth (f y) x (s &&& (nI 1)))) y (wth ((upd f y (wth (f y) x (s &&& (nI 1)))) y) (wr (x + 1) W) ((s >>> ((nI 1) &&& 31)) &&& (nI 1)))) (wr (y + 1) H) (wth ((upd (upd f y (wth (f y) x (s &&& (nI 1)))) y (wth ((upd f y (wth (f y) x (s &&& (nI 1)))) y) (wr (x + 1) W) ((s >>> ((nI 1) &&& 31)) &&& (nI 1)))) (wr (y + 1) H)) x ((s >>> ((nI 2) &&& 31)) &&& (nI 1)))) (wr (y + 1) H)) (wr (x + 1) W) ((s >>> ((nI 3) &&& 31)) &&& (nI 1))  l) [] [0, 1] [.int (nI (wr (y + 1) H)), .ref a] rfl rfl rfl rfl ⟨rfl, rfl, by decide⟩ rfl rfl (Nat.le_of_ble_eq_true rfl) dX9_blockBecomes_84 (fun v w hq => ?_)
  obtain ⟨rfl, rfl⟩ := hq
  refine j_ws [0, 1] (ws' := [(md, .inr (9, [.int (nI W), .int (nI H), .int t, .int (nI m), .int (nI k), .ref zc, .ref zr, .ref zb, .ref z1, .ref z2, .ref z3, .ref z4, .ref z5, .ref zm, .ref zmr, .ref zmb, .int mt, .ref zca, .ref zcw, .int (nI c), .ref zg, .ref zt, .ref zs, .ref zf, .ref zy, .ref zso, .ref zsf, .ref zsm, .int nt, .int nsh, .ref ztp, .ref zrw, .ref zpp, .int (nI tn), .int (nI pn), .int rdw, .int rdh, .ref zsz, .ref zit, .ref zk, .int (bI itk)])), (a, ia G 16 (upd (upd (upd f y (wth (f y) x (s &&& (nI 1)))) y (wth ((upd f y (wth (f y) x (s &&& (nI 1)))) y) (wr (x + 1) W) ((s >>> ((nI 1) &&& 31)) &&& (nI 1)))) (wr (y + 1) H) (wth ((upd (upd f y (wth (f y) x (s &&& (nI 1)))) y (wth ((upd f y (wth (f y) x (s &&& (nI 1)))) y) (wr (x + 1) W) ((s >>> ((nI 1) &&& 31)) &&& (nI 1)))) (wr (y + 1) H)) x ((s >>> ((nI 2) &&& 31)) &&& (nI 1)))))]) rfl rfl ?_
  refine j_iastN (pc := 87) (j := wr (y + 1) H) (ws' := [(md, .inr (9, [.int (nI W), .int (nI H), .int t, .int (nI m), .int (nI k), .ref zc, .ref zr, .ref zb, .ref z1, .ref z2, .ref z3, .ref z4, .ref z5, .ref zm, .ref zmr, .ref zmb, .int mt, .ref zca, .ref zcw, .int (nI c), .ref zg, .ref zt, .ref zs, .ref zf, .ref zy, .ref zso, .ref zsf, .ref zsm, .int nt, .int nsh, .ref ztp, .ref zrw, .ref zpp, .int (nI tn), .int (nI pn), .int rdw, .int rdh, .ref zsz, .ref zit, .ref zk, .int (bI itk)])), (a, ia G 16 (upd (upd (upd (upd f y (wth (f y) x (s &&& (nI 1)))) y (wth ((upd f y (wth (f y) x (s &&& (nI 1)))) y) (wr (x + 1) W) ((s >>> ((nI 1) &&& 31)) &&& (nI 1)))) (wr (y + 1) H) (wth ((upd (upd f y (wth (f y) x (s &&& (nI 1)))) y (wth ((upd f y (wth (f y) x (s &&& (nI 1)))) y) (wr (x + 1) W) ((s >>> ((nI 1) &&& 31)) &&& (nI 1)))) (wr (y + 1) H)) x ((s >>> ((nI 2) &&& 31)) &&& (nI 1)))) (wr (y + 1) H) (wth ((upd (upd (upd f y (wth (f y) x (s &&& (nI 1)))) y (wth ((upd f y (wth (f y) x (s &&& (nI 1)))) y) (wr (x + 1) W) ((s >>> ((nI 1) &&& 31)) &&& (nI 1)))) (wr (y + 1) H) (wth ((upd (upd f y (wth (f y) x (s &&& (nI 1)))) y (wth ((upd f y (wth (f y) x (s &&& (nI 1)))) y) (wr (x + 1) W) ((s >>> ((nI 1) &&& 31)) &&& (nI 1)))) (wr (y + 1) H)) x ((s >>> ((nI 2) &&& 31)) &&& (nI 1)))) (wr (y + 1) H)) (wr (x + 1) W) ((s >>> ((nI 3) &&& 31)) &&& (nI 1)))))]) hX 1 rfl (by omega) (by omega) rfl dX9_blockBecomes_87 ?_
  refine j_ia (q0 := 1) (f := upd (upd (upd (upd f y (wth (f y) x (s &&& (nI 1)))) y (wth ((upd f y (wth (f y) x (s &&& (nI 1)))) y) (wr (x + 1) W) ((s >>> ((nI 1) &&& 31)) &&& (nI 1)))) (wr (y + 1) H) (wth ((upd (upd f y (wth (f y) x (s &&& (nI 1)))) y (wth ((upd f y (wth (f y) x (s &&& (nI 1)))) y) (wr (x + 1) W) ((s >>> ((nI 1) &&& 31)) &&& (nI 1)))) (wr (y + 1) H)) x ((s >>> ((nI 2) &&& 31)) &&& (nI 1)))) (wr (y + 1) H) (wth ((upd (upd (upd f y (wth (f y) x (s &&& (nI 1)))) y (wth ((upd f y (wth (f y) x (s &&& (nI 1)))) y) (wr (x + 1) W) ((s >>> ((nI 1) &&& 31)) &&& (nI 1)))) (wr (y + 1) H) (wth ((upd (upd f y (wth (f y) x (s &&& (nI 1)))) y (wth ((upd f y (wth (f y) x (s &&& (nI 1)))) y) (wr (x + 1) W) ((s >>> ((nI 1) &&& 31)) &&& (nI 1)))) (wr (y + 1) H)) x ((s >>> ((nI 2) &&& 31)) &&& (nI 1)))) (wr (y + 1) H)) (wr (x + 1) W) ((s >>> ((nI 3) &&& 31)) &&& (nI 1)))) (g := ptA W H f x y s) rfl (fun z hz => by exact put_ref hx hy ⟨hW1, hW2⟩ ⟨hH1, hH2⟩ z) (ws' := [(md, .inr (9, [.int (nI W), .int (nI H), .int t, .int (nI m), .int (nI k), .ref zc, .ref zr, .ref zb, .ref z1, .ref z2, .ref z3, .ref z4, .ref z5, .ref zm, .ref zmr, .ref zmb, .int mt, .ref zca, .ref zcw, .int (nI c), .ref zg, .ref zt, .ref zs, .ref zf, .ref zy, .ref zso, .ref zsf, .ref zsm, .int nt, .int nsh, .ref ztp, .ref zrw, .ref zpp, .int (nI tn), .int (nI pn), .int rdw, .int rdh, .ref zsz, .ref zit, .ref zk, .int (bI itk)])), (a, ia G 16 (ptA W H f x y s))]) rfl ?_
  exact j_vret (pc := 88) hX hR dX9_blockBecomes_88 ⟨rfl, rfl⟩
set_option maxHeartbeats 4000000 in
set_option maxRecDepth 100000 in
theorem c_X9_blocks (G : GT) (md : Nat) (W : Nat) (H : Nat) (t : Int32) (m : Nat) (k : Nat) (zc : Nat) (zr : Nat) (zb : Nat) (z1 : Nat) (z2 : Nat) (z3 : Nat) (z4 : Nat) (z5 : Nat) (zm : Nat) (zmr : Nat) (zmb : Nat) (mt : Int32) (zca : Nat) (zcw : Nat) (c : Nat) (zg : Nat) (zt : Nat) (zs : Nat) (zf : Nat) (zy : Nat) (zso : Nat) (zsf : Nat) (zsm : Nat) (nt : Int32) (nsh : Int32) (ztp : Nat) (zrw : Nat) (zpp : Nat) (tn : Nat) (pn : Nat) (rdw : Int32) (rdh : Int32) (zsz : Nat) (zit : Nat) (zk : Nat) (itk : Bool) (f : Nat → Int32) (p : Nat → Nat) (a e bb : Nat) (f : Nat → Int32) (hW1 : 2 ≤ W) (hW2 : W ≤ 16) (hH1 : 2 ≤ H) (hH2 : H ≤ 16) (hW3 : W % 2 = 0) (hH3 : H % 2 = 0) (hph : e < 2) (l : Launch) : CT l G yX9_blocks cX9_blocks 6 none { frames := 2, cells := 0, slots := 0, locals := 48 } [.ref md, .ref a, .int (nI e), .ref bb] [(md, .inr (9, [.int (nI W), .int (nI H), .int t, .int (nI m), .int (nI k), .ref zc, .ref zr, .ref zb, .ref z1, .ref z2, .ref z3, .ref z4, .ref z5, .ref zm, .ref zmr, .ref zmb, .int mt, .ref zca, .ref zcw, .int (nI c), .ref zg, .ref zt, .ref zs, .ref zf, .ref zy, .ref zso, .ref zsf, .ref zsm, .int nt, .int nsh, .ref ztp, .ref zrw, .ref zpp, .int (nI tn), .int (nI pn), .int rdw, .int rdh, .ref zsz, .ref zit, .ref zk, .int (bI itk)])), (a, ia G 16 f), (bb, ia G 16 (fun ι => nI (p ι)))] (fun vv ww => vv = none ∧ ww = [(md, .inr (9, [.int (nI W), .int (nI H), .int t, .int (nI m), .int (nI k), .ref zc, .ref zr, .ref zb, .ref z1, .ref z2, .ref z3, .ref z4, .ref z5, .ref zm, .ref zmr, .ref zmb, .int mt, .ref zca, .ref zcw, .int (nI c), .ref zg, .ref zt, .ref zs, .ref zf, .ref zy, .ref zso, .ref zsf, .ref zsm, .int nt, .int nsh, .ref ztp, .ref zrw, .ref zpp, .int (nI tn), .int (nI pn), .int rdw, .int rdh, .ref zsz, .ref zit, .ref zk, .int (bI itk)])), (a, ia G 16 (turn W H p e f)), (bb, ia G 16 (fun ι => nI (p ι)))]) := by
  refine CT.of (lv := [(0, .ref md), (1, .ref a), (2, .int (nI e)), (3, .ref bb)]) RX9 "blocks" rfl rfl (by decide +kernel) (Nat.le_of_ble_eq_true rfl) rfl (fun X hX hR => ?_)
  refine j_iload_n (pc := 0) hX dX9_blocks_0 2 rfl ?_
  refine j_istore (pc := 1) (lv' := [(4, .int (nI e)), (0, .ref md), (1, .ref a), (2, .int (nI e)), (3, .ref bb)]) hX dX9_blocks_1 (by decide) rfl ?_
  have L3 : ∀ (m3 : Nat) (i y : Nat) (f3 : Nat → Int32) (hy : y = e + 2 * i) (hi : i ≤ H / 2) (h3 : f3 = tG W H p e i f), H - y < m3 → J X G 6 0 0 [(md, .inr (9, [.int (nI W), .int (nI H), .int t, .int (nI m), .int (nI k), .ref zc, .ref zr, .ref zb, .ref z1, .ref z2, .ref z3, .ref z4, .ref z5, .ref zm, .ref zmr, .ref zmb, .int mt, .ref zca, .ref zcw, .int (nI c), .ref zg, .ref zt, .ref zs, .ref zf, .ref zy, .ref zso, .ref zsf, .ref zsm, .int nt, .int nsh, .ref ztp, .ref zrw, .ref zpp, .int (nI tn), .int (nI pn), .int rdw, .int rdh, .ref zsz, .ref zit, .ref zk, .int (bI itk)])), (a, ia G 16 f3), (bb, ia G 16 (fun ι => nI (p ι)))] [(0, .ref md), (1, .ref a), (2, .int (nI e)), (3, .ref bb), (4, .int (nI y))] 3 [] := by
    intro m3
    induction m3 with
    | zero => intro i y f3 hy hi h3 hm3; exact absurd hm3 (Nat.not_lt_zero _)
    | succ m3 ih3 =>
      intro i y f3 hy hi h3 hm3
      refine j_iload (pc := 3) hX dX9_blocks_3 4 rfl ?_
      refine j_aload_n (pc := 5) hX dX9_blocks_5 0 rfl ?_
      refine j_get (pc := 6) hX f_RX9_15 0 rfl rfl dX9_blocks_6 ?_
      refine j_icmp_ge (pc := 9) (tgt := 56) hX dX9_blocks_9 (by decide) (nI_toInt (n := y) (by omega)) (nI_toInt (n := H) (by omega)) (fun c9 => ?_) (fun c9 => ?_)
      · skip
        refine j_ia (q0 := 1) (f := f3) (g := turn W H p e f) rfl (fun z hz => by (rw [h3, show i = H / 2 from by omega]; rfl)) (ws' := [(md, .inr (9, [.int (nI W), .int (nI H), .int t, .int (nI m), .int (nI k), .ref zc, .ref zr, .ref zb, .ref z1, .ref z2, .ref z3, .ref z4, .ref z5, .ref zm, .ref zmr, .ref zmb, .int mt, .ref zca, .ref zcw, .int (nI c), .ref zg, .ref zt, .ref zs, .ref zf, .ref zy, .ref zso, .ref zsf, .ref zsm, .int nt, .int nsh, .ref ztp, .ref zrw, .ref zpp, .int (nI tn), .int (nI pn), .int rdw, .int rdh, .ref zsz, .ref zit, .ref zk, .int (bI itk)])), (a, ia G 16 (turn W H p e f)), (bb, ia G 16 (fun ι => nI (p ι)))]) rfl ?_
        exact j_vret (pc := 56) hX hR dX9_blocks_56 ⟨rfl, rfl⟩
      · skip
        refine j_iload_n (pc := 12) hX dX9_blocks_12 2 rfl ?_
        refine j_istore (pc := 13) (lv' := [(5, .int (nI e)), (0, .ref md), (1, .ref a), (2, .int (nI e)), (3, .ref bb), (4, .int (nI y))]) hX dX9_blocks_13 (by decide) rfl ?_
        have L15 : ∀ (m15 : Nat) (c5 x : Nat) (f4 : Nat → Int32) (hx : x = e + 2 * c5) (hc : c5 ≤ W / 2) (h4 : f4 = tL W H p y e c5 f3), W - x < m15 → J X G 6 0 0 [(md, .inr (9, [.int (nI W), .int (nI H), .int t, .int (nI m), .int (nI k), .ref zc, .ref zr, .ref zb, .ref z1, .ref z2, .ref z3, .ref z4, .ref z5, .ref zm, .ref zmr, .ref zmb, .int mt, .ref zca, .ref zcw, .int (nI c), .ref zg, .ref zt, .ref zs, .ref zf, .ref zy, .ref zso, .ref zsf, .ref zsm, .int nt, .int nsh, .ref ztp, .ref zrw, .ref zpp, .int (nI tn), .int (nI pn), .int rdw, .int rdh, .ref zsz, .ref zit, .ref zk, .int (bI itk)])), (a, ia G 16 f4), (bb, ia G 16 (fun ι => nI (p ι)))] [(0, .ref md), (1, .ref a), (2, .int (nI e)), (3, .ref bb), (4, .int (nI y)), (5, .int (nI x))] 15 [] := by
          intro m15
          induction m15 with
          | zero => intro c5 x f4 hx hc h4 hm15; exact absurd hm15 (Nat.not_lt_zero _)
          | succ m15 ih15 =>
            intro c5 x f4 hx hc h4 hm15
            refine j_iload (pc := 15) hX dX9_blocks_15 5 rfl ?_
            refine j_aload_n (pc := 17) hX dX9_blocks_17 0 rfl ?_
            refine j_get (pc := 18) hX f_RX9_9 0 rfl rfl dX9_blocks_18 ?_
            refine j_icmp_ge (pc := 21) (tgt := 50) hX dX9_blocks_21 (by decide) (nI_toInt (n := x) (by omega)) (nI_toInt (n := W) (by omega)) (fun c21 => ?_) (fun c21 => ?_)
            · skip
              refine j_iinc (pc := 50) (q := 4) (v := nI (y + 2)) (lv' := [(4, .int (nI (y + 2))), (0, .ref md), (1, .ref a), (2, .int (nI e)), (3, .ref bb), (5, .int (nI x))]) hX dX9_blocks_50 rfl (nI_inc _ 2) (by decide) rfl ?_
              refine j_goto (pc := 53) (tgt := 3) hX dX9_blocks_53 (by decide) ?_
              refine j_lv [1, 2, 3, 4, 0] (lv' := [(0, .ref md), (1, .ref a), (2, .int (nI e)), (3, .ref bb), (4, .int (nI (y + 2)))]) rfl ?_
              exact ih3 (i + 1) (y + 2) f4 (by omega) (by omega) (by rw [h4, h3, hy, show c5 = W / 2 from by omega]; rfl) (by omega)
            · skip
              refine j_aload_n (pc := 24) hX dX9_blocks_24 0 rfl ?_
              refine j_aload_n (pc := 25) hX dX9_blocks_25 1 rfl ?_
              refine j_iload (pc := 26) hX dX9_blocks_26 5 rfl ?_
              refine j_iload (pc := 28) hX dX9_blocks_28 4 rfl ?_
              refine j_aload_n (pc := 30) hX dX9_blocks_30 3 rfl ?_
              refine j_aload_n (pc := 31) hX dX9_blocks_31 0 rfl ?_
              refine j_aload_n (pc := 32) hX dX9_blocks_32 1 rfl ?_
              refine j_iload (pc := 33) hX dX9_blocks_33 5 rfl ?_
              refine j_iload (pc := 35) hX dX9_blocks_35 4 rfl ?_
              refine j_callV (pc := 37) hX kX9_blockAt kVX9_blockAt l_RX9_131 (fun l => c_X9_blockAt G md W H t m k zc zr zb z1 z2 z3 z4 z5 zm zmr zmb mt zca zcw c zg zt zs zf zy zso zsf zsm nt nsh ztp zrw zpp tn pn rdw rdh zsz zit zk itk f4 a x y f4 (by omega) (by omega) (by omega) (by omega) (by omega) (by omega) l) [0, 1] [2] [.ref bb, .int (nI y), .int (nI x), .ref a, .ref md] rfl 0 9 rfl rfl rfl rfl rfl rfl ⟨rfl, rfl, by decide⟩ rfl rfl (Nat.le_of_ble_eq_true rfl) dX9_blocks_37 (fun v w hq => ?_)
              obtain ⟨rfl, rfl⟩ := hq
              refine j_ws [1, 2, 0] (ws' := [(md, .inr (9, [.int (nI W), .int (nI H), .int t, .int (nI m), .int (nI k), .ref zc, .ref zr, .ref zb, .ref z1, .ref z2, .ref z3, .ref z4, .ref z5, .ref zm, .ref zmr, .ref zmb, .int mt, .ref zca, .ref zcw, .int (nI c), .ref zg, .ref zt, .ref zs, .ref zf, .ref zy, .ref zso, .ref zsf, .ref zsm, .int nt, .int nsh, .ref ztp, .ref zrw, .ref zpp, .int (nI tn), .int (nI pn), .int rdw, .int rdh, .ref zsz, .ref zit, .ref zk, .int (bI itk)])), (a, ia G 16 f4), (bb, ia G 16 (fun ι => nI (p ι)))]) rfl rfl ?_
              refine j_ialdN (pc := 40) (j := stA W H f4 x y) hX 2 rfl (stA_lt W H f4 x y) (by omega) dX9_blocks_40 ?_
              refine j_callV (pc := 41) hX kX9_blockBecomes kVX9_blockBecomes l_RX9_135 (fun l => c_X9_blockBecomes G md W H t m k zc zr zb z1 z2 z3 z4 z5 zm zmr zmb mt zca zcw c zg zt zs zf zy zso zsf zsm nt nsh ztp zrw zpp tn pn rdw rdh zsz zit zk itk f4 a x y (nI (p (stA W H f4 x y))) f4 (by omega) (by omega) (by omega) (by omega) (by omega) (by omega) l) [0, 1] [2] [] rfl 0 9 rfl rfl rfl rfl rfl rfl ⟨rfl, rfl, by decide⟩ rfl rfl (Nat.le_of_ble_eq_true rfl) dX9_blocks_41 (fun v w hq => ?_)
              obtain ⟨rfl, rfl⟩ := hq
              refine j_ws [1, 2, 0] (ws' := [(md, .inr (9, [.int (nI W), .int (nI H), .int t, .int (nI m), .int (nI k), .ref zc, .ref zr, .ref zb, .ref z1, .ref z2, .ref z3, .ref z4, .ref z5, .ref zm, .ref zmr, .ref zmb, .int mt, .ref zca, .ref zcw, .int (nI c), .ref zg, .ref zt, .ref zs, .ref zf, .ref zy, .ref zso, .ref zsf, .ref zsm, .int nt, .int nsh, .ref ztp, .ref zrw, .ref zpp, .int (nI tn), .int (nI pn), .int rdw, .int rdh, .ref zsz, .ref zit, .ref zk, .int (bI itk)])), (a, ia G 16 (ptA W H f4 x y (nI (p (stA W H f4 x y))))), (bb, ia G 16 (fun ι => nI (p ι)))]) rfl rfl ?_
              refine j_iinc (pc := 44) (q := 5) (v := nI (x + 2)) (lv' := [(5, .int (nI (x + 2))), (0, .ref md), (1, .ref a), (2, .int (nI e)), (3, .ref bb), (4, .int (nI y))]) hX dX9_blocks_44 rfl (nI_inc _ 2) (by decide) rfl ?_
              refine j_goto (pc := 47) (tgt := 15) hX dX9_blocks_47 (by decide) ?_
              refine j_lv [1, 2, 3, 4, 5, 0] (lv' := [(0, .ref md), (1, .ref a), (2, .int (nI e)), (3, .ref bb), (4, .int (nI y)), (5, .int (nI (x + 2)))]) rfl ?_
              exact ih15 (c5 + 1) (x + 2) (ptA W H f4 x y (nI (p (stA W H f4 x y)))) (by omega) (by omega) (by rw [h4, hx]; rfl) (by omega)
        refine j_lv [1, 2, 3, 4, 5, 0] (lv' := [(0, .ref md), (1, .ref a), (2, .int (nI e)), (3, .ref bb), (4, .int (nI y)), (5, .int (nI e))]) rfl ?_
        exact L15 ((W - e) + 1) 0 e f3 (by omega) (by omega) (rfl) (Nat.lt_succ_self _)
  refine j_lv [1, 2, 3, 4, 0] (lv' := [(0, .ref md), (1, .ref a), (2, .int (nI e)), (3, .ref bb), (4, .int (nI e))]) rfl ?_
  exact L3 ((H - e) + 1) 0 e f (by omega) (by omega) (rfl) (Nat.lt_succ_self _)
set_option maxHeartbeats 4000000 in
set_option maxRecDepth 100000 in
theorem c_X9_minds (G : GT) (md : Nat) (W : Nat) (H : Nat) (t : Int32) (m : Nat) (k : Nat) (zc : Nat) (zr : Nat) (zb : Nat) (z1 : Nat) (z2 : Nat) (z3 : Nat) (z4 : Nat) (z5 : Nat) (zm : Nat) (zmr : Nat) (zmb : Nat) (mt : Int32) (zca : Nat) (zcw : Nat) (c : Nat) (zg : Nat) (zt : Nat) (zs : Nat) (zf : Nat) (zy : Nat) (zso : Nat) (zsf : Nat) (zsm : Nat) (nt : Int32) (nsh : Int32) (ztp : Nat) (zrw : Nat) (zpp : Nat) (tn : Nat) (pn : Nat) (rdw : Int32) (rdh : Int32) (zsz : Nat) (zit : Nat) (zk : Nat) (itk : Bool) (f : Nat → Int32) (p : Nat → Nat) (mf : Nat → Int32) (mrf : Nat → Int32) (mbf : Nat → Int32) (q : Nat → Nat) (hp : isP p q) (l : Launch) : CT l G yX9_minds cX9_minds 1 none { frames := 1, cells := 0, slots := 0, locals := 22 } [.ref md] [(md, .inr (9, [.int (nI W), .int (nI H), .int t, .int (nI m), .int (nI k), .ref zc, .ref zr, .ref zb, .ref z1, .ref z2, .ref z3, .ref z4, .ref z5, .ref zm, .ref zmr, .ref zmb, .int mt, .ref zca, .ref zcw, .int (nI c), .ref zg, .ref zt, .ref zs, .ref zf, .ref zy, .ref zso, .ref zsf, .ref zsm, .int nt, .int nsh, .ref ztp, .ref zrw, .ref zpp, .int (nI tn), .int (nI pn), .int rdw, .int rdh, .ref zsz, .ref zit, .ref zk, .int (bI itk)])), (zc, ia G 16 f), (zr, ia G 16 (fun ι => nI (p ι))), (zm, ia G 16 mf), (zmr, ia G 16 mrf), (zmb, ia G 16 mbf)] (fun vv ww => vv = none ∧ ww = [(md, .inr (9, [.int (nI W), .int (nI H), .int t, .int (nI m), .int (nI k), .ref zc, .ref zr, .ref zb, .ref z1, .ref z2, .ref z3, .ref z4, .ref z5, .ref zm, .ref zmr, .ref zmb, .int t, .ref zca, .ref zcw, .int (nI c), .ref zg, .ref zt, .ref zs, .ref zf, .ref zy, .ref zso, .ref zsf, .ref zsm, .int nt, .int nsh, .ref ztp, .ref zrw, .ref zpp, .int (nI tn), .int (nI pn), .int rdw, .int rdh, .ref zsz, .ref zit, .ref zk, .int (bI itk)])), (zc, ia G 16 f), (zr, ia G 16 (fun ι => nI (p ι))), (zm, ia G 16 f), (zmr, ia G 16 (fun ι => nI (p ι))), (zmb, ia G 16 (fun ι => nI (q ι)))]) := by
  refine CT.of (lv := [(0, .ref md)]) RX9 "minds" rfl rfl (by decide +kernel) (Nat.le_of_ble_eq_true rfl) rfl (fun X hX hR => ?_)
  refine j_aload_n (pc := 0) hX dX9_minds_0 0 rfl ?_
  refine j_get (pc := 1) hX f_RX9_18 0 rfl rfl dX9_minds_1 ?_
  refine j_aload_n (pc := 4) hX dX9_minds_4 0 rfl ?_
  refine j_get (pc := 5) hX f_RX9_43 0 rfl rfl dX9_minds_5 ?_
  refine j_callS (pc := 8) hX kX9_copies kSX9_copies l_RX9_139 (fun l => c_X9_copies G zc zm f mf  l) [1, 3] [0, 2, 4, 5] [] rfl rfl rfl rfl ⟨rfl, rfl, by decide⟩ rfl rfl (Nat.le_of_ble_eq_true rfl) dX9_minds_8 (fun v w hq => ?_)
  obtain ⟨rfl, rfl⟩ := hq
  refine j_ws [0, 4, 1, 5, 2, 3] (ws' := [(md, .inr (9, [.int (nI W), .int (nI H), .int t, .int (nI m), .int (nI k), .ref zc, .ref zr, .ref zb, .ref z1, .ref z2, .ref z3, .ref z4, .ref z5, .ref zm, .ref zmr, .ref zmb, .int mt, .ref zca, .ref zcw, .int (nI c), .ref zg, .ref zt, .ref zs, .ref zf, .ref zy, .ref zso, .ref zsf, .ref zsm, .int nt, .int nsh, .ref ztp, .ref zrw, .ref zpp, .int (nI tn), .int (nI pn), .int rdw, .int rdh, .ref zsz, .ref zit, .ref zk, .int (bI itk)])), (zc, ia G 16 f), (zr, ia G 16 (fun ι => nI (p ι))), (zm, ia G 16 f), (zmr, ia G 16 mrf), (zmb, ia G 16 mbf)]) rfl rfl ?_
  refine j_aload_n (pc := 11) hX dX9_minds_11 0 rfl ?_
  refine j_get (pc := 12) hX f_RX9_22 0 rfl rfl dX9_minds_12 ?_
  refine j_aload_n (pc := 15) hX dX9_minds_15 0 rfl ?_
  refine j_get (pc := 16) hX f_RX9_46 0 rfl rfl dX9_minds_16 ?_
  refine j_callS (pc := 19) hX kX9_copies kSX9_copies l_RX9_139 (fun l => c_X9_copies G zr zmr (fun ι => nI (p ι)) mrf  l) [2, 4] [0, 1, 3, 5] [] rfl rfl rfl rfl ⟨rfl, rfl, by decide⟩ rfl rfl (Nat.le_of_ble_eq_true rfl) dX9_minds_19 (fun v w hq => ?_)
  obtain ⟨rfl, rfl⟩ := hq
  refine j_ws [0, 1, 4, 2, 5, 3] (ws' := [(md, .inr (9, [.int (nI W), .int (nI H), .int t, .int (nI m), .int (nI k), .ref zc, .ref zr, .ref zb, .ref z1, .ref z2, .ref z3, .ref z4, .ref z5, .ref zm, .ref zmr, .ref zmb, .int mt, .ref zca, .ref zcw, .int (nI c), .ref zg, .ref zt, .ref zs, .ref zf, .ref zy, .ref zso, .ref zsf, .ref zsm, .int nt, .int nsh, .ref ztp, .ref zrw, .ref zpp, .int (nI tn), .int (nI pn), .int rdw, .int rdh, .ref zsz, .ref zit, .ref zk, .int (bI itk)])), (zc, ia G 16 f), (zr, ia G 16 (fun ι => nI (p ι))), (zm, ia G 16 f), (zmr, ia G 16 (fun ι => nI (p ι))), (zmb, ia G 16 mbf)]) rfl rfl ?_
  refine j_aload_n (pc := 22) hX dX9_minds_22 0 rfl ?_
  refine j_get (pc := 23) hX f_RX9_46 0 rfl rfl dX9_minds_23 ?_
  refine j_aload_n (pc := 26) hX dX9_minds_26 0 rfl ?_
  refine j_get (pc := 27) hX f_RX9_49 0 rfl rfl dX9_minds_27 ?_
  refine j_callS (pc := 30) hX kX9_inverse kSX9_inverse l_RX9_123 (fun l => c_X9_inverse G zmr zmb p q mbf (by assumption) l) [4, 5] [0, 1, 2, 3] [] rfl rfl rfl rfl ⟨rfl, rfl, by decide⟩ rfl rfl (Nat.le_of_ble_eq_true rfl) dX9_minds_30 (fun v w hq => ?_)
  obtain ⟨rfl, rfl⟩ := hq
  refine j_ws [0, 1, 2, 3, 4, 5] (ws' := [(md, .inr (9, [.int (nI W), .int (nI H), .int t, .int (nI m), .int (nI k), .ref zc, .ref zr, .ref zb, .ref z1, .ref z2, .ref z3, .ref z4, .ref z5, .ref zm, .ref zmr, .ref zmb, .int mt, .ref zca, .ref zcw, .int (nI c), .ref zg, .ref zt, .ref zs, .ref zf, .ref zy, .ref zso, .ref zsf, .ref zsm, .int nt, .int nsh, .ref ztp, .ref zrw, .ref zpp, .int (nI tn), .int (nI pn), .int rdw, .int rdh, .ref zsz, .ref zit, .ref zk, .int (bI itk)])), (zc, ia G 16 f), (zr, ia G 16 (fun ι => nI (p ι))), (zm, ia G 16 f), (zmr, ia G 16 (fun ι => nI (p ι))), (zmb, ia G 16 (fun ι => nI (q ι)))]) rfl rfl ?_
  refine j_aload_n (pc := 33) hX dX9_minds_33 0 rfl ?_
  refine j_aload_n (pc := 34) hX dX9_minds_34 0 rfl ?_
  refine j_get (pc := 35) hX f_RX9_142 0 rfl rfl dX9_minds_35 ?_
  refine j_put (pc := 38) (ws' := [(md, .inr (9, [.int (nI W), .int (nI H), .int t, .int (nI m), .int (nI k), .ref zc, .ref zr, .ref zb, .ref z1, .ref z2, .ref z3, .ref z4, .ref z5, .ref zm, .ref zmr, .ref zmb, .int t, .ref zca, .ref zcw, .int (nI c), .ref zg, .ref zt, .ref zs, .ref zf, .ref zy, .ref zso, .ref zsf, .ref zsm, .int nt, .int nsh, .ref ztp, .ref zrw, .ref zpp, .int (nI tn), .int (nI pn), .int rdw, .int rdh, .ref zsz, .ref zit, .ref zk, .int (bI itk)])), (zc, ia G 16 f), (zr, ia G 16 (fun ι => nI (p ι))), (zm, ia G 16 f), (zmr, ia G 16 (fun ι => nI (p ι))), (zmb, ia G 16 (fun ι => nI (q ι)))]) hX f_RX9_145 0 rfl rfl rfl (Nat.le_of_ble_eq_true rfl) rfl dX9_minds_38 ?_
  exact j_vret (pc := 41) hX hR dX9_minds_41 ⟨rfl, rfl⟩
set_option maxHeartbeats 4000000 in
set_option maxRecDepth 100000 in
theorem c_X9_goes (G : GT) (md : Nat) (W : Nat) (H : Nat) (t : Int32) (m : Nat) (k : Nat) (zc : Nat) (zr : Nat) (zb : Nat) (z1 : Nat) (z2 : Nat) (z3 : Nat) (z4 : Nat) (z5 : Nat) (zm : Nat) (zmr : Nat) (zmb : Nat) (mt : Int32) (zca : Nat) (zcw : Nat) (c : Nat) (zg : Nat) (zt : Nat) (zs : Nat) (zf : Nat) (zy : Nat) (zso : Nat) (zsf : Nat) (zsm : Nat) (nt : Int32) (nsh : Int32) (ztp : Nat) (zrw : Nat) (zpp : Nat) (tn : Nat) (pn : Nat) (rdw : Int32) (rdh : Int32) (zsz : Nat) (zit : Nat) (zk : Nat) (itk : Bool) (mf : Nat → Int32) (mp : Nat → Nat) (mq : Nat → Nat) (n : Int32) (hW1 : 2 ≤ W) (hW2 : W ≤ 16) (hH1 : 2 ≤ H) (hH2 : H ≤ 16) (hW3 : W % 2 = 0) (hH3 : H % 2 = 0) (hn : -200 ≤ n.toInt ∧ n.toInt ≤ 200) (l : Launch) : CT l G yX9_goes cX9_goes 3 none { frames := 3, cells := 0, slots := 0, locals := 73 } [.ref md, .int n] [(md, .inr (9, [.int (nI W), .int (nI H), .int t, .int (nI m), .int (nI k), .ref zc, .ref zr, .ref zb, .ref z1, .ref z2, .ref z3, .ref z4, .ref z5, .ref zm, .ref zmr, .ref zmb, .int mt, .ref zca, .ref zcw, .int (nI c), .ref zg, .ref zt, .ref zs, .ref zf, .ref zy, .ref zso, .ref zsf, .ref zsm, .int nt, .int nsh, .ref ztp, .ref zrw, .ref zpp, .int (nI tn), .int (nI pn), .int rdw, .int rdh, .ref zsz, .ref zit, .ref zk, .int (bI itk)])), (zm, ia G 16 mf), (zmr, ia G 16 (fun ι => nI (mp ι))), (zmb, ia G 16 (fun ι => nI (mq ι)))] (fun vv ww => vv = none ∧ ww = [(md, .inr (9, [.int (nI W), .int (nI H), .int t, .int (nI m), .int (nI k), .ref zc, .ref zr, .ref zb, .ref z1, .ref z2, .ref z3, .ref z4, .ref z5, .ref zm, .ref zmr, .ref zmb, .int (mt + n), .ref zca, .ref zcw, .int (nI c), .ref zg, .ref zt, .ref zs, .ref zf, .ref zy, .ref zso, .ref zsf, .ref zsm, .int nt, .int nsh, .ref ztp, .ref zrw, .ref zpp, .int (nI tn), .int (nI pn), .int rdw, .int rdh, .ref zsz, .ref zit, .ref zk, .int (bI itk)])), (zm, ia G 16 (goF W H mp mq mt n mf)), (zmr, ia G 16 (fun ι => nI (mp ι))), (zmb, ia G 16 (fun ι => nI (mq ι)))]) := by
  refine CT.of (lv := [(0, .ref md), (1, .int n)]) RX9 "goes" rfl rfl (by decide +kernel) (Nat.le_of_ble_eq_true rfl) rfl (fun X hX hR => ?_)
  refine j_iconstN (pc := 0) (j := 0) hX dX9_goes_0 rfl ?_
  refine j_istore_n (pc := 1) (lv' := [(2, .int (nI 0)), (0, .ref md), (1, .int n)]) hX dX9_goes_1 (by decide) rfl ?_
  have L2 : ∀ (m2 : Nat) (i : Nat) (t3 : Int32) (f3 : Nat → Int32) (hi : i = 0 ∨ (i : Int) ≤ n.toInt) (ht : t3 = mt + nI i) (h3 : f3 = gF W H mp mt i mf), (n.toInt - i).toNat < m2 → J X G 3 0 0 [(md, .inr (9, [.int (nI W), .int (nI H), .int t, .int (nI m), .int (nI k), .ref zc, .ref zr, .ref zb, .ref z1, .ref z2, .ref z3, .ref z4, .ref z5, .ref zm, .ref zmr, .ref zmb, .int t3, .ref zca, .ref zcw, .int (nI c), .ref zg, .ref zt, .ref zs, .ref zf, .ref zy, .ref zso, .ref zsf, .ref zsm, .int nt, .int nsh, .ref ztp, .ref zrw, .ref zpp, .int (nI tn), .int (nI pn), .int rdw, .int rdh, .ref zsz, .ref zit, .ref zk, .int (bI itk)])), (zm, ia G 16 f3), (zmr, ia G 16 (fun ι => nI (mp ι))), (zmb, ia G 16 (fun ι => nI (mq ι)))] [(0, .ref md), (1, .int n), (2, .int (nI i))] 2 [] := by
    intro m2
    induction m2 with
    | zero => intro i t3 f3 hi ht h3 hm2; exact absurd hm2 (Nat.not_lt_zero _)
    | succ m2 ih2 =>
      intro i t3 f3 hi ht h3 hm2
      refine j_iload_n (pc := 2) hX dX9_goes_2 2 rfl ?_
      refine j_iload_n (pc := 3) hX dX9_goes_3 1 rfl ?_
      refine j_icmp_ge (pc := 4) (tgt := 41) hX dX9_goes_4 (by decide) (nI_toInt (n := i) (by omega)) rfl (fun c4 => ?_) (fun c4 => ?_)
      · skip
        refine j_iconstN (pc := 41) (j := 0) hX dX9_goes_41 rfl ?_
        refine j_istore_n (pc := 42) (lv' := [(2, .int (nI 0)), (0, .ref md), (1, .int n)]) hX dX9_goes_42 (by decide) rfl ?_
        have L43 : ∀ (m43 : Nat) (j : Nat) (z t4 : Int32) (f4 : Nat → Int32) (hj : j = 0 ∨ (j : Int) ≤ -n.toInt) (hz : z.toInt = -(j : Int)) (ht4 : t4 = t3 - nI j) (h4 : f4 = gB W H mq t3 j f3), (-n.toInt - j).toNat < m43 → J X G 3 0 0 [(md, .inr (9, [.int (nI W), .int (nI H), .int t, .int (nI m), .int (nI k), .ref zc, .ref zr, .ref zb, .ref z1, .ref z2, .ref z3, .ref z4, .ref z5, .ref zm, .ref zmr, .ref zmb, .int t4, .ref zca, .ref zcw, .int (nI c), .ref zg, .ref zt, .ref zs, .ref zf, .ref zy, .ref zso, .ref zsf, .ref zsm, .int nt, .int nsh, .ref ztp, .ref zrw, .ref zpp, .int (nI tn), .int (nI pn), .int rdw, .int rdh, .ref zsz, .ref zit, .ref zk, .int (bI itk)])), (zm, ia G 16 f4), (zmr, ia G 16 (fun ι => nI (mp ι))), (zmb, ia G 16 (fun ι => nI (mq ι)))] [(0, .ref md), (1, .int n), (2, .int z)] 43 [] := by
          intro m43
          induction m43 with
          | zero => intro j z t4 f4 hj hz ht4 h4 hm43; exact absurd hm43 (Nat.not_lt_zero _)
          | succ m43 ih43 =>
            intro j z t4 f4 hj hz ht4 h4 hm43
            refine j_iload_n (pc := 43) hX dX9_goes_43 2 rfl ?_
            refine j_iload_n (pc := 44) hX dX9_goes_44 1 rfl ?_
            refine j_icmp_le (pc := 45) (tgt := 82) hX dX9_goes_45 (by decide) rfl rfl (fun c45 => ?_) (fun c45 => ?_)
            · skip
              have ei : i = n.toInt.toNat := by omega
              have ej : j = (-n.toInt).toNat := by omega
              refine j_ia (q0 := 1) (f := f4) (g := goF W H mp mq mt n mf) rfl (fun z hz => by (rw [h4, h3, ht, ei, ej]; rfl)) (ws' := [(md, .inr (9, [.int (nI W), .int (nI H), .int t, .int (nI m), .int (nI k), .ref zc, .ref zr, .ref zb, .ref z1, .ref z2, .ref z3, .ref z4, .ref z5, .ref zm, .ref zmr, .ref zmb, .int t4, .ref zca, .ref zcw, .int (nI c), .ref zg, .ref zt, .ref zs, .ref zf, .ref zy, .ref zso, .ref zsf, .ref zsm, .int nt, .int nsh, .ref ztp, .ref zrw, .ref zpp, .int (nI tn), .int (nI pn), .int rdw, .int rdh, .ref zsz, .ref zit, .ref zk, .int (bI itk)])), (zm, ia G 16 (goF W H mp mq mt n mf)), (zmr, ia G 16 (fun ι => nI (mp ι))), (zmb, ia G 16 (fun ι => nI (mq ι)))]) rfl ?_
              refine j_eqw (ws' := [(md, .inr (9, [.int (nI W), .int (nI H), .int t, .int (nI m), .int (nI k), .ref zc, .ref zr, .ref zb, .ref z1, .ref z2, .ref z3, .ref z4, .ref z5, .ref zm, .ref zmr, .ref zmb, .int (mt + n), .ref zca, .ref zcw, .int (nI c), .ref zg, .ref zt, .ref zs, .ref zf, .ref zy, .ref zso, .ref zsf, .ref zsm, .int nt, .int nsh, .ref ztp, .ref zrw, .ref zpp, .int (nI tn), .int (nI pn), .int rdw, .int rdh, .ref zsz, .ref zit, .ref zk, .int (bI itk)])), (zm, ia G 16 (goF W H mp mq mt n mf)), (zmr, ia G 16 (fun ι => nI (mp ι))), (zmb, ia G 16 (fun ι => nI (mq ι)))]) (congrArg (fun ζ : Int32 => ([(md, .inr (9, [.int (nI W), .int (nI H), .int t, .int (nI m), .int (nI k), .ref zc, .ref zr, .ref zb, .ref z1, .ref z2, .ref z3, .ref z4, .ref z5, .ref zm, .ref zmr, .ref zmb, .int ζ, .ref zca, .ref zcw, .int (nI c), .ref zg, .ref zt, .ref zs, .ref zf, .ref zy, .ref zso, .ref zsf, .ref zsm, .int nt, .int nsh, .ref ztp, .ref zrw, .ref zpp, .int (nI tn), .int (nI pn), .int rdw, .int rdh, .ref zsz, .ref zit, .ref zk, .int (bI itk)])), (zm, ia G 16 (goF W H mp mq mt n mf)), (zmr, ia G 16 (fun ι => nI (mp ι))), (zmb, ia G 16 (fun ι => nI (mq ι)))] : va_W)) (show t4 = mt + n from by rw [ht4, ht, ei, ej]; exact goT mt n hn)) ?_
              exact j_vret (pc := 82) hX hR dX9_goes_82 ⟨rfl, rfl⟩
            · skip
              refine j_aload_n (pc := 48) hX dX9_goes_48 0 rfl ?_
              refine j_dup (pc := 49) hX dX9_goes_49 rfl ?_
              refine j_get (pc := 50) hX f_RX9_145 0 rfl rfl dX9_goes_50 ?_
              refine j_iconstN (pc := 53) (j := 1) hX dX9_goes_53 rfl ?_
              refine j_isub (pc := 54) hX dX9_goes_54 ?_
              refine j_topi (y := t3 - nI (j + 1)) (by rw [ht4]; exact subS t3 j) ?_
              refine j_put (pc := 55) (ws' := [(md, .inr (9, [.int (nI W), .int (nI H), .int t, .int (nI m), .int (nI k), .ref zc, .ref zr, .ref zb, .ref z1, .ref z2, .ref z3, .ref z4, .ref z5, .ref zm, .ref zmr, .ref zmb, .int (t3 - nI (j + 1)), .ref zca, .ref zcw, .int (nI c), .ref zg, .ref zt, .ref zs, .ref zf, .ref zy, .ref zso, .ref zsf, .ref zsm, .int nt, .int nsh, .ref ztp, .ref zrw, .ref zpp, .int (nI tn), .int (nI pn), .int rdw, .int rdh, .ref zsz, .ref zit, .ref zk, .int (bI itk)])), (zm, ia G 16 f4), (zmr, ia G 16 (fun ι => nI (mp ι))), (zmb, ia G 16 (fun ι => nI (mq ι)))]) hX f_RX9_145 0 rfl rfl rfl (Nat.le_of_ble_eq_true rfl) rfl dX9_goes_55 ?_
              refine j_aload_n (pc := 58) hX dX9_goes_58 0 rfl ?_
              refine j_aload_n (pc := 59) hX dX9_goes_59 0 rfl ?_
              refine j_get (pc := 60) hX f_RX9_43 0 rfl rfl dX9_goes_60 ?_
              refine j_aload_n (pc := 63) hX dX9_goes_63 0 rfl ?_
              refine j_get (pc := 64) hX f_RX9_145 0 rfl rfl dX9_goes_64 ?_
              refine j_iconstN (pc := 67) (j := 1) hX dX9_goes_67 rfl ?_
              refine j_iand (pc := 68) hX dX9_goes_68 ?_
              refine j_topi (y := nI (ph (t3 - nI (j + 1)))) (and1ph _) ?_
              refine j_aload_n (pc := 69) hX dX9_goes_69 0 rfl ?_
              refine j_get (pc := 70) hX f_RX9_49 0 rfl rfl dX9_goes_70 ?_
              refine j_callV (pc := 73) hX kX9_blocks kVX9_blocks l_RX9_148 (fun l => c_X9_blocks G md W H t m k zc zr zb z1 z2 z3 z4 z5 zm zmr zmb (t3 - nI (j + 1)) zca zcw c zg zt zs zf zy zso zsf zsm nt nsh ztp zrw zpp tn pn rdw rdh zsz zit zk itk f4 mq zm (ph (t3 - nI (j + 1))) zmb f4 (by omega) (by omega) (by omega) (by omega) (by omega) (by omega) (ph_lt _) l) [0, 1, 3] [2] [] rfl 0 9 rfl rfl rfl rfl rfl rfl ⟨rfl, rfl, by decide⟩ rfl rfl (Nat.le_of_ble_eq_true rfl) dX9_goes_73 (fun v w hq => ?_)
              obtain ⟨rfl, rfl⟩ := hq
              refine j_ws [1, 2, 0, 3] (ws' := [(md, .inr (9, [.int (nI W), .int (nI H), .int t, .int (nI m), .int (nI k), .ref zc, .ref zr, .ref zb, .ref z1, .ref z2, .ref z3, .ref z4, .ref z5, .ref zm, .ref zmr, .ref zmb, .int (t3 - nI (j + 1)), .ref zca, .ref zcw, .int (nI c), .ref zg, .ref zt, .ref zs, .ref zf, .ref zy, .ref zso, .ref zsf, .ref zsm, .int nt, .int nsh, .ref ztp, .ref zrw, .ref zpp, .int (nI tn), .int (nI pn), .int rdw, .int rdh, .ref zsz, .ref zit, .ref zk, .int (bI itk)])), (zm, ia G 16 (turn W H mq (ph (t3 - nI (j + 1))) f4)), (zmr, ia G 16 (fun ι => nI (mp ι))), (zmb, ia G 16 (fun ι => nI (mq ι)))]) rfl rfl ?_
              refine j_iinc (pc := 76) (q := 2) (v := z + (-1)) (lv' := [(2, .int (z + (-1))), (0, .ref md), (1, .int n)]) hX dX9_goes_76 rfl (rfl) (by decide) rfl ?_
              refine j_goto (pc := 79) (tgt := 43) hX dX9_goes_79 (by decide) ?_
              refine j_lv [1, 2, 0] (lv' := [(0, .ref md), (1, .int n), (2, .int (z + (-1)))]) rfl ?_
              exact ih43 (j + 1) (z + (-1)) (t3 - nI (j + 1)) (turn W H mq (ph (t3 - nI (j + 1))) f4) (by omega) (negS hz (by omega)) (rfl) (by rw [h4]; rfl) (by omega)
        refine j_lv [1, 2, 0] (lv' := [(0, .ref md), (1, .int n), (2, .int (nI 0))]) rfl ?_
        exact L43 (((-n.toInt - 0).toNat) + 1) 0 (nI 0) t3 f3 (by omega) (by rw [nI_toInt (by omega)]; rfl) (sub0 t3) (rfl) (Nat.lt_succ_self _)
      · skip
        refine j_aload_n (pc := 7) hX dX9_goes_7 0 rfl ?_
        refine j_aload_n (pc := 8) hX dX9_goes_8 0 rfl ?_
        refine j_get (pc := 9) hX f_RX9_43 0 rfl rfl dX9_goes_9 ?_
        refine j_aload_n (pc := 12) hX dX9_goes_12 0 rfl ?_
        refine j_get (pc := 13) hX f_RX9_145 0 rfl rfl dX9_goes_13 ?_
        refine j_iconstN (pc := 16) (j := 1) hX dX9_goes_16 rfl ?_
        refine j_iand (pc := 17) hX dX9_goes_17 ?_
        refine j_topi (y := nI (ph t3)) (and1ph _) ?_
        refine j_aload_n (pc := 18) hX dX9_goes_18 0 rfl ?_
        refine j_get (pc := 19) hX f_RX9_46 0 rfl rfl dX9_goes_19 ?_
        refine j_callV (pc := 22) hX kX9_blocks kVX9_blocks l_RX9_148 (fun l => c_X9_blocks G md W H t m k zc zr zb z1 z2 z3 z4 z5 zm zmr zmb t3 zca zcw c zg zt zs zf zy zso zsf zsm nt nsh ztp zrw zpp tn pn rdw rdh zsz zit zk itk f3 mp zm (ph t3) zmr f3 (by omega) (by omega) (by omega) (by omega) (by omega) (by omega) (ph_lt _) l) [0, 1, 2] [3] [] rfl 0 9 rfl rfl rfl rfl rfl rfl ⟨rfl, rfl, by decide⟩ rfl rfl (Nat.le_of_ble_eq_true rfl) dX9_goes_22 (fun v w hq => ?_)
        obtain ⟨rfl, rfl⟩ := hq
        refine j_ws [1, 2, 3, 0] (ws' := [(md, .inr (9, [.int (nI W), .int (nI H), .int t, .int (nI m), .int (nI k), .ref zc, .ref zr, .ref zb, .ref z1, .ref z2, .ref z3, .ref z4, .ref z5, .ref zm, .ref zmr, .ref zmb, .int t3, .ref zca, .ref zcw, .int (nI c), .ref zg, .ref zt, .ref zs, .ref zf, .ref zy, .ref zso, .ref zsf, .ref zsm, .int nt, .int nsh, .ref ztp, .ref zrw, .ref zpp, .int (nI tn), .int (nI pn), .int rdw, .int rdh, .ref zsz, .ref zit, .ref zk, .int (bI itk)])), (zm, ia G 16 (turn W H mp (ph t3) f3)), (zmr, ia G 16 (fun ι => nI (mp ι))), (zmb, ia G 16 (fun ι => nI (mq ι)))]) rfl rfl ?_
        refine j_aload_n (pc := 25) hX dX9_goes_25 0 rfl ?_
        refine j_dup (pc := 26) hX dX9_goes_26 rfl ?_
        refine j_get (pc := 27) hX f_RX9_145 0 rfl rfl dX9_goes_27 ?_
        refine j_iconstN (pc := 30) (j := 1) hX dX9_goes_30 rfl ?_
        refine j_iadd (pc := 31) hX dX9_goes_31 ?_
        refine j_put (pc := 32) (ws' := [(md, .inr (9, [.int (nI W), .int (nI H), .int t, .int (nI m), .int (nI k), .ref zc, .ref zr, .ref zb, .ref z1, .ref z2, .ref z3, .ref z4, .ref z5, .ref zm, .ref zmr, .ref zmb, .int (t3 + (nI 1)), .ref zca, .ref zcw, .int (nI c), .ref zg, .ref zt, .ref zs, .ref zf, .ref zy, .ref zso, .ref zsf, .ref zsm, .int nt, .int nsh, .ref ztp, .ref zrw, .ref zpp, .int (nI tn), .int (nI pn), .int rdw, .int rdh, .ref zsz, .ref zit, .ref zk, .int (bI itk)])), (zm, ia G 16 (turn W H mp (ph t3) f3)), (zmr, ia G 16 (fun ι => nI (mp ι))), (zmb, ia G 16 (fun ι => nI (mq ι)))]) hX f_RX9_145 0 rfl rfl rfl (Nat.le_of_ble_eq_true rfl) rfl dX9_goes_32 ?_
        refine j_iinc (pc := 35) (q := 2) (v := nI (i + 1)) (lv' := [(2, .int (nI (i + 1))), (0, .ref md), (1, .int n)]) hX dX9_goes_35 rfl (nI_inc _ 1) (by decide) rfl ?_
        refine j_goto (pc := 38) (tgt := 2) hX dX9_goes_38 (by decide) ?_
        refine j_lv [1, 2, 0] (lv' := [(0, .ref md), (1, .int n), (2, .int (nI (i + 1)))]) rfl ?_
        exact ih2 (i + 1) (t3 + (nI 1)) (turn W H mp (ph t3) f3) (by omega) (by rw [ht]; exact addS mt i) (by rw [h3, ht]; rfl) (by omega)
  refine j_lv [1, 2, 0] (lv' := [(0, .ref md), (1, .int n), (2, .int (nI 0))]) rfl ?_
  exact L2 (((n.toInt - 0).toNat) + 1) 0 mt mf (by omega) (add0 mt) (rfl) (Nat.lt_succ_self _)
set_option maxHeartbeats 4000000 in
set_option maxRecDepth 100000 in
theorem c_X9_countOf (G : GT) (md : Nat) (W : Nat) (H : Nat) (t : Int32) (m : Nat) (k : Nat) (zc : Nat) (zr : Nat) (zb : Nat) (z1 : Nat) (z2 : Nat) (z3 : Nat) (z4 : Nat) (z5 : Nat) (zm : Nat) (zmr : Nat) (zmb : Nat) (mt : Int32) (zca : Nat) (zcw : Nat) (c : Nat) (zg : Nat) (zt : Nat) (zs : Nat) (zf : Nat) (zy : Nat) (zso : Nat) (zsf : Nat) (zsm : Nat) (nt : Int32) (nsh : Int32) (ztp : Nat) (zrw : Nat) (zpp : Nat) (tn : Nat) (pn : Nat) (rdw : Int32) (rdh : Int32) (zsz : Nat) (zit : Nat) (zk : Nat) (itk : Bool) (f : Nat → Int32) (a : Nat) (f : Nat → Int32) (hW1 : 2 ≤ W) (hW2 : W ≤ 16) (hH1 : 2 ≤ H) (hH2 : H ≤ 16) (hf : ∀ y, rN (f y) < 65536) (l : Launch) : CT l G yX9_countOf cX9_countOf 4 (some .int) { frames := 1, cells := 0, slots := 0, locals := 22 } [.ref md, .ref a] [(md, .inr (9, [.int (nI W), .int (nI H), .int t, .int (nI m), .int (nI k), .ref zc, .ref zr, .ref zb, .ref z1, .ref z2, .ref z3, .ref z4, .ref z5, .ref zm, .ref zmr, .ref zmb, .int mt, .ref zca, .ref zcw, .int (nI c), .ref zg, .ref zt, .ref zs, .ref zf, .ref zy, .ref zso, .ref zsf, .ref zsm, .int nt, .int nsh, .ref ztp, .ref zrw, .ref zpp, .int (nI tn), .int (nI pn), .int rdw, .int rdh, .ref zsz, .ref zit, .ref zk, .int (bI itk)])), (a, ia G 16 f)] (fun vv ww => vv = some (.int (nI (cnt f H))) ∧ ww = [(md, .inr (9, [.int (nI W), .int (nI H), .int t, .int (nI m), .int (nI k), .ref zc, .ref zr, .ref zb, .ref z1, .ref z2, .ref z3, .ref z4, .ref z5, .ref zm, .ref zmr, .ref zmb, .int mt, .ref zca, .ref zcw, .int (nI c), .ref zg, .ref zt, .ref zs, .ref zf, .ref zy, .ref zso, .ref zsf, .ref zsm, .int nt, .int nsh, .ref ztp, .ref zrw, .ref zpp, .int (nI tn), .int (nI pn), .int rdw, .int rdh, .ref zsz, .ref zit, .ref zk, .int (bI itk)])), (a, ia G 16 f)]) := by
  refine CT.of (lv := [(0, .ref md), (1, .ref a)]) RX9 "countOf" rfl rfl (by decide +kernel) (Nat.le_of_ble_eq_true rfl) rfl (fun X hX hR => ?_)
  refine j_iconstN (pc := 0) (j := 0) hX dX9_countOf_0 rfl ?_
  refine j_istore_n (pc := 1) (lv' := [(2, .int (nI 0)), (0, .ref md), (1, .ref a)]) hX dX9_countOf_1 (by decide) rfl ?_
  refine j_iconstN (pc := 2) (j := 0) hX dX9_countOf_2 rfl ?_
  refine j_istore_n (pc := 3) (lv' := [(3, .int (nI 0)), (2, .int (nI 0)), (0, .ref md), (1, .ref a)]) hX dX9_countOf_3 (by decide) rfl ?_
  have L4 : ∀ (m4 : Nat) (k_ s : Nat) (hk : k_ ≤ H) (hs : s = cnt f k_), H - k_ < m4 → J X G 4 0 0 [(md, .inr (9, [.int (nI W), .int (nI H), .int t, .int (nI m), .int (nI k), .ref zc, .ref zr, .ref zb, .ref z1, .ref z2, .ref z3, .ref z4, .ref z5, .ref zm, .ref zmr, .ref zmb, .int mt, .ref zca, .ref zcw, .int (nI c), .ref zg, .ref zt, .ref zs, .ref zf, .ref zy, .ref zso, .ref zsf, .ref zsm, .int nt, .int nsh, .ref ztp, .ref zrw, .ref zpp, .int (nI tn), .int (nI pn), .int rdw, .int rdh, .ref zsz, .ref zit, .ref zk, .int (bI itk)])), (a, ia G 16 f)] [(0, .ref md), (1, .ref a), (2, .int (nI s)), (3, .int (nI k_))] 4 [] := by
    intro m4
    induction m4 with
    | zero => intro k_ s hk hs hm4; exact absurd hm4 (Nat.not_lt_zero _)
    | succ m4 ih4 =>
      intro k_ s hk hs hm4
      refine j_iload_n (pc := 4) hX dX9_countOf_4 3 rfl ?_
      refine j_aload_n (pc := 5) hX dX9_countOf_5 0 rfl ?_
      refine j_get (pc := 6) hX f_RX9_15 0 rfl rfl dX9_countOf_6 ?_
      refine j_icmp_ge (pc := 9) (tgt := 27) hX dX9_countOf_9 (by decide) (nI_toInt (n := k_) (by omega)) (nI_toInt (n := H) (by omega)) (fun c9 => ?_) (fun c9 => ?_)
      · skip
        refine j_iload_n (pc := 27) hX dX9_countOf_27 2 rfl ?_
        exact j_iret (pc := 28) hX hR dX9_countOf_28 ⟨congrArg some (show Value.int (nI s) = Value.int (nI (cnt f H)) from by rw [hs, show k_ = H from by omega]), rfl⟩
      · skip
        refine j_iload_n (pc := 12) hX dX9_countOf_12 2 rfl ?_
        refine j_aload_n (pc := 13) hX dX9_countOf_13 1 rfl ?_
        refine j_iload_n (pc := 14) hX dX9_countOf_14 3 rfl ?_
        refine j_ialdN (pc := 15) (j := k_) hX 1 rfl (by omega) (by omega) dX9_countOf_15 ?_
        refine j_callS (pc := 16) hX kX9_bits kSX9_bits l_RX9_109 (fun l => c_X9_bits G (f k_) (hf _) l) [] [0, 1] [.int (nI s)] rfl rfl rfl rfl ⟨rfl, rfl, by decide⟩ rfl rfl (Nat.le_of_ble_eq_true rfl) dX9_countOf_16 (fun v w hq => ?_)
        obtain ⟨rfl, rfl⟩ := hq
        refine j_ws [0, 1] (ws' := [(md, .inr (9, [.int (nI W), .int (nI H), .int t, .int (nI m), .int (nI k), .ref zc, .ref zr, .ref zb, .ref z1, .ref z2, .ref z3, .ref z4, .ref z5, .ref zm, .ref zmr, .ref zmb, .int mt, .ref zca, .ref zcw, .int (nI c), .ref zg, .ref zt, .ref zs, .ref zf, .ref zy, .ref zso, .ref zsf, .ref zsm, .int nt, .int nsh, .ref ztp, .ref zrw, .ref zpp, .int (nI tn), .int (nI pn), .int rdw, .int rdh, .ref zsz, .ref zit, .ref zk, .int (bI itk)])), (a, ia G 16 f)]) rfl rfl ?_
        refine j_iadd (pc := 19) hX dX9_countOf_19 ?_
        refine j_topi (y := nI (s + (pop (rN (f k_))))) (nI_add _ _) ?_
        refine j_istore_n (pc := 20) (lv' := [(2, .int (nI (s + (pop (rN (f k_)))))), (0, .ref md), (1, .ref a), (3, .int (nI k_))]) hX dX9_countOf_20 (by decide) rfl ?_
        refine j_iinc (pc := 21) (q := 3) (v := nI (k_ + 1)) (lv' := [(3, .int (nI (k_ + 1))), (2, .int (nI (s + (pop (rN (f k_)))))), (0, .ref md), (1, .ref a)]) hX dX9_countOf_21 rfl (nI_inc _ 1) (by decide) rfl ?_
        refine j_goto (pc := 24) (tgt := 4) hX dX9_countOf_24 (by decide) ?_
        refine j_lv [2, 3, 1, 0] (lv' := [(0, .ref md), (1, .ref a), (2, .int (nI (s + (pop (rN (f k_)))))), (3, .int (nI (k_ + 1)))]) rfl ?_
        exact ih4 (k_ + 1) (s + (pop (rN (f k_)))) (by omega) (by rw [hs]; rfl) (by omega)
  refine j_lv [2, 3, 1, 0] (lv' := [(0, .ref md), (1, .ref a), (2, .int (nI 0)), (3, .int (nI 0))]) rfl ?_
  exact L4 ((H - 0) + 1) 0 0 (by omega) (rfl) (Nat.lt_succ_self _)
