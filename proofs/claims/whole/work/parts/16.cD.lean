set_option maxHeartbeats 4000000 in
set_option maxRecDepth 100000 in
theorem c_X1_weighed (G : GT) (g : Nat) (W : Nat) (H : Nat) (t : Int32) (b : Nat) (f : Nat → Int32) (a_ b_ c_ d_ : Int32) (hW1 : 2 ≤ W) (hW2 : W ≤ 16) (hH1 : 2 ≤ H) (hH2 : H ≤ 16) (hf : ∀ y, rN (f y) < 65536) (l : Launch) : CT l G yX1_weighed cX1_weighed 9 (some .int) { frames := 1, cells := 0, slots := 0, locals := 21 } [.ref g, .int a_, .int b_, .int c_, .int d_] [(g, .inr (1, [.int (nI W), .int (nI H), .int t, .ref b])), (b, ia G 16 f)] (fun vv ww => vv = some (.int (wsF a_ b_ c_ d_ f H)) ∧ ww = [(g, .inr (1, [.int (nI W), .int (nI H), .int t, .ref b])), (b, ia G 16 f)]) := by
  refine CT.of (lv := [(0, .ref g), (1, .int a_), (2, .int b_), (3, .int c_), (4, .int d_)]) RX1 "weighed" rfl rfl (by decide +kernel) (Nat.le_of_ble_eq_true rfl) rfl (fun X hX hR => ?_)
  refine j_iconstN (pc := 0) (j := 0) hX dX1_weighed_0 rfl ?_
  refine j_istore (pc := 1) (lv' := [(5, .int (nI 0)), (0, .ref g), (1, .int a_), (2, .int b_), (3, .int c_), (4, .int d_)]) hX dX1_weighed_1 (by decide) rfl ?_
  refine j_iconstN (pc := 3) (j := 0) hX dX1_weighed_3 rfl ?_
  refine j_istore (pc := 4) (lv' := [(6, .int (nI 0)), (5, .int (nI 0)), (0, .ref g), (1, .int a_), (2, .int b_), (3, .int c_), (4, .int d_)]) hX dX1_weighed_4 (by decide) rfl ?_
  have L6 : ∀ (m6 : Nat) (k : Nat) (s : Int32) (hk : k ≤ H) (hs : s = wsF a_ b_ c_ d_ f k), H - k < m6 → J X G 9 0 0 [(g, .inr (1, [.int (nI W), .int (nI H), .int t, .ref b])), (b, ia G 16 f)] [(0, .ref g), (1, .int a_), (2, .int b_), (3, .int c_), (4, .int d_), (5, .int s), (6, .int (nI k))] 6 [] := by
    intro m6
    induction m6 with
    | zero => intro k s hk hs hm6; exact absurd hm6 (Nat.not_lt_zero _)
    | succ m6 ih6 =>
      intro k s hk hs hm6
      refine j_iload (pc := 6) hX dX1_weighed_6 6 rfl ?_
      refine j_aload_n (pc := 8) hX dX1_weighed_8 0 rfl ?_
      refine j_get (pc := 9) hX f_RX1_15 0 rfl rfl dX1_weighed_9 ?_
      refine j_icmp_ge (pc := 12) (tgt := 90) hX dX1_weighed_12 (by decide) (nI_toInt (n := k) (by omega)) (nI_toInt (n := H) (by omega)) (fun c12 => ?_) (fun c12 => ?_)
      · skip
        refine j_iload (pc := 90) hX dX1_weighed_90 5 rfl ?_
        exact j_iret (pc := 92) hX hR dX1_weighed_92 ⟨congrArg some (show Value.int s = Value.int (wsF a_ b_ c_ d_ f H) from by rw [hs, show k = H from by omega]), rfl⟩
      · skip
        refine j_aload_n (pc := 15) hX dX1_weighed_15 0 rfl ?_
        refine j_get (pc := 16) hX f_RX1_21 0 rfl rfl dX1_weighed_16 ?_
        refine j_iload (pc := 19) hX dX1_weighed_19 6 rfl ?_
        refine j_callSN (pc := 21) hX kX8_at kSX8_at l_RX1_25 (fun l => c_X8_at G b 16 f k (by omega) (by omega) l) [1] [0] [] rfl rfl rfl rfl ⟨rfl, rfl, by decide⟩ rfl rfl (Nat.le_of_ble_eq_true rfl) dX1_weighed_21 (fun v w hq => ?_)
        obtain ⟨rfl, rfl⟩ := hq
        refine j_ws [0, 1] (ws' := [(g, .inr (1, [.int (nI W), .int (nI H), .int t, .ref b])), (b, ia G 16 f)]) rfl rfl ?_
        refine j_sipush (pc := 24) (v := nI 21845) hX dX1_weighed_24 (by decide) ?_
        refine j_iand (pc := 27) hX dX1_weighed_27 ?_
        refine j_callS (pc := 28) hX kJ6_bitCount_0f7a4 kSJ6_bitCount_0f7a4 l_RX1_37 (fun l => c_J6_bitCount_0f7a4 G ((f k) &&& (nI 21845)) (rN_and_lt (hf k)) l) [] [0, 1] [] rfl rfl rfl rfl ⟨rfl, rfl, by decide⟩ rfl rfl (Nat.le_of_ble_eq_true rfl) dX1_weighed_28 (fun v w hq => ?_)
        obtain ⟨rfl, rfl⟩ := hq
        refine j_ws [0, 1] (ws' := [(g, .inr (1, [.int (nI W), .int (nI H), .int t, .ref b])), (b, ia G 16 f)]) rfl rfl ?_
        refine j_istore (pc := 31) (lv' := [(7, .int (nI (pop (rN ((f k) &&& (nI 21845)))))), (0, .ref g), (1, .int a_), (2, .int b_), (3, .int c_), (4, .int d_), (5, .int s), (6, .int (nI k))]) hX dX1_weighed_31 (by decide) rfl ?_
        refine j_aload_n (pc := 33) hX dX1_weighed_33 1 rfl ?_
        refine j_get (pc := 34) hX f_RX1_21 0 rfl rfl dX1_weighed_34 ?_
        refine j_iload (pc := 37) hX dX1_weighed_37 7 rfl ?_
        refine j_callSN (pc := 39) hX kX8_at kSX8_at l_RX1_25 (fun l => c_X8_at G b 16 f k (by omega) (by omega) l) [1] [0] [] rfl rfl rfl rfl ⟨rfl, rfl, by decide⟩ rfl rfl (Nat.le_of_ble_eq_true rfl) dX1_weighed_39 (fun v w hq => ?_)
        obtain ⟨rfl, rfl⟩ := hq
        refine j_ws [0, 1] (ws' := [(g, .inr (1, [.int (nI W), .int (nI H), .int t, .ref b])), (b, ia G 16 f)]) rfl rfl ?_
        refine j_ldc (pc := 42) (v := nI 43690) hX k_RX1_43 dX1_weighed_42 ?_
        refine j_iand (pc := 44) hX dX1_weighed_44 ?_
        refine j_callS (pc := 45) hX kJ6_bitCount_0f7a4 kSJ6_bitCount_0f7a4 l_RX1_37 (fun l => c_J6_bitCount_0f7a4 G ((f k) &&& (nI 43690)) (rN_and_lt (hf k)) l) [] [0, 1] [] rfl rfl rfl rfl ⟨rfl, rfl, by decide⟩ rfl rfl (Nat.le_of_ble_eq_true rfl) dX1_weighed_45 (fun v w hq => ?_)
        obtain ⟨rfl, rfl⟩ := hq
        refine j_ws [0, 1] (ws' := [(g, .inr (1, [.int (nI W), .int (nI H), .int t, .ref b])), (b, ia G 16 f)]) rfl rfl ?_
        refine j_istore (pc := 48) (lv' := [(8, .int (nI (pop (rN ((f k) &&& (nI 43690)))))), (7, .int (nI (pop (rN ((f k) &&& (nI 21845)))))), (0, .ref g), (1, .int a_), (2, .int b_), (3, .int c_), (4, .int d_), (5, .int s), (6, .int (nI k))]) hX dX1_weighed_48 (by decide) rfl ?_
        refine j_iload (pc := 50) hX dX1_weighed_50 7 rfl ?_
        refine j_iload (pc := 52) hX dX1_weighed_52 8 rfl ?_
        refine j_iconstN (pc := 54) (j := 1) hX dX1_weighed_54 rfl ?_
        refine j_iand (pc := 55) hX dX1_weighed_55 ?_
        refine j_topi (y := nI (k % 2)) (pk_andN (by omega) 1 (by decide)) ?_
        refine j_if_ne (pc := 56) (tgt := 71) hX dX1_weighed_56 (by decide) (nI_toInt (n := k % 2) (by omega)) (fun c56 => ?_) (fun c56 => ?_)
        · skip
          refine j_iload_n (pc := 71) hX dX1_weighed_71 5 rfl ?_
          refine j_iload (pc := 72) hX dX1_weighed_72 1 rfl ?_
          refine j_imul (pc := 74) hX dX1_weighed_74 ?_
          refine j_iload (pc := 75) hX dX1_weighed_75 6 rfl ?_
          refine j_iload (pc := 77) hX dX1_weighed_77 0 rfl ?_
          refine j_imul (pc := 79) hX dX1_weighed_79 ?_
          refine j_iadd (pc := 80) hX dX1_weighed_80 ?_
          refine j_iadd (pc := 81) hX dX1_weighed_81 ?_
          refine j_istore (pc := 82) (lv' := [(5, .int (s + ((c_ * (nI (pop (rN ((f k) &&& (nI 21845)))))) + (d_ * (nI (pop (rN ((f k) &&& (nI 43690))))))))), (8, .int (nI (pop (rN ((f k) &&& (nI 43690)))))), (7, .int (nI (pop (rN ((f k) &&& (nI 21845)))))), (0, .ref g), (1, .int a_), (2, .int b_), (3, .int c_), (4, .int d_), (6, .int (nI k))]) hX dX1_weighed_82 (by decide) rfl ?_
          refine j_iinc (pc := 84) (q := 8) (v := nI (k + 1)) (lv' := [(6, .int (nI (k + 1))), (5, .int (s + ((c_ * (nI (pop (rN ((f k) &&& (nI 21845)))))) + (d_ * (nI (pop (rN ((f k) &&& (nI 43690))))))))), (8, .int (nI (pop (rN ((f k) &&& (nI 43690)))))), (7, .int (nI (pop (rN ((f k) &&& (nI 21845)))))), (0, .ref g), (1, .int a_), (2, .int b_), (3, .int c_), (4, .int d_)]) hX dX1_weighed_84 rfl (nI_inc _ 1) (by decide) rfl ?_
          refine j_goto (pc := 87) (tgt := 6) hX dX1_weighed_87 (by decide) ?_
          refine j_lv [4, 5, 6, 7, 8, 1, 0] (lv' := [(0, .ref g), (1, .int a_), (2, .int b_), (3, .int c_), (4, .int d_), (5, .int (s + ((c_ * (nI (pop (rN ((f k) &&& (nI 21845)))))) + (d_ * (nI (pop (rN ((f k) &&& (nI 43690))))))))), (6, .int (nI (k + 1)))]) rfl ?_
          exact ih6 (k + 1) (s + ((c_ * (nI (pop (rN ((f k) &&& (nI 21845)))))) + (d_ * (nI (pop (rN ((f k) &&& (nI 43690)))))))) (by omega) (by rw [hs]; show _ = wsF a_ b_ c_ d_ f k + (if k % 2 = 0 then _ else _); first | (rw [if_pos (by omega)]; done) | (rw [if_neg (by omega)]; done)) (by omega)
        · skip
          refine j_iload_n (pc := 59) hX dX1_weighed_59 3 rfl ?_
          refine j_iload (pc := 60) hX dX1_weighed_60 1 rfl ?_
          refine j_imul (pc := 62) hX dX1_weighed_62 ?_
          refine j_iload_n (pc := 63) hX dX1_weighed_63 4 rfl ?_
          refine j_iload (pc := 64) hX dX1_weighed_64 0 rfl ?_
          refine j_imul (pc := 66) hX dX1_weighed_66 ?_
          refine j_iadd (pc := 67) hX dX1_weighed_67 ?_
          refine j_goto (pc := 68) (tgt := 81) hX dX1_weighed_68 (by decide) ?_
          refine j_iadd (pc := 81) hX dX1_weighed_81 ?_
          refine j_istore (pc := 82) (lv' := [(5, .int (s + ((a_ * (nI (pop (rN ((f k) &&& (nI 21845)))))) + (b_ * (nI (pop (rN ((f k) &&& (nI 43690))))))))), (8, .int (nI (pop (rN ((f k) &&& (nI 43690)))))), (7, .int (nI (pop (rN ((f k) &&& (nI 21845)))))), (0, .ref g), (1, .int a_), (2, .int b_), (3, .int c_), (4, .int d_), (6, .int (nI k))]) hX dX1_weighed_82 (by decide) rfl ?_
          refine j_iinc (pc := 84) (q := 8) (v := nI (k + 1)) (lv' := [(6, .int (nI (k + 1))), (5, .int (s + ((a_ * (nI (pop (rN ((f k) &&& (nI 21845)))))) + (b_ * (nI (pop (rN ((f k) &&& (nI 43690))))))))), (8, .int (nI (pop (rN ((f k) &&& (nI 43690)))))), (7, .int (nI (pop (rN ((f k) &&& (nI 21845)))))), (0, .ref g), (1, .int a_), (2, .int b_), (3, .int c_), (4, .int d_)]) hX dX1_weighed_84 rfl (nI_inc _ 1) (by decide) rfl ?_
          refine j_goto (pc := 87) (tgt := 6) hX dX1_weighed_87 (by decide) ?_
          refine j_lv [4, 5, 6, 7, 8, 1, 0] (lv' := [(0, .ref g), (1, .int a_), (2, .int b_), (3, .int c_), (4, .int d_), (5, .int (s + ((a_ * (nI (pop (rN ((f k) &&& (nI 21845)))))) + (b_ * (nI (pop (rN ((f k) &&& (nI 43690))))))))), (6, .int (nI (k + 1)))]) rfl ?_
          exact ih6 (k + 1) (s + ((a_ * (nI (pop (rN ((f k) &&& (nI 21845)))))) + (b_ * (nI (pop (rN ((f k) &&& (nI 43690)))))))) (by omega) (by rw [hs]; show _ = wsF a_ b_ c_ d_ f k + (if k % 2 = 0 then _ else _); first | (rw [if_pos (by omega)]; done) | (rw [if_neg (by omega)]; done)) (by omega)
  refine j_lv [2, 3, 4, 5, 6, 1, 0] (lv' := [(0, .ref g), (1, .int a_), (2, .int b_), (3, .int c_), (4, .int d_), (5, .int (nI 0)), (6, .int (nI 0))]) rfl ?_
  exact L6 ((H - 0) + 1) 0 (nI 0) (by omega) (rfl) (Nat.lt_succ_self _)
set_option maxHeartbeats 4000000 in
set_option maxRecDepth 100000 in
theorem c_X8_size_ok (G : GT) (x : Nat) (nw : Nat) (tk : Nat) (itk : Bool) (ch : Nat) (ah : Nat) (th : Nat) (tp : Nat) (wt : Nat) (rows : Nat) (g : Nat) (ru : Nat) (se : Nat) (ev : Nat) (W : Nat) (H : Nat) (t : Int32) (b : Nat) (f : Nat → Int32) (c : Nat) (cn : Nat) (c0 : Nat → Nat) (c1 : Nat → Nat) (c2 : Nat → Int32) (w h : Nat) (hw : sideB (nI w) = true) (hh : sideB (nI h) = true) (l : Launch) : CT l G yX8_size cX8_size 4 (some .int) { frames := 1, cells := 0, slots := 0, locals := 23 } [.ref x, .int (nI w), .int (nI h)] [(x, .inr (8, [.ref nw, .ref tk, .int (bI itk), .ref ch, .ref ah, .ref th, .ref tp, .ref wt, .ref rows])), (nw, .inr (7, [.ref g, .ref ru, .ref se, .ref ev])), (g, .inr (1, [.int (nI W), .int (nI H), .int t, .ref b])), (b, ia G 16 f), (ch, .inr (4, [.int (nI c), .ref cn])), (cn, ia G (3 * 12) (tab (fun ι => nI (c0 ι)) (fun ι => nI (c1 ι)) c2))] (fun vv ww => vv = some (.int (nI (100 * W + H))) ∧ ww = [(x, .inr (8, [.ref nw, .ref tk, .int (bI itk), .ref ch, .ref ah, .ref th, .ref tp, .ref wt, .ref rows])), (nw, .inr (7, [.ref g, .ref ru, .ref se, .ref ev])), (g, .inr (1, [.int (nI w), .int (nI h), .int (nI 0), .ref b])), (b, ia G 16 (fun _ => 0)), (ch, .inr (4, [.int (nI 0), .ref cn])), (cn, ia G (3 * 12) (tab (fun ι => nI (c0 ι)) (fun ι => nI (c1 ι)) c2))]) := by
  refine CT.of (lv := [(0, .ref x), (1, .int (nI w)), (2, .int (nI h))]) RX8 "size" rfl rfl (by decide +kernel) (Nat.le_of_ble_eq_true rfl) rfl (fun X hX hR => ?_)
  refine j_iload_n (pc := 0) hX dX8_size_0 1 rfl ?_
  refine j_callS (pc := 1) hX kX8_isSide kSX8_isSide l_RX8_65 (fun l => c_X8_isSide G (nI w)  l) [] [0, 1, 2, 3, 4, 5] [] rfl rfl rfl rfl ⟨rfl, rfl, by decide⟩ rfl rfl (Nat.le_of_ble_eq_true rfl) dX8_size_1 (fun v w hq => ?_)
  obtain ⟨rfl, rfl⟩ := hq
  refine j_ws [0, 1, 2, 3, 4, 5] (ws' := [(x, .inr (8, [.ref nw, .ref tk, .int (bI itk), .ref ch, .ref ah, .ref th, .ref tp, .ref wt, .ref rows])), (nw, .inr (7, [.ref g, .ref ru, .ref se, .ref ev])), (g, .inr (1, [.int (nI W), .int (nI H), .int t, .ref b])), (b, ia G 16 f), (ch, .inr (4, [.int (nI c), .ref cn])), (cn, ia G (3 * 12) (tab (fun ι => nI (c0 ι)) (fun ι => nI (c1 ι)) c2))]) rfl rfl ?_
  refine j_ifB_eq (pc := 4) (tgt := 14) hX dX8_size_4 (by decide) (fun c4 => by rw [hw] at c4; cases c4) (fun c4 => ?_)
  refine j_iload_n (pc := 7) hX dX8_size_7 2 rfl ?_
  refine j_callS (pc := 8) hX kX8_isSide kSX8_isSide l_RX8_65 (fun l => c_X8_isSide G (nI h)  l) [] [0, 1, 2, 3, 4, 5] [] rfl rfl rfl rfl ⟨rfl, rfl, by decide⟩ rfl rfl (Nat.le_of_ble_eq_true rfl) dX8_size_8 (fun v w hq => ?_)
  obtain ⟨rfl, rfl⟩ := hq
  refine j_ws [0, 1, 2, 3, 4, 5] (ws' := [(x, .inr (8, [.ref nw, .ref tk, .int (bI itk), .ref ch, .ref ah, .ref th, .ref tp, .ref wt, .ref rows])), (nw, .inr (7, [.ref g, .ref ru, .ref se, .ref ev])), (g, .inr (1, [.int (nI W), .int (nI H), .int t, .ref b])), (b, ia G 16 f), (ch, .inr (4, [.int (nI c), .ref cn])), (cn, ia G (3 * 12) (tab (fun ι => nI (c0 ι)) (fun ι => nI (c1 ι)) c2))]) rfl rfl ?_
  refine j_ifB_ne (pc := 11) (tgt := 17) hX dX8_size_11 (by decide) (fun c11 => ?_) (fun c11 => by rw [hh] at c11; cases c11)
  refine j_bipush (pc := 17) (v := nI 100) hX dX8_size_17 (by decide) ?_
  refine j_aload_n (pc := 19) hX dX8_size_19 0 rfl ?_
  refine j_get (pc := 20) hX f_RX8_12 0 rfl rfl dX8_size_20 ?_
  refine j_getR (pc := 23) hX f_RX8_69 1 rfl rfl dX8_size_23 ?_
  refine j_get (pc := 26) hX f_RX8_73 2 rfl rfl dX8_size_26 ?_
  refine j_imul (pc := 29) hX dX8_size_29 ?_
  refine j_topi (y := nI (100 * W)) (pk_mul _ _) ?_
  refine j_aload_n (pc := 30) hX dX8_size_30 0 rfl ?_
  refine j_get (pc := 31) hX f_RX8_12 0 rfl rfl dX8_size_31 ?_
  refine j_getR (pc := 34) hX f_RX8_69 1 rfl rfl dX8_size_34 ?_
  refine j_get (pc := 37) hX f_RX8_79 2 rfl rfl dX8_size_37 ?_
  refine j_iadd (pc := 40) hX dX8_size_40 ?_
  refine j_topi (y := nI (100 * W + H)) (nI_add _ _) ?_
  refine j_istore_n (pc := 41) (lv' := [(3, .int (nI (100 * W + H))), (0, .ref x), (1, .int (nI w)), (2, .int (nI h))]) hX dX8_size_41 (by decide) rfl ?_
  refine j_aload_n (pc := 42) hX dX8_size_42 1 rfl ?_
  refine j_get (pc := 43) hX f_RX8_12 0 rfl rfl dX8_size_43 ?_
  refine j_getR (pc := 46) hX f_RX8_69 1 rfl rfl dX8_size_46 ?_
  refine j_iload_n (pc := 49) hX dX8_size_49 2 rfl ?_
  refine j_iload_n (pc := 50) hX dX8_size_50 3 rfl ?_
  refine j_callV (pc := 51) hX kX1_becomeEmpty kVX1_becomeEmpty l_RX8_82 (fun l => c_X1_becomeEmpty G g W H t b f w h  l) [2, 3] [0, 1, 4, 5] [] rfl 0 1 rfl rfl rfl rfl rfl rfl ⟨rfl, rfl, by decide⟩ rfl rfl (Nat.le_of_ble_eq_true rfl) dX8_size_51 (fun v w hq => ?_)
  obtain ⟨rfl, rfl⟩ := hq
  refine j_ws [0, 1, 4, 5, 2, 3] (ws' := [(x, .inr (8, [.ref nw, .ref tk, .int (bI itk), .ref ch, .ref ah, .ref th, .ref tp, .ref wt, .ref rows])), (nw, .inr (7, [.ref g, .ref ru, .ref se, .ref ev])), (g, .inr (1, [.int (nI w), .int (nI h), .int t, .ref b])), (b, ia G 16 (fun _ => 0)), (ch, .inr (4, [.int (nI c), .ref cn])), (cn, ia G (3 * 12) (tab (fun ι => nI (c0 ι)) (fun ι => nI (c1 ι)) c2))]) rfl rfl ?_
  refine j_aload_n (pc := 54) hX dX8_size_54 1 rfl ?_
  refine j_get (pc := 55) hX f_RX8_12 0 rfl rfl dX8_size_55 ?_
  refine j_getR (pc := 58) hX f_RX8_69 1 rfl rfl dX8_size_58 ?_
  refine j_iconstN (pc := 61) (j := 0) hX dX8_size_61 rfl ?_
  refine j_put (pc := 62) (ws' := [(x, .inr (8, [.ref nw, .ref tk, .int (bI itk), .ref ch, .ref ah, .ref th, .ref tp, .ref wt, .ref rows])), (nw, .inr (7, [.ref g, .ref ru, .ref se, .ref ev])), (g, .inr (1, [.int (nI w), .int (nI h), .int (nI 0), .ref b])), (b, ia G 16 (fun _ => 0)), (ch, .inr (4, [.int (nI c), .ref cn])), (cn, ia G (3 * 12) (tab (fun ι => nI (c0 ι)) (fun ι => nI (c1 ι)) c2))]) hX f_RX8_86 2 rfl rfl rfl (Nat.le_of_ble_eq_true rfl) rfl dX8_size_62 ?_
  refine j_aload_n (pc := 65) hX dX8_size_65 1 rfl ?_
  refine j_get (pc := 66) hX f_RX8_30 0 rfl rfl dX8_size_66 ?_
  refine j_callV (pc := 69) hX kX4_empty kVX4_empty l_RX8_89 (fun l => c_X4_empty G ch cn 12 c (fun ι => nI (c0 ι)) (fun ι => nI (c1 ι)) c2  l) [4, 5] [0, 1, 2, 3] [] rfl 0 4 rfl rfl rfl rfl rfl rfl ⟨rfl, rfl, by decide⟩ rfl rfl (Nat.le_of_ble_eq_true rfl) dX8_size_69 (fun v w hq => ?_)
  obtain ⟨rfl, rfl⟩ := hq
  refine j_ws [0, 1, 2, 3, 4, 5] (ws' := [(x, .inr (8, [.ref nw, .ref tk, .int (bI itk), .ref ch, .ref ah, .ref th, .ref tp, .ref wt, .ref rows])), (nw, .inr (7, [.ref g, .ref ru, .ref se, .ref ev])), (g, .inr (1, [.int (nI w), .int (nI h), .int (nI 0), .ref b])), (b, ia G 16 (fun _ => 0)), (ch, .inr (4, [.int (nI 0), .ref cn])), (cn, ia G (3 * 12) (tab (fun ι => nI (c0 ι)) (fun ι => nI (c1 ι)) c2))]) rfl rfl ?_
  refine j_iload_n (pc := 72) hX dX8_size_72 0 rfl ?_
  exact j_iret (pc := 73) hX hR dX8_size_73 ⟨rfl, rfl⟩
set_option maxHeartbeats 4000000 in
set_option maxRecDepth 100000 in
theorem c_X8_size_bad (G : GT) (x : Nat) (nw : Nat) (tk : Nat) (itk : Bool) (ch : Nat) (ah : Nat) (th : Nat) (tp : Nat) (wt : Nat) (rows : Nat) (w h : Int32) (hb : (sideB w && sideB h) = false) (l : Launch) : CT l G yX8_size cX8_size 4 (some .int) { frames := 1, cells := 0, slots := 0, locals := 23 } [.ref x, .int w, .int h] [(x, .inr (8, [.ref nw, .ref tk, .int (bI itk), .ref ch, .ref ah, .ref th, .ref tp, .ref wt, .ref rows]))] (fun vv ww => vv = some (.int (-2)) ∧ ww = [(x, .inr (8, [.ref nw, .ref tk, .int (bI itk), .ref ch, .ref ah, .ref th, .ref tp, .ref wt, .ref rows]))]) := by
  refine CT.of (lv := [(0, .ref x), (1, .int w), (2, .int h)]) RX8 "size" rfl rfl (by decide +kernel) (Nat.le_of_ble_eq_true rfl) rfl (fun X hX hR => ?_)
  refine j_iload_n (pc := 0) hX dX8_size_0 1 rfl ?_
  refine j_callS (pc := 1) hX kX8_isSide kSX8_isSide l_RX8_65 (fun l => c_X8_isSide G w  l) [] [0] [] rfl rfl rfl rfl ⟨rfl, rfl, by decide⟩ rfl rfl (Nat.le_of_ble_eq_true rfl) dX8_size_1 (fun v w hq => ?_)
  obtain ⟨rfl, rfl⟩ := hq
  refine j_ws [0] (ws' := [(x, .inr (8, [.ref nw, .ref tk, .int (bI itk), .ref ch, .ref ah, .ref th, .ref tp, .ref wt, .ref rows]))]) rfl rfl ?_
  refine j_ifB_eq (pc := 4) (tgt := 14) hX dX8_size_4 (by decide) (fun c4 => ?_) (fun c4 => ?_)
  · skip
    refine j_bipush (pc := 14) (v := (-2)) hX dX8_size_14 (by decide) ?_
    exact j_iret (pc := 16) hX hR dX8_size_16 ⟨rfl, rfl⟩
  · skip
    refine j_iload_n (pc := 7) hX dX8_size_7 2 rfl ?_
    refine j_callS (pc := 8) hX kX8_isSide kSX8_isSide l_RX8_65 (fun l => c_X8_isSide G h  l) [] [0] [] rfl rfl rfl rfl ⟨rfl, rfl, by decide⟩ rfl rfl (Nat.le_of_ble_eq_true rfl) dX8_size_8 (fun v w hq => ?_)
    obtain ⟨rfl, rfl⟩ := hq
    refine j_ws [0] (ws' := [(x, .inr (8, [.ref nw, .ref tk, .int (bI itk), .ref ch, .ref ah, .ref th, .ref tp, .ref wt, .ref rows]))]) rfl rfl ?_
    refine j_ifB_ne (pc := 11) (tgt := 17) hX dX8_size_11 (by decide) (fun c11 => by rw [c4, c11] at hb; cases hb) (fun c11 => ?_)
    refine j_bipush (pc := 14) (v := (-2)) hX dX8_size_14 (by decide) ?_
    exact j_iret (pc := 16) hX hR dX8_size_16 ⟨rfl, rfl⟩
set_option maxHeartbeats 4000000 in
set_option maxRecDepth 100000 in
theorem c_X8_toggle_ok (G : GT) (x : Nat) (nw : Nat) (tk : Nat) (itk : Bool) (ch : Nat) (ah : Nat) (th : Nat) (tp : Nat) (wt : Nat) (rows : Nat) (g : Nat) (ru : Nat) (se : Nat) (ev : Nat) (W : Nat) (H : Nat) (t : Int32) (b : Nat) (f : Nat → Int32) (c : Nat) (cn : Nat) (c0 : Nat → Nat) (c1 : Nat → Nat) (c2 : Nat → Int32) (xx yy : Nat) (hW1 : 2 ≤ W) (hW2 : W ≤ 16) (hH1 : 2 ≤ H) (hH2 : H ≤ 16) (hX1 : xx < W) (hY1 : yy < H) (hc : c < 12) (l : Launch) : CT l G yX8_toggle cX8_toggle 3 (some .int) { frames := 2, cells := 0, slots := 0, locals := 45 } [.ref x, .int (nI xx), .int (nI yy)] [(x, .inr (8, [.ref nw, .ref tk, .int (bI itk), .ref ch, .ref ah, .ref th, .ref tp, .ref wt, .ref rows])), (nw, .inr (7, [.ref g, .ref ru, .ref se, .ref ev])), (g, .inr (1, [.int (nI W), .int (nI H), .int t, .ref b])), (b, ia G 16 f), (ch, .inr (4, [.int (nI c), .ref cn])), (cn, ia G (3 * 12) (tab (fun ι => nI (c0 ι)) (fun ι => nI (c1 ι)) c2))] (fun vv ww => vv = some (.int (bI (bt (flp W H f xx yy yy) xx))) ∧ ww = [(x, .inr (8, [.ref nw, .ref tk, .int (bI itk), .ref ch, .ref ah, .ref th, .ref tp, .ref wt, .ref rows])), (nw, .inr (7, [.ref g, .ref ru, .ref se, .ref ev])), (g, .inr (1, [.int (nI W), .int (nI H), .int t, .ref b])), (b, ia G 16 (flp W H f xx yy)), (ch, .inr (4, [.int (nI (c + 1)), .ref cn])), (cn, ia G (3 * 12) (tab (fun ι => nI ((updN c0 c xx) ι)) (fun ι => nI ((updN c1 c yy) ι)) (upd c2 c t)))]) := by
  refine CT.of (lv := [(0, .ref x), (1, .int (nI xx)), (2, .int (nI yy))]) RX8 "toggle" rfl rfl (by decide +kernel) (Nat.le_of_ble_eq_true rfl) rfl (fun X hX hR => ?_)
  refine j_aload_n (pc := 0) hX dX8_toggle_0 0 rfl ?_
  refine j_get (pc := 1) hX f_RX8_12 0 rfl rfl dX8_toggle_1 ?_
  refine j_getR (pc := 4) hX f_RX8_69 1 rfl rfl dX8_toggle_4 ?_
  refine j_iload_n (pc := 7) hX dX8_toggle_7 1 rfl ?_
  refine j_iload_n (pc := 8) hX dX8_toggle_8 2 rfl ?_
  refine j_callV (pc := 9) hX kX1_has kVX1_has l_RX8_92 (fun l => c_X1_has G g W H t b f (nI xx) (nI yy) (by omega) (by omega) (by omega) (by omega) l) [2, 3] [0, 1, 4, 5] [] rfl 0 1 rfl rfl rfl rfl rfl rfl ⟨rfl, rfl, by decide⟩ rfl rfl (Nat.le_of_ble_eq_true rfl) dX8_toggle_9 (fun v w hq => ?_)
  obtain ⟨rfl, rfl⟩ := hq
  refine j_ws [0, 1, 4, 5, 2, 3] (ws' := [(x, .inr (8, [.ref nw, .ref tk, .int (bI itk), .ref ch, .ref ah, .ref th, .ref tp, .ref wt, .ref rows])), (nw, .inr (7, [.ref g, .ref ru, .ref se, .ref ev])), (g, .inr (1, [.int (nI W), .int (nI H), .int t, .ref b])), (b, ia G 16 f), (ch, .inr (4, [.int (nI c), .ref cn])), (cn, ia G (3 * 12) (tab (fun ι => nI (c0 ι)) (fun ι => nI (c1 ι)) c2))]) rfl rfl ?_
  refine j_ifB_ne (pc := 12) (tgt := 17) hX dX8_toggle_12 (by decide) (fun c12 => ?_) (fun c12 => by rw [inG_in (by omega) (by omega) (by omega) (by omega)] at c12; cases c12)
  refine j_aload_n (pc := 17) hX dX8_toggle_17 0 rfl ?_
  refine j_get (pc := 18) hX f_RX8_12 0 rfl rfl dX8_toggle_18 ?_
  refine j_getR (pc := 21) hX f_RX8_69 1 rfl rfl dX8_toggle_21 ?_
  refine j_iload_n (pc := 24) hX dX8_toggle_24 1 rfl ?_
  refine j_iload_n (pc := 25) hX dX8_toggle_25 2 rfl ?_
  refine j_callV (pc := 26) hX kX1_flip kVX1_flip l_RX8_96 (fun l => c_X1_flip G g W H t b f xx yy (by omega) (by omega) (by omega) (by omega) (by omega) (by omega) l) [2, 3] [0, 1, 4, 5] [] rfl 0 1 rfl rfl rfl rfl rfl rfl ⟨rfl, rfl, by decide⟩ rfl rfl (Nat.le_of_ble_eq_true rfl) dX8_toggle_26 (fun v w hq => ?_)
  obtain ⟨rfl, rfl⟩ := hq
  refine j_ws [0, 1, 4, 5, 2, 3] (ws' := [(x, .inr (8, [.ref nw, .ref tk, .int (bI itk), .ref ch, .ref ah, .ref th, .ref tp, .ref wt, .ref rows])), (nw, .inr (7, [.ref g, .ref ru, .ref se, .ref ev])), (g, .inr (1, [.int (nI W), .int (nI H), .int t, .ref b])), (b, ia G 16 (flp W H f xx yy)), (ch, .inr (4, [.int (nI c), .ref cn])), (cn, ia G (3 * 12) (tab (fun ι => nI (c0 ι)) (fun ι => nI (c1 ι)) c2))]) rfl rfl ?_
  refine j_aload_n (pc := 29) hX dX8_toggle_29 0 rfl ?_
  refine j_get (pc := 30) hX f_RX8_30 0 rfl rfl dX8_toggle_30 ?_
  refine j_callV (pc := 33) hX kX4_isFull kVX4_isFull l_RX8_99 (fun l => c_X4_isFull G ch cn 12 c (fun ι => nI (c0 ι)) (fun ι => nI (c1 ι)) c2 (by omega) (by omega) l) [4, 5] [0, 1, 2, 3] [] rfl 0 4 rfl rfl rfl rfl rfl rfl ⟨rfl, rfl, by decide⟩ rfl rfl (Nat.le_of_ble_eq_true rfl) dX8_toggle_33 (fun v w hq => ?_)
  obtain ⟨rfl, rfl⟩ := hq
  refine j_ws [0, 1, 2, 3, 4, 5] (ws' := [(x, .inr (8, [.ref nw, .ref tk, .int (bI itk), .ref ch, .ref ah, .ref th, .ref tp, .ref wt, .ref rows])), (nw, .inr (7, [.ref g, .ref ru, .ref se, .ref ev])), (g, .inr (1, [.int (nI W), .int (nI H), .int t, .ref b])), (b, ia G 16 (flp W H f xx yy)), (ch, .inr (4, [.int (nI c), .ref cn])), (cn, ia G (3 * 12) (tab (fun ι => nI (c0 ι)) (fun ι => nI (c1 ι)) c2))]) rfl rfl ?_
  refine j_ifB_eq (pc := 36) (tgt := 46) hX dX8_toggle_36 (by decide) (fun c36 => ?_) (fun c36 => by have := of_decide_eq_true c36; omega)
  refine j_aload_n (pc := 46) hX dX8_toggle_46 0 rfl ?_
  refine j_get (pc := 47) hX f_RX8_30 0 rfl rfl dX8_toggle_47 ?_
  refine j_iload_n (pc := 50) hX dX8_toggle_50 1 rfl ?_
  refine j_iload_n (pc := 51) hX dX8_toggle_51 2 rfl ?_
  refine j_aload_n (pc := 52) hX dX8_toggle_52 0 rfl ?_
  refine j_get (pc := 53) hX f_RX8_12 0 rfl rfl dX8_toggle_53 ?_
  refine j_getR (pc := 56) hX f_RX8_69 1 rfl rfl dX8_toggle_56 ?_
  refine j_get (pc := 59) hX f_RX8_86 2 rfl rfl dX8_toggle_59 ?_
  refine j_callV (pc := 62) hX kX4_add kVX4_add l_RX8_106 (fun l => c_X4_add G ch cn 12 c (fun ι => nI (c0 ι)) (fun ι => nI (c1 ι)) c2 (nI xx) (nI yy) t (by omega) (by omega) l) [4, 5] [0, 1, 2, 3] [] rfl 0 4 rfl rfl rfl rfl rfl rfl ⟨rfl, rfl, by decide⟩ rfl rfl (Nat.le_of_ble_eq_true rfl) dX8_toggle_62 (fun v w hq => ?_)
  obtain ⟨rfl, rfl⟩ := hq
  refine j_ws [0, 1, 2, 3, 4, 5] (ws' := [(x, .inr (8, [.ref nw, .ref tk, .int (bI itk), .ref ch, .ref ah, .ref th, .ref tp, .ref wt, .ref rows])), (nw, .inr (7, [.ref g, .ref ru, .ref se, .ref ev])), (g, .inr (1, [.int (nI W), .int (nI H), .int t, .ref b])), (b, ia G 16 (flp W H f xx yy)), (ch, .inr (4, [.int (nI (c + 1)), .ref cn])), (cn, ia G (3 * 12) (tab (upd (fun ι => nI (c0 ι)) c (nI xx)) (upd (fun ι => nI (c1 ι)) c (nI yy)) (upd c2 c t)))]) rfl rfl ?_
  refine j_aload_n (pc := 65) hX dX8_toggle_65 0 rfl ?_
  refine j_get (pc := 66) hX f_RX8_12 0 rfl rfl dX8_toggle_66 ?_
  refine j_getR (pc := 69) hX f_RX8_69 1 rfl rfl dX8_toggle_69 ?_
  refine j_iload_n (pc := 72) hX dX8_toggle_72 1 rfl ?_
  refine j_iload_n (pc := 73) hX dX8_toggle_73 2 rfl ?_
  refine j_callV (pc := 74) hX kX1_cellAt kVX1_cellAt l_RX8_110 (fun l => c_X1_cellAt G g W H t b (flp W H f xx yy) xx yy (by omega) (by omega) (by omega) (by omega) (by omega) (by omega) l) [2, 3] [0, 1, 4, 5] [] rfl 0 1 rfl rfl rfl rfl rfl rfl ⟨rfl, rfl, by decide⟩ rfl rfl (Nat.le_of_ble_eq_true rfl) dX8_toggle_74 (fun v w hq => ?_)
  obtain ⟨rfl, rfl⟩ := hq
  refine j_ws [0, 1, 4, 5, 2, 3] (ws' := [(x, .inr (8, [.ref nw, .ref tk, .int (bI itk), .ref ch, .ref ah, .ref th, .ref tp, .ref wt, .ref rows])), (nw, .inr (7, [.ref g, .ref ru, .ref se, .ref ev])), (g, .inr (1, [.int (nI W), .int (nI H), .int t, .ref b])), (b, ia G 16 (flp W H f xx yy)), (ch, .inr (4, [.int (nI (c + 1)), .ref cn])), (cn, ia G (3 * 12) (tab (upd (fun ι => nI (c0 ι)) c (nI xx)) (upd (fun ι => nI (c1 ι)) c (nI yy)) (upd c2 c t)))]) rfl rfl ?_
  refine j_ia (q0 := 5) (f := tab (upd (fun ι => nI (c0 ι)) c (nI xx)) (upd (fun ι => nI (c1 ι)) c (nI yy)) (upd c2 c t)) (g := tab (fun ι => nI ((updN c0 c xx) ι)) (fun ι => nI ((updN c1 c yy) ι)) (upd c2 c t)) rfl (fun z hz => by rw [updNf, updNf]) (ws' := [(x, .inr (8, [.ref nw, .ref tk, .int (bI itk), .ref ch, .ref ah, .ref th, .ref tp, .ref wt, .ref rows])), (nw, .inr (7, [.ref g, .ref ru, .ref se, .ref ev])), (g, .inr (1, [.int (nI W), .int (nI H), .int t, .ref b])), (b, ia G 16 (flp W H f xx yy)), (ch, .inr (4, [.int (nI (c + 1)), .ref cn])), (cn, ia G (3 * 12) (tab (fun ι => nI ((updN c0 c xx) ι)) (fun ι => nI ((updN c1 c yy) ι)) (upd c2 c t)))]) rfl ?_
  exact j_iret (pc := 77) hX hR dX8_toggle_77 ⟨congrArg some (show Value.int (bI (bt ((flp W H f xx yy) yy) xx)) = Value.int (bI (bt (flp W H f xx yy yy) xx)) from by rfl), rfl⟩
set_option maxHeartbeats 4000000 in
set_option maxRecDepth 100000 in
theorem c_X8_toggle_full (G : GT) (x : Nat) (nw : Nat) (tk : Nat) (itk : Bool) (ch : Nat) (ah : Nat) (th : Nat) (tp : Nat) (wt : Nat) (rows : Nat) (g : Nat) (ru : Nat) (se : Nat) (ev : Nat) (W : Nat) (H : Nat) (t : Int32) (b : Nat) (f : Nat → Int32) (cn : Nat) (c0 : Nat → Nat) (c1 : Nat → Nat) (c2 : Nat → Int32) (xx yy : Nat) (hW1 : 2 ≤ W) (hW2 : W ≤ 16) (hH1 : 2 ≤ H) (hH2 : H ≤ 16) (hX1 : xx < W) (hY1 : yy < H) (l : Launch) : CT l G yX8_toggle cX8_toggle 3 (some .int) { frames := 2, cells := 0, slots := 0, locals := 45 } [.ref x, .int (nI xx), .int (nI yy)] [(x, .inr (8, [.ref nw, .ref tk, .int (bI itk), .ref ch, .ref ah, .ref th, .ref tp, .ref wt, .ref rows])), (nw, .inr (7, [.ref g, .ref ru, .ref se, .ref ev])), (g, .inr (1, [.int (nI W), .int (nI H), .int t, .ref b])), (b, ia G 16 f), (ch, .inr (4, [.int (nI 12), .ref cn])), (cn, ia G (3 * 12) (tab (fun ι => nI (c0 ι)) (fun ι => nI (c1 ι)) c2))] (fun vv ww => vv = some (.int (bI (bt (flp W H f xx yy yy) xx))) ∧ ww = [(x, .inr (8, [.ref nw, .ref tk, .int (bI itk), .ref ch, .ref ah, .ref th, .ref tp, .ref wt, .ref rows])), (nw, .inr (7, [.ref g, .ref ru, .ref se, .ref ev])), (g, .inr (1, [.int (nI W), .int (nI H), .int t, .ref b])), (b, ia G 16 (flp W H f xx yy)), (ch, .inr (4, [.int (nI 12), .ref cn])), (cn, ia G (3 * 12) (tab (fun ι => nI ((updN (shfN 12 c0) 11 xx) ι)) (fun ι => nI ((updN (shfN 12 c1) 11 yy) ι)) (upd (shf 12 c2) 11 t)))]) := by
  refine CT.of (lv := [(0, .ref x), (1, .int (nI xx)), (2, .int (nI yy))]) RX8 "toggle" rfl rfl (by decide +kernel) (Nat.le_of_ble_eq_true rfl) rfl (fun X hX hR => ?_)
  refine j_aload_n (pc := 0) hX dX8_toggle_0 0 rfl ?_
  refine j_get (pc := 1) hX f_RX8_12 0 rfl rfl dX8_toggle_1 ?_
  refine j_getR (pc := 4) hX f_RX8_69 1 rfl rfl dX8_toggle_4 ?_
  refine j_iload_n (pc := 7) hX dX8_toggle_7 1 rfl ?_
  refine j_iload_n (pc := 8) hX dX8_toggle_8 2 rfl ?_
  refine j_callV (pc := 9) hX kX1_has kVX1_has l_RX8_92 (fun l => c_X1_has G g W H t b f (nI xx) (nI yy) (by omega) (by omega) (by omega) (by omega) l) [2, 3] [0, 1, 4, 5] [] rfl 0 1 rfl rfl rfl rfl rfl rfl ⟨rfl, rfl, by decide⟩ rfl rfl (Nat.le_of_ble_eq_true rfl) dX8_toggle_9 (fun v w hq => ?_)
  obtain ⟨rfl, rfl⟩ := hq
  refine j_ws [0, 1, 4, 5, 2, 3] (ws' := [(x, .inr (8, [.ref nw, .ref tk, .int (bI itk), .ref ch, .ref ah, .ref th, .ref tp, .ref wt, .ref rows])), (nw, .inr (7, [.ref g, .ref ru, .ref se, .ref ev])), (g, .inr (1, [.int (nI W), .int (nI H), .int t, .ref b])), (b, ia G 16 f), (ch, .inr (4, [.int (nI 12), .ref cn])), (cn, ia G (3 * 12) (tab (fun ι => nI (c0 ι)) (fun ι => nI (c1 ι)) c2))]) rfl rfl ?_
  refine j_ifB_ne (pc := 12) (tgt := 17) hX dX8_toggle_12 (by decide) (fun c12 => ?_) (fun c12 => by rw [inG_in (by omega) (by omega) (by omega) (by omega)] at c12; cases c12)
  refine j_aload_n (pc := 17) hX dX8_toggle_17 0 rfl ?_
  refine j_get (pc := 18) hX f_RX8_12 0 rfl rfl dX8_toggle_18 ?_
  refine j_getR (pc := 21) hX f_RX8_69 1 rfl rfl dX8_toggle_21 ?_
  refine j_iload_n (pc := 24) hX dX8_toggle_24 1 rfl ?_
  refine j_iload_n (pc := 25) hX dX8_toggle_25 2 rfl ?_
  refine j_callV (pc := 26) hX kX1_flip kVX1_flip l_RX8_96 (fun l => c_X1_flip G g W H t b f xx yy (by omega) (by omega) (by omega) (by omega) (by omega) (by omega) l) [2, 3] [0, 1, 4, 5] [] rfl 0 1 rfl rfl rfl rfl rfl rfl ⟨rfl, rfl, by decide⟩ rfl rfl (Nat.le_of_ble_eq_true rfl) dX8_toggle_26 (fun v w hq => ?_)
  obtain ⟨rfl, rfl⟩ := hq
  refine j_ws [0, 1, 4, 5, 2, 3] (ws' := [(x, .inr (8, [.ref nw, .ref tk, .int (bI itk), .ref ch, .ref ah, .ref th, .ref tp, .ref wt, .ref rows])), (nw, .inr (7, [.ref g, .ref ru, .ref se, .ref ev])), (g, .inr (1, [.int (nI W), .int (nI H), .int t, .ref b])), (b, ia G 16 (flp W H f xx yy)), (ch, .inr (4, [.int (nI 12), .ref cn])), (cn, ia G (3 * 12) (tab (fun ι => nI (c0 ι)) (fun ι => nI (c1 ι)) c2))]) rfl rfl ?_
  refine j_aload_n (pc := 29) hX dX8_toggle_29 0 rfl ?_
  refine j_get (pc := 30) hX f_RX8_30 0 rfl rfl dX8_toggle_30 ?_
  refine j_callV (pc := 33) hX kX4_isFull kVX4_isFull l_RX8_99 (fun l => c_X4_isFull G ch cn 12 12 (fun ι => nI (c0 ι)) (fun ι => nI (c1 ι)) c2 (by omega) (by omega) l) [4, 5] [0, 1, 2, 3] [] rfl 0 4 rfl rfl rfl rfl rfl rfl ⟨rfl, rfl, by decide⟩ rfl rfl (Nat.le_of_ble_eq_true rfl) dX8_toggle_33 (fun v w hq => ?_)
  obtain ⟨rfl, rfl⟩ := hq
  refine j_ws [0, 1, 2, 3, 4, 5] (ws' := [(x, .inr (8, [.ref nw, .ref tk, .int (bI itk), .ref ch, .ref ah, .ref th, .ref tp, .ref wt, .ref rows])), (nw, .inr (7, [.ref g, .ref ru, .ref se, .ref ev])), (g, .inr (1, [.int (nI W), .int (nI H), .int t, .ref b])), (b, ia G 16 (flp W H f xx yy)), (ch, .inr (4, [.int (nI 12), .ref cn])), (cn, ia G (3 * 12) (tab (fun ι => nI (c0 ι)) (fun ι => nI (c1 ι)) c2))]) rfl rfl ?_
  refine j_ifB_eq (pc := 36) (tgt := 46) hX dX8_toggle_36 (by decide) (fun c36 => by have := of_decide_eq_false c36; omega) (fun c36 => ?_)
  refine j_aload_n (pc := 39) hX dX8_toggle_39 0 rfl ?_
  refine j_get (pc := 40) hX f_RX8_30 0 rfl rfl dX8_toggle_40 ?_
  refine j_callV (pc := 43) hX kX4_dropEldest kVX4_dropEldest l_RX8_103 (fun l => c_X4_dropEldest G ch cn 12 12 (fun ι => nI (c0 ι)) (fun ι => nI (c1 ι)) c2 (by omega) (by omega) (by omega) l) [4, 5] [0, 1, 2, 3] [] rfl 0 4 rfl rfl rfl rfl rfl rfl ⟨rfl, rfl, by decide⟩ rfl rfl (Nat.le_of_ble_eq_true rfl) dX8_toggle_43 (fun v w hq => ?_)
  obtain ⟨rfl, rfl⟩ := hq
  refine j_ws [0, 1, 2, 3, 4, 5] (ws' := [(x, .inr (8, [.ref nw, .ref tk, .int (bI itk), .ref ch, .ref ah, .ref th, .ref tp, .ref wt, .ref rows])), (nw, .inr (7, [.ref g, .ref ru, .ref se, .ref ev])), (g, .inr (1, [.int (nI W), .int (nI H), .int t, .ref b])), (b, ia G 16 (flp W H f xx yy)), (ch, .inr (4, [.int (nI (12 - 1)), .ref cn])), (cn, ia G (3 * 12) (tab (shf 12 (fun ι => nI (c0 ι))) (shf 12 (fun ι => nI (c1 ι))) (shf 12 c2)))]) rfl rfl ?_
  refine j_aload_n (pc := 46) hX dX8_toggle_46 0 rfl ?_
  refine j_get (pc := 47) hX f_RX8_30 0 rfl rfl dX8_toggle_47 ?_
  refine j_iload_n (pc := 50) hX dX8_toggle_50 1 rfl ?_
  refine j_iload_n (pc := 51) hX dX8_toggle_51 2 rfl ?_
  refine j_aload_n (pc := 52) hX dX8_toggle_52 0 rfl ?_
  refine j_get (pc := 53) hX f_RX8_12 0 rfl rfl dX8_toggle_53 ?_
  refine j_getR (pc := 56) hX f_RX8_69 1 rfl rfl dX8_toggle_56 ?_
  refine j_get (pc := 59) hX f_RX8_86 2 rfl rfl dX8_toggle_59 ?_
  refine j_callV (pc := 62) hX kX4_add kVX4_add l_RX8_106 (fun l => c_X4_add G ch cn 12 (12 - 1) (shf 12 (fun ι => nI (c0 ι))) (shf 12 (fun ι => nI (c1 ι))) (shf 12 c2) (nI xx) (nI yy) t (by omega) (by omega) l) [4, 5] [0, 1, 2, 3] [] rfl 0 4 rfl rfl rfl rfl rfl rfl ⟨rfl, rfl, by decide⟩ rfl rfl (Nat.le_of_ble_eq_true rfl) dX8_toggle_62 (fun v w hq => ?_)
  obtain ⟨rfl, rfl⟩ := hq
  refine j_ws [0, 1, 2, 3, 4, 5] (ws' := [(x, .inr (8, [.ref nw, .ref tk, .int (bI itk), .ref ch, .ref ah, .ref th, .ref tp, .ref wt, .ref rows])), (nw, .inr (7, [.ref g, .ref ru, .ref se, .ref ev])), (g, .inr (1, [.int (nI W), .int (nI H), .int t, .ref b])), (b, ia G 16 (flp W H f xx yy)), (ch, .inr (4, [.int (nI ((12 - 1) + 1)), .ref cn])), (cn, ia G (3 * 12) (tab (upd (shf 12 (fun ι => nI (c0 ι))) (12 - 1) (nI xx)) (upd (shf 12 (fun ι => nI (c1 ι))) (12 - 1) (nI yy)) (upd (shf 12 c2) (12 - 1) t)))]) rfl rfl ?_
  refine j_aload_n (pc := 65) hX dX8_toggle_65 0 rfl ?_
  refine j_get (pc := 66) hX f_RX8_12 0 rfl rfl dX8_toggle_66 ?_
  refine j_getR (pc := 69) hX f_RX8_69 1 rfl rfl dX8_toggle_69 ?_
  refine j_iload_n (pc := 72) hX dX8_toggle_72 1 rfl ?_
  refine j_iload_n (pc := 73) hX dX8_toggle_73 2 rfl ?_
  refine j_callV (pc := 74) hX kX1_cellAt kVX1_cellAt l_RX8_110 (fun l => c_X1_cellAt G g W H t b (flp W H f xx yy) xx yy (by omega) (by omega) (by omega) (by omega) (by omega) (by omega) l) [2, 3] [0, 1, 4, 5] [] rfl 0 1 rfl rfl rfl rfl rfl rfl ⟨rfl, rfl, by decide⟩ rfl rfl (Nat.le_of_ble_eq_true rfl) dX8_toggle_74 (fun v w hq => ?_)
  obtain ⟨rfl, rfl⟩ := hq
  refine j_ws [0, 1, 4, 5, 2, 3] (ws' := [(x, .inr (8, [.ref nw, .ref tk, .int (bI itk), .ref ch, .ref ah, .ref th, .ref tp, .ref wt, .ref rows])), (nw, .inr (7, [.ref g, .ref ru, .ref se, .ref ev])), (g, .inr (1, [.int (nI W), .int (nI H), .int t, .ref b])), (b, ia G 16 (flp W H f xx yy)), (ch, .inr (4, [.int (nI ((12 - 1) + 1)), .ref cn])), (cn, ia G (3 * 12) (tab (upd (shf 12 (fun ι => nI (c0 ι))) (12 - 1) (nI xx)) (upd (shf 12 (fun ι => nI (c1 ι))) (12 - 1) (nI yy)) (upd (shf 12 c2) (12 - 1) t)))]) rfl rfl ?_
  refine j_ia (q0 := 5) (f := tab (upd (shf 12 (fun ι => nI (c0 ι))) (12 - 1) (nI xx)) (upd (shf 12 (fun ι => nI (c1 ι))) (12 - 1) (nI yy)) (upd (shf 12 c2) (12 - 1) t)) (g := tab (fun ι => nI ((updN (shfN 12 c0) 11 xx) ι)) (fun ι => nI ((updN (shfN 12 c1) 11 yy) ι)) (upd (shf 12 c2) 11 t)) rfl (fun z hz => by (rw [shfNf, shfNf, updNf, updNf])) (ws' := [(x, .inr (8, [.ref nw, .ref tk, .int (bI itk), .ref ch, .ref ah, .ref th, .ref tp, .ref wt, .ref rows])), (nw, .inr (7, [.ref g, .ref ru, .ref se, .ref ev])), (g, .inr (1, [.int (nI W), .int (nI H), .int t, .ref b])), (b, ia G 16 (flp W H f xx yy)), (ch, .inr (4, [.int (nI ((12 - 1) + 1)), .ref cn])), (cn, ia G (3 * 12) (tab (fun ι => nI ((updN (shfN 12 c0) 11 xx) ι)) (fun ι => nI ((updN (shfN 12 c1) 11 yy) ι)) (upd (shf 12 c2) 11 t)))]) rfl ?_
  refine j_eqw (ws' := [(x, .inr (8, [.ref nw, .ref tk, .int (bI itk), .ref ch, .ref ah, .ref th, .ref tp, .ref wt, .ref rows])), (nw, .inr (7, [.ref g, .ref ru, .ref se, .ref ev])), (g, .inr (1, [.int (nI W), .int (nI H), .int t, .ref b])), (b, ia G 16 (flp W H f xx yy)), (ch, .inr (4, [.int (nI 12), .ref cn])), (cn, ia G (3 * 12) (tab (fun ι => nI ((updN (shfN 12 c0) 11 xx) ι)) (fun ι => nI ((updN (shfN 12 c1) 11 yy) ι)) (upd (shf 12 c2) 11 t)))]) (congrArg (fun ζ : Int32 => ([(x, .inr (8, [.ref nw, .ref tk, .int (bI itk), .ref ch, .ref ah, .ref th, .ref tp, .ref wt, .ref rows])), (nw, .inr (7, [.ref g, .ref ru, .ref se, .ref ev])), (g, .inr (1, [.int (nI W), .int (nI H), .int t, .ref b])), (b, ia G 16 (flp W H f xx yy)), (ch, .inr (4, [.int ζ, .ref cn])), (cn, ia G (3 * 12) (tab (fun ι => nI ((updN (shfN 12 c0) 11 xx) ι)) (fun ι => nI ((updN (shfN 12 c1) 11 yy) ι)) (upd (shf 12 c2) 11 t)))] : va_W)) (show nI ((12 - 1) + 1) = nI 12 from by rfl)) ?_
  exact j_iret (pc := 77) hX hR dX8_toggle_77 ⟨congrArg some (show Value.int (bI (bt ((flp W H f xx yy) yy) xx)) = Value.int (bI (bt (flp W H f xx yy yy) xx)) from by rfl), rfl⟩
set_option maxHeartbeats 4000000 in
set_option maxRecDepth 100000 in
theorem c_X8_toggle_bad (G : GT) (x : Nat) (nw : Nat) (tk : Nat) (itk : Bool) (ch : Nat) (ah : Nat) (th : Nat) (tp : Nat) (wt : Nat) (rows : Nat) (g : Nat) (ru : Nat) (se : Nat) (ev : Nat) (W : Nat) (H : Nat) (t : Int32) (b : Nat) (f : Nat → Int32) (x_ y_ : Int32) (hW1 : 2 ≤ W) (hW2 : W ≤ 16) (hH1 : 2 ≤ H) (hH2 : H ≤ 16) (hb : inG W H x_ y_ = false) (l : Launch) : CT l G yX8_toggle cX8_toggle 3 (some .int) { frames := 2, cells := 0, slots := 0, locals := 45 } [.ref x, .int x_, .int y_] [(x, .inr (8, [.ref nw, .ref tk, .int (bI itk), .ref ch, .ref ah, .ref th, .ref tp, .ref wt, .ref rows])), (nw, .inr (7, [.ref g, .ref ru, .ref se, .ref ev])), (g, .inr (1, [.int (nI W), .int (nI H), .int t, .ref b])), (b, ia G 16 f)] (fun vv ww => vv = some (.int (-1)) ∧ ww = [(x, .inr (8, [.ref nw, .ref tk, .int (bI itk), .ref ch, .ref ah, .ref th, .ref tp, .ref wt, .ref rows])), (nw, .inr (7, [.ref g, .ref ru, .ref se, .ref ev])), (g, .inr (1, [.int (nI W), .int (nI H), .int t, .ref b])), (b, ia G 16 f)]) := by
  refine CT.of (lv := [(0, .ref x), (1, .int x_), (2, .int y_)]) RX8 "toggle" rfl rfl (by decide +kernel) (Nat.le_of_ble_eq_true rfl) rfl (fun X hX hR => ?_)
  refine j_aload_n (pc := 0) hX dX8_toggle_0 0 rfl ?_
  refine j_get (pc := 1) hX f_RX8_12 0 rfl rfl dX8_toggle_1 ?_
  refine j_getR (pc := 4) hX f_RX8_69 1 rfl rfl dX8_toggle_4 ?_
  refine j_iload_n (pc := 7) hX dX8_toggle_7 1 rfl ?_
  refine j_iload_n (pc := 8) hX dX8_toggle_8 2 rfl ?_
  refine j_callV (pc := 9) hX kX1_has kVX1_has l_RX8_92 (fun l => c_X1_has G g W H t b f x_ y_ (by omega) (by omega) (by omega) (by omega) l) [2, 3] [0, 1] [] rfl 0 1 rfl rfl rfl rfl rfl rfl ⟨rfl, rfl, by decide⟩ rfl rfl (Nat.le_of_ble_eq_true rfl) dX8_toggle_9 (fun v w hq => ?_)
  obtain ⟨rfl, rfl⟩ := hq
  refine j_ws [0, 1, 2, 3] (ws' := [(x, .inr (8, [.ref nw, .ref tk, .int (bI itk), .ref ch, .ref ah, .ref th, .ref tp, .ref wt, .ref rows])), (nw, .inr (7, [.ref g, .ref ru, .ref se, .ref ev])), (g, .inr (1, [.int (nI W), .int (nI H), .int t, .ref b])), (b, ia G 16 f)]) rfl rfl ?_
  refine j_ifB_ne (pc := 12) (tgt := 17) hX dX8_toggle_12 (by decide) (fun c12 => by rw [hb] at c12; cases c12) (fun c12 => ?_)
  refine j_iconst (pc := 15) (v := (-1)) hX dX8_toggle_15 (by decide) ?_
  exact j_iret (pc := 16) hX hR dX8_toggle_16 ⟨rfl, rfl⟩
set_option maxHeartbeats 4000000 in
set_option maxRecDepth 100000 in
theorem c_X8_undo_0 (G : GT) (x : Nat) (nw : Nat) (tk : Nat) (itk : Bool) (ch : Nat) (ah : Nat) (th : Nat) (tp : Nat) (wt : Nat) (rows : Nat) (g : Nat) (ru : Nat) (se : Nat) (ev : Nat) (W : Nat) (H : Nat) (t : Int32) (b : Nat) (f : Nat → Int32) (cn : Nat) (c0 : Nat → Nat) (c1 : Nat → Nat) (c2 : Nat → Int32)  (l : Launch) : CT l G yX8_undo cX8_undo 4 (some .int) { frames := 2, cells := 0, slots := 0, locals := 44 } [.ref x] [(x, .inr (8, [.ref nw, .ref tk, .int (bI itk), .ref ch, .ref ah, .ref th, .ref tp, .ref wt, .ref rows])), (nw, .inr (7, [.ref g, .ref ru, .ref se, .ref ev])), (g, .inr (1, [.int (nI W), .int (nI H), .int t, .ref b])), (b, ia G 16 f), (ch, .inr (4, [.int (nI 0), .ref cn])), (cn, ia G (3 * 12) (tab (fun ι => nI (c0 ι)) (fun ι => nI (c1 ι)) c2))] (fun vv ww => vv = some (.int (-3)) ∧ ww = [(x, .inr (8, [.ref nw, .ref tk, .int (bI itk), .ref ch, .ref ah, .ref th, .ref tp, .ref wt, .ref rows])), (nw, .inr (7, [.ref g, .ref ru, .ref se, .ref ev])), (g, .inr (1, [.int (nI W), .int (nI H), .int t, .ref b])), (b, ia G 16 f), (ch, .inr (4, [.int (nI 0), .ref cn])), (cn, ia G (3 * 12) (tab (fun ι => nI (c0 ι)) (fun ι => nI (c1 ι)) c2))]) := by
  refine CT.of (lv := [(0, .ref x)]) RX8 "undo" rfl rfl (by decide +kernel) (Nat.le_of_ble_eq_true rfl) rfl (fun X hX hR => ?_)
  refine j_aload_n (pc := 0) hX dX8_undo_0 0 rfl ?_
  refine j_get (pc := 1) hX f_RX8_30 0 rfl rfl dX8_undo_1 ?_
  refine j_get (pc := 4) hX f_RX8_114 4 rfl rfl dX8_undo_4 ?_
  refine j_iconstN (pc := 7) (j := 1) hX dX8_undo_7 rfl ?_
  refine j_isub (pc := 8) hX dX8_undo_8 ?_
  refine j_topi (y := (-1)) (by decide) ?_
  refine j_istore_n (pc := 9) (lv' := [(1, .int (-1)), (0, .ref x)]) hX dX8_undo_9 (by decide) rfl ?_
  refine j_iload_n (pc := 10) hX dX8_undo_10 0 rfl ?_
  refine j_if_lt (pc := 11) (tgt := 35) hX dX8_undo_11 (by decide) (show ((-1) : Int32).toInt = -1 from by decide) (fun c11 => ?_) (fun c11 => absurd c11 (by decide))
  refine j_bipush (pc := 35) (v := (-3)) hX dX8_undo_35 (by decide) ?_
  exact j_iret (pc := 37) hX hR dX8_undo_37 ⟨rfl, rfl⟩
set_option maxHeartbeats 4000000 in
set_option maxRecDepth 100000 in
theorem c_X8_undo_t (G : GT) (x : Nat) (nw : Nat) (tk : Nat) (itk : Bool) (ch : Nat) (ah : Nat) (th : Nat) (tp : Nat) (wt : Nat) (rows : Nat) (g : Nat) (ru : Nat) (se : Nat) (ev : Nat) (W : Nat) (H : Nat) (t : Int32) (b : Nat) (f : Nat → Int32) (c : Nat) (cn : Nat) (c0 : Nat → Nat) (c1 : Nat → Nat) (c2 : Nat → Int32) (hc : 0 < c ∧ c ≤ 12) (ht : c2 (c - 1) ≠ t) (l : Launch) : CT l G yX8_undo cX8_undo 4 (some .int) { frames := 2, cells := 0, slots := 0, locals := 44 } [.ref x] [(x, .inr (8, [.ref nw, .ref tk, .int (bI itk), .ref ch, .ref ah, .ref th, .ref tp, .ref wt, .ref rows])), (nw, .inr (7, [.ref g, .ref ru, .ref se, .ref ev])), (g, .inr (1, [.int (nI W), .int (nI H), .int t, .ref b])), (b, ia G 16 f), (ch, .inr (4, [.int (nI c), .ref cn])), (cn, ia G (3 * 12) (tab (fun ι => nI (c0 ι)) (fun ι => nI (c1 ι)) c2))] (fun vv ww => vv = some (.int (-3)) ∧ ww = [(x, .inr (8, [.ref nw, .ref tk, .int (bI itk), .ref ch, .ref ah, .ref th, .ref tp, .ref wt, .ref rows])), (nw, .inr (7, [.ref g, .ref ru, .ref se, .ref ev])), (g, .inr (1, [.int (nI W), .int (nI H), .int t, .ref b])), (b, ia G 16 f), (ch, .inr (4, [.int (nI c), .ref cn])), (cn, ia G (3 * 12) (tab (fun ι => nI (c0 ι)) (fun ι => nI (c1 ι)) c2))]) := by
  refine CT.of (lv := [(0, .ref x)]) RX8 "undo" rfl rfl (by decide +kernel) (Nat.le_of_ble_eq_true rfl) rfl (fun X hX hR => ?_)
  refine j_aload_n (pc := 0) hX dX8_undo_0 0 rfl ?_
  refine j_get (pc := 1) hX f_RX8_30 0 rfl rfl dX8_undo_1 ?_
  refine j_get (pc := 4) hX f_RX8_114 4 rfl rfl dX8_undo_4 ?_
  refine j_iconstN (pc := 7) (j := 1) hX dX8_undo_7 rfl ?_
  refine j_isub (pc := 8) hX dX8_undo_8 ?_
  refine j_topi (y := nI (c - 1)) (pk_sub (by omega)) ?_
  refine j_istore_n (pc := 9) (lv' := [(1, .int (nI (c - 1))), (0, .ref x)]) hX dX8_undo_9 (by decide) rfl ?_
  refine j_iload_n (pc := 10) hX dX8_undo_10 0 rfl ?_
  refine j_if_lt (pc := 11) (tgt := 35) hX dX8_undo_11 (by decide) (nI_toInt (n := c - 1) (by omega)) (fun c11 => by exfalso; omega) (fun c11 => ?_)
  refine j_aload_n (pc := 14) hX dX8_undo_14 1 rfl ?_
  refine j_get (pc := 15) hX f_RX8_30 0 rfl rfl dX8_undo_15 ?_
  refine j_iload_n (pc := 18) hX dX8_undo_18 0 rfl ?_
  refine j_callV (pc := 19) hX kX4_third kVX4_third l_RX8_117 (fun l => c_X4_third G ch cn 12 c (fun ι => nI (c0 ι)) (fun ι => nI (c1 ι)) c2 (c - 1) (by omega) (by omega) l) [4, 5] [0, 1, 2, 3] [] rfl 0 4 rfl rfl rfl rfl rfl rfl ⟨rfl, rfl, by decide⟩ rfl rfl (Nat.le_of_ble_eq_true rfl) dX8_undo_19 (fun v w hq => ?_)
  obtain ⟨rfl, rfl⟩ := hq
  refine j_ws [0, 1, 2, 3, 4, 5] (ws' := [(x, .inr (8, [.ref nw, .ref tk, .int (bI itk), .ref ch, .ref ah, .ref th, .ref tp, .ref wt, .ref rows])), (nw, .inr (7, [.ref g, .ref ru, .ref se, .ref ev])), (g, .inr (1, [.int (nI W), .int (nI H), .int t, .ref b])), (b, ia G 16 f), (ch, .inr (4, [.int (nI c), .ref cn])), (cn, ia G (3 * 12) (tab (fun ι => nI (c0 ι)) (fun ι => nI (c1 ι)) c2))]) rfl rfl ?_
  refine j_aload_n (pc := 22) hX dX8_undo_22 1 rfl ?_
  refine j_get (pc := 23) hX f_RX8_12 0 rfl rfl dX8_undo_23 ?_
  refine j_getR (pc := 26) hX f_RX8_69 1 rfl rfl dX8_undo_26 ?_
  refine j_get (pc := 29) hX f_RX8_86 2 rfl rfl dX8_undo_29 ?_
  refine j_icmp_eq (pc := 32) (tgt := 38) hX dX8_undo_32 (by decide) rfl rfl (fun c32 => by exfalso; exact ht (Int32.toInt_inj.mp c32)) (fun c32 => ?_)
  refine j_bipush (pc := 35) (v := (-3)) hX dX8_undo_35 (by decide) ?_
  exact j_iret (pc := 37) hX hR dX8_undo_37 ⟨rfl, rfl⟩
set_option maxHeartbeats 4000000 in
set_option maxRecDepth 100000 in
theorem c_X8_undo_ok (G : GT) (x : Nat) (nw : Nat) (tk : Nat) (itk : Bool) (ch : Nat) (ah : Nat) (th : Nat) (tp : Nat) (wt : Nat) (rows : Nat) (g : Nat) (ru : Nat) (se : Nat) (ev : Nat) (W : Nat) (H : Nat) (t : Int32) (b : Nat) (f : Nat → Int32) (c : Nat) (cn : Nat) (c0 : Nat → Nat) (c1 : Nat → Nat) (c2 : Nat → Int32) (hW1 : 2 ≤ W) (hW2 : W ≤ 16) (hH1 : 2 ≤ H) (hH2 : H ≤ 16) (hc : 0 < c ∧ c ≤ 12) (ht : c2 (c - 1) = t) (h0 : c0 (c - 1) < W) (h1 : c1 (c - 1) < H) (l : Launch) : CT l G yX8_undo cX8_undo 4 (some .int) { frames := 2, cells := 0, slots := 0, locals := 44 } [.ref x] [(x, .inr (8, [.ref nw, .ref tk, .int (bI itk), .ref ch, .ref ah, .ref th, .ref tp, .ref wt, .ref rows])), (nw, .inr (7, [.ref g, .ref ru, .ref se, .ref ev])), (g, .inr (1, [.int (nI W), .int (nI H), .int t, .ref b])), (b, ia G 16 f), (ch, .inr (4, [.int (nI c), .ref cn])), (cn, ia G (3 * 12) (tab (fun ι => nI (c0 ι)) (fun ι => nI (c1 ι)) c2))] (fun vv ww => vv = some (.int (nI (100 * c0 (c - 1) + c1 (c - 1)))) ∧ ww = [(x, .inr (8, [.ref nw, .ref tk, .int (bI itk), .ref ch, .ref ah, .ref th, .ref tp, .ref wt, .ref rows])), (nw, .inr (7, [.ref g, .ref ru, .ref se, .ref ev])), (g, .inr (1, [.int (nI W), .int (nI H), .int t, .ref b])), (b, ia G 16 (flp W H f (c0 (c - 1)) (c1 (c - 1)))), (ch, .inr (4, [.int (nI (c - 1)), .ref cn])), (cn, ia G (3 * 12) (tab (fun ι => nI (c0 ι)) (fun ι => nI (c1 ι)) c2))]) := by
  refine CT.of (lv := [(0, .ref x)]) RX8 "undo" rfl rfl (by decide +kernel) (Nat.le_of_ble_eq_true rfl) rfl (fun X hX hR => ?_)
  refine j_aload_n (pc := 0) hX dX8_undo_0 0 rfl ?_
  refine j_get (pc := 1) hX f_RX8_30 0 rfl rfl dX8_undo_1 ?_
  refine j_get (pc := 4) hX f_RX8_114 4 rfl rfl dX8_undo_4 ?_
  refine j_iconstN (pc := 7) (j := 1) hX dX8_undo_7 rfl ?_
  refine j_isub (pc := 8) hX dX8_undo_8 ?_
  refine j_topi (y := nI (c - 1)) (pk_sub (by omega)) ?_
  refine j_istore_n (pc := 9) (lv' := [(1, .int (nI (c - 1))), (0, .ref x)]) hX dX8_undo_9 (by decide) rfl ?_
  refine j_iload_n (pc := 10) hX dX8_undo_10 0 rfl ?_
  refine j_if_lt (pc := 11) (tgt := 35) hX dX8_undo_11 (by decide) (nI_toInt (n := c - 1) (by omega)) (fun c11 => by exfalso; omega) (fun c11 => ?_)
  refine j_aload_n (pc := 14) hX dX8_undo_14 1 rfl ?_
  refine j_get (pc := 15) hX f_RX8_30 0 rfl rfl dX8_undo_15 ?_
  refine j_iload_n (pc := 18) hX dX8_undo_18 0 rfl ?_
  refine j_callV (pc := 19) hX kX4_third kVX4_third l_RX8_117 (fun l => c_X4_third G ch cn 12 c (fun ι => nI (c0 ι)) (fun ι => nI (c1 ι)) c2 (c - 1) (by omega) (by omega) l) [4, 5] [0, 1, 2, 3] [] rfl 0 4 rfl rfl rfl rfl rfl rfl ⟨rfl, rfl, by decide⟩ rfl rfl (Nat.le_of_ble_eq_true rfl) dX8_undo_19 (fun v w hq => ?_)
  obtain ⟨rfl, rfl⟩ := hq
  refine j_ws [0, 1, 2, 3, 4, 5] (ws' := [(x, .inr (8, [.ref nw, .ref tk, .int (bI itk), .ref ch, .ref ah, .ref th, .ref tp, .ref wt, .ref rows])), (nw, .inr (7, [.ref g, .ref ru, .ref se, .ref ev])), (g, .inr (1, [.int (nI W), .int (nI H), .int t, .ref b])), (b, ia G 16 f), (ch, .inr (4, [.int (nI c), .ref cn])), (cn, ia G (3 * 12) (tab (fun ι => nI (c0 ι)) (fun ι => nI (c1 ι)) c2))]) rfl rfl ?_
  refine j_aload_n (pc := 22) hX dX8_undo_22 1 rfl ?_
  refine j_get (pc := 23) hX f_RX8_12 0 rfl rfl dX8_undo_23 ?_
  refine j_getR (pc := 26) hX f_RX8_69 1 rfl rfl dX8_undo_26 ?_
  refine j_get (pc := 29) hX f_RX8_86 2 rfl rfl dX8_undo_29 ?_
  refine j_icmp_eq (pc := 32) (tgt := 38) hX dX8_undo_32 (by decide) rfl rfl (fun c32 => ?_) (fun c32 => by exfalso; exact c32 (by rw [ht]))
  refine j_aload_n (pc := 38) hX dX8_undo_38 1 rfl ?_
  refine j_get (pc := 39) hX f_RX8_30 0 rfl rfl dX8_undo_39 ?_
  refine j_iload_n (pc := 42) hX dX8_undo_42 0 rfl ?_
  refine j_callV (pc := 43) hX kX4_first kVX4_first l_RX8_121 (fun l => c_X4_first G ch cn 12 c (fun ι => nI (c0 ι)) (fun ι => nI (c1 ι)) c2 (c - 1) (by omega) (by omega) l) [4, 5] [0, 1, 2, 3] [] rfl 0 4 rfl rfl rfl rfl rfl rfl ⟨rfl, rfl, by decide⟩ rfl rfl (Nat.le_of_ble_eq_true rfl) dX8_undo_43 (fun v w hq => ?_)
  obtain ⟨rfl, rfl⟩ := hq
  refine j_ws [0, 1, 2, 3, 4, 5] (ws' := [(x, .inr (8, [.ref nw, .ref tk, .int (bI itk), .ref ch, .ref ah, .ref th, .ref tp, .ref wt, .ref rows])), (nw, .inr (7, [.ref g, .ref ru, .ref se, .ref ev])), (g, .inr (1, [.int (nI W), .int (nI H), .int t, .ref b])), (b, ia G 16 f), (ch, .inr (4, [.int (nI c), .ref cn])), (cn, ia G (3 * 12) (tab (fun ι => nI (c0 ι)) (fun ι => nI (c1 ι)) c2))]) rfl rfl ?_
  refine j_istore_n (pc := 46) (lv' := [(2, .int (nI (c0 (c - 1)))), (1, .int (nI (c - 1))), (0, .ref x)]) hX dX8_undo_46 (by decide) rfl ?_
  refine j_aload_n (pc := 47) hX dX8_undo_47 2 rfl ?_
  refine j_get (pc := 48) hX f_RX8_30 0 rfl rfl dX8_undo_48 ?_
  refine j_iload_n (pc := 51) hX dX8_undo_51 1 rfl ?_
  refine j_callV (pc := 52) hX kX4_second kVX4_second l_RX8_124 (fun l => c_X4_second G ch cn 12 c (fun ι => nI (c0 ι)) (fun ι => nI (c1 ι)) c2 (c - 1) (by omega) (by omega) l) [4, 5] [0, 1, 2, 3] [] rfl 0 4 rfl rfl rfl rfl rfl rfl ⟨rfl, rfl, by decide⟩ rfl rfl (Nat.le_of_ble_eq_true rfl) dX8_undo_52 (fun v w hq => ?_)
  obtain ⟨rfl, rfl⟩ := hq
  refine j_ws [0, 1, 2, 3, 4, 5] (ws' := [(x, .inr (8, [.ref nw, .ref tk, .int (bI itk), .ref ch, .ref ah, .ref th, .ref tp, .ref wt, .ref rows])), (nw, .inr (7, [.ref g, .ref ru, .ref se, .ref ev])), (g, .inr (1, [.int (nI W), .int (nI H), .int t, .ref b])), (b, ia G 16 f), (ch, .inr (4, [.int (nI c), .ref cn])), (cn, ia G (3 * 12) (tab (fun ι => nI (c0 ι)) (fun ι => nI (c1 ι)) c2))]) rfl rfl ?_
  refine j_istore_n (pc := 55) (lv' := [(3, .int (nI (c1 (c - 1)))), (2, .int (nI (c0 (c - 1)))), (1, .int (nI (c - 1))), (0, .ref x)]) hX dX8_undo_55 (by decide) rfl ?_
  refine j_aload_n (pc := 56) hX dX8_undo_56 3 rfl ?_
  refine j_get (pc := 57) hX f_RX8_12 0 rfl rfl dX8_undo_57 ?_
  refine j_getR (pc := 60) hX f_RX8_69 1 rfl rfl dX8_undo_60 ?_
  refine j_iload_n (pc := 63) hX dX8_undo_63 1 rfl ?_
  refine j_iload_n (pc := 64) hX dX8_undo_64 0 rfl ?_
  refine j_callV (pc := 65) hX kX1_flip kVX1_flip l_RX8_96 (fun l => c_X1_flip G g W H t b f (c0 (c - 1)) (c1 (c - 1)) (by omega) (by omega) (by omega) (by omega) (by omega) (by omega) l) [2, 3] [0, 1, 4, 5] [] rfl 0 1 rfl rfl rfl rfl rfl rfl ⟨rfl, rfl, by decide⟩ rfl rfl (Nat.le_of_ble_eq_true rfl) dX8_undo_65 (fun v w hq => ?_)
  obtain ⟨rfl, rfl⟩ := hq
  refine j_ws [0, 1, 4, 5, 2, 3] (ws' := [(x, .inr (8, [.ref nw, .ref tk, .int (bI itk), .ref ch, .ref ah, .ref th, .ref tp, .ref wt, .ref rows])), (nw, .inr (7, [.ref g, .ref ru, .ref se, .ref ev])), (g, .inr (1, [.int (nI W), .int (nI H), .int t, .ref b])), (b, ia G 16 (flp W H f (c0 (c - 1)) (c1 (c - 1)))), (ch, .inr (4, [.int (nI c), .ref cn])), (cn, ia G (3 * 12) (tab (fun ι => nI (c0 ι)) (fun ι => nI (c1 ι)) c2))]) rfl rfl ?_
  refine j_aload_n (pc := 68) hX dX8_undo_68 3 rfl ?_
  refine j_get (pc := 69) hX f_RX8_30 0 rfl rfl dX8_undo_69 ?_
  refine j_callV (pc := 72) hX kX4_dropLatest kVX4_dropLatest l_RX8_127 (fun l => c_X4_dropLatest G ch cn 12 c (fun ι => nI (c0 ι)) (fun ι => nI (c1 ι)) c2 (by omega) (by omega) (by omega) l) [4, 5] [0, 1, 2, 3] [] rfl 0 4 rfl rfl rfl rfl rfl rfl ⟨rfl, rfl, by decide⟩ rfl rfl (Nat.le_of_ble_eq_true rfl) dX8_undo_72 (fun v w hq => ?_)
  obtain ⟨rfl, rfl⟩ := hq
  refine j_ws [0, 1, 2, 3, 4, 5] (ws' := [(x, .inr (8, [.ref nw, .ref tk, .int (bI itk), .ref ch, .ref ah, .ref th, .ref tp, .ref wt, .ref rows])), (nw, .inr (7, [.ref g, .ref ru, .ref se, .ref ev])), (g, .inr (1, [.int (nI W), .int (nI H), .int t, .ref b])), (b, ia G 16 (flp W H f (c0 (c - 1)) (c1 (c - 1)))), (ch, .inr (4, [.int (nI (c - 1)), .ref cn])), (cn, ia G (3 * 12) (tab (fun ι => nI (c0 ι)) (fun ι => nI (c1 ι)) c2))]) rfl rfl ?_
  refine j_bipush (pc := 75) (v := nI 100) hX dX8_undo_75 (by decide) ?_
  refine j_iload_n (pc := 77) hX dX8_undo_77 1 rfl ?_
  refine j_imul (pc := 78) hX dX8_undo_78 ?_
  refine j_topi (y := nI (100 * (c0 (c - 1)))) (pk_mul _ _) ?_
  refine j_iload_n (pc := 79) hX dX8_undo_79 0 rfl ?_
  refine j_iadd (pc := 80) hX dX8_undo_80 ?_
  refine j_topi (y := nI (100 * (c0 (c - 1)) + (c1 (c - 1)))) (nI_add _ _) ?_
  exact j_iret (pc := 81) hX hR dX8_undo_81 ⟨congrArg some (show Value.int (nI (100 * (c0 (c - 1)) + (c1 (c - 1)))) = Value.int (nI (100 * c0 (c - 1) + c1 (c - 1))) from by rfl), rfl⟩
set_option maxHeartbeats 4000000 in
set_option maxRecDepth 100000 in
theorem c_X8_cell_ok (G : GT) (x : Nat) (nw : Nat) (tk : Nat) (itk : Bool) (ch : Nat) (ah : Nat) (th : Nat) (tp : Nat) (wt : Nat) (rows : Nat) (g : Nat) (ru : Nat) (se : Nat) (ev : Nat) (W : Nat) (H : Nat) (t : Int32) (b : Nat) (f : Nat → Int32) (xx yy : Nat) (hW1 : 2 ≤ W) (hW2 : W ≤ 16) (hH1 : 2 ≤ H) (hH2 : H ≤ 16) (hX1 : xx < W) (hY1 : yy < H) (l : Launch) : CT l G yX8_cell cX8_cell 3 (some .int) { frames := 2, cells := 0, slots := 0, locals := 44 } [.ref x, .int (nI xx), .int (nI yy)] [(x, .inr (8, [.ref nw, .ref tk, .int (bI itk), .ref ch, .ref ah, .ref th, .ref tp, .ref wt, .ref rows])), (nw, .inr (7, [.ref g, .ref ru, .ref se, .ref ev])), (g, .inr (1, [.int (nI W), .int (nI H), .int t, .ref b])), (b, ia G 16 f)] (fun vv ww => vv = some (.int (bI (bt (f yy) xx))) ∧ ww = [(x, .inr (8, [.ref nw, .ref tk, .int (bI itk), .ref ch, .ref ah, .ref th, .ref tp, .ref wt, .ref rows])), (nw, .inr (7, [.ref g, .ref ru, .ref se, .ref ev])), (g, .inr (1, [.int (nI W), .int (nI H), .int t, .ref b])), (b, ia G 16 f)]) := by
  refine CT.of (lv := [(0, .ref x), (1, .int (nI xx)), (2, .int (nI yy))]) RX8 "cell" rfl rfl (by decide +kernel) (Nat.le_of_ble_eq_true rfl) rfl (fun X hX hR => ?_)
  refine j_aload_n (pc := 0) hX dX8_cell_0 0 rfl ?_
  refine j_get (pc := 1) hX f_RX8_12 0 rfl rfl dX8_cell_1 ?_
  refine j_getR (pc := 4) hX f_RX8_69 1 rfl rfl dX8_cell_4 ?_
  refine j_iload_n (pc := 7) hX dX8_cell_7 1 rfl ?_
  refine j_iload_n (pc := 8) hX dX8_cell_8 2 rfl ?_
  refine j_callV (pc := 9) hX kX1_has kVX1_has l_RX8_92 (fun l => c_X1_has G g W H t b f (nI xx) (nI yy) (by omega) (by omega) (by omega) (by omega) l) [2, 3] [0, 1] [] rfl 0 1 rfl rfl rfl rfl rfl rfl ⟨rfl, rfl, by decide⟩ rfl rfl (Nat.le_of_ble_eq_true rfl) dX8_cell_9 (fun v w hq => ?_)
  obtain ⟨rfl, rfl⟩ := hq
  refine j_ws [0, 1, 2, 3] (ws' := [(x, .inr (8, [.ref nw, .ref tk, .int (bI itk), .ref ch, .ref ah, .ref th, .ref tp, .ref wt, .ref rows])), (nw, .inr (7, [.ref g, .ref ru, .ref se, .ref ev])), (g, .inr (1, [.int (nI W), .int (nI H), .int t, .ref b])), (b, ia G 16 f)]) rfl rfl ?_
  refine j_ifB_eq (pc := 12) (tgt := 30) hX dX8_cell_12 (by decide) (fun c12 => by rw [inG_in (by omega) (by omega) (by omega) (by omega)] at c12; cases c12) (fun c12 => ?_)
  refine j_aload_n (pc := 15) hX dX8_cell_15 0 rfl ?_
  refine j_get (pc := 16) hX f_RX8_12 0 rfl rfl dX8_cell_16 ?_
  refine j_getR (pc := 19) hX f_RX8_69 1 rfl rfl dX8_cell_19 ?_
  refine j_iload_n (pc := 22) hX dX8_cell_22 1 rfl ?_
  refine j_iload_n (pc := 23) hX dX8_cell_23 2 rfl ?_
  refine j_callV (pc := 24) hX kX1_cellAt kVX1_cellAt l_RX8_110 (fun l => c_X1_cellAt G g W H t b f xx yy (by omega) (by omega) (by omega) (by omega) (by omega) (by omega) l) [2, 3] [0, 1] [] rfl 0 1 rfl rfl rfl rfl rfl rfl ⟨rfl, rfl, by decide⟩ rfl rfl (Nat.le_of_ble_eq_true rfl) dX8_cell_24 (fun v w hq => ?_)
  obtain ⟨rfl, rfl⟩ := hq
  refine j_ws [0, 1, 2, 3] (ws' := [(x, .inr (8, [.ref nw, .ref tk, .int (bI itk), .ref ch, .ref ah, .ref th, .ref tp, .ref wt, .ref rows])), (nw, .inr (7, [.ref g, .ref ru, .ref se, .ref ev])), (g, .inr (1, [.int (nI W), .int (nI H), .int t, .ref b])), (b, ia G 16 f)]) rfl rfl ?_
  refine j_goto (pc := 27) (tgt := 31) hX dX8_cell_27 (by decide) ?_
  exact j_iret (pc := 31) hX hR dX8_cell_31 ⟨rfl, rfl⟩
set_option maxHeartbeats 4000000 in
set_option maxRecDepth 100000 in
theorem c_X8_cell_bad (G : GT) (x : Nat) (nw : Nat) (tk : Nat) (itk : Bool) (ch : Nat) (ah : Nat) (th : Nat) (tp : Nat) (wt : Nat) (rows : Nat) (g : Nat) (ru : Nat) (se : Nat) (ev : Nat) (W : Nat) (H : Nat) (t : Int32) (b : Nat) (f : Nat → Int32) (x_ y_ : Int32) (hW1 : 2 ≤ W) (hW2 : W ≤ 16) (hH1 : 2 ≤ H) (hH2 : H ≤ 16) (hb : inG W H x_ y_ = false) (l : Launch) : CT l G yX8_cell cX8_cell 3 (some .int) { frames := 2, cells := 0, slots := 0, locals := 44 } [.ref x, .int x_, .int y_] [(x, .inr (8, [.ref nw, .ref tk, .int (bI itk), .ref ch, .ref ah, .ref th, .ref tp, .ref wt, .ref rows])), (nw, .inr (7, [.ref g, .ref ru, .ref se, .ref ev])), (g, .inr (1, [.int (nI W), .int (nI H), .int t, .ref b])), (b, ia G 16 f)] (fun vv ww => vv = some (.int (-1)) ∧ ww = [(x, .inr (8, [.ref nw, .ref tk, .int (bI itk), .ref ch, .ref ah, .ref th, .ref tp, .ref wt, .ref rows])), (nw, .inr (7, [.ref g, .ref ru, .ref se, .ref ev])), (g, .inr (1, [.int (nI W), .int (nI H), .int t, .ref b])), (b, ia G 16 f)]) := by
  refine CT.of (lv := [(0, .ref x), (1, .int x_), (2, .int y_)]) RX8 "cell" rfl rfl (by decide +kernel) (Nat.le_of_ble_eq_true rfl) rfl (fun X hX hR => ?_)
  refine j_aload_n (pc := 0) hX dX8_cell_0 0 rfl ?_
  refine j_get (pc := 1) hX f_RX8_12 0 rfl rfl dX8_cell_1 ?_
  refine j_getR (pc := 4) hX f_RX8_69 1 rfl rfl dX8_cell_4 ?_
  refine j_iload_n (pc := 7) hX dX8_cell_7 1 rfl ?_
  refine j_iload_n (pc := 8) hX dX8_cell_8 2 rfl ?_
  refine j_callV (pc := 9) hX kX1_has kVX1_has l_RX8_92 (fun l => c_X1_has G g W H t b f x_ y_ (by omega) (by omega) (by omega) (by omega) l) [2, 3] [0, 1] [] rfl 0 1 rfl rfl rfl rfl rfl rfl ⟨rfl, rfl, by decide⟩ rfl rfl (Nat.le_of_ble_eq_true rfl) dX8_cell_9 (fun v w hq => ?_)
  obtain ⟨rfl, rfl⟩ := hq
  refine j_ws [0, 1, 2, 3] (ws' := [(x, .inr (8, [.ref nw, .ref tk, .int (bI itk), .ref ch, .ref ah, .ref th, .ref tp, .ref wt, .ref rows])), (nw, .inr (7, [.ref g, .ref ru, .ref se, .ref ev])), (g, .inr (1, [.int (nI W), .int (nI H), .int t, .ref b])), (b, ia G 16 f)]) rfl rfl ?_
  refine j_ifB_eq (pc := 12) (tgt := 30) hX dX8_cell_12 (by decide) (fun c12 => ?_) (fun c12 => by rw [hb] at c12; cases c12)
  refine j_iconst (pc := 30) (v := (-1)) hX dX8_cell_30 (by decide) ?_
  exact j_iret (pc := 31) hX hR dX8_cell_31 ⟨rfl, rfl⟩
set_option maxHeartbeats 4000000 in
set_option maxRecDepth 100000 in
theorem c_X8_rule_ok (G : GT) (x : Nat) (nw : Nat) (tk : Nat) (itk : Bool) (ch : Nat) (ah : Nat) (th : Nat) (tp : Nat) (wt : Nat) (rows : Nat) (g : Nat) (ru : Nat) (se : Nat) (ev : Nat) (rn : Nat) (rf : Nat) (p : Nat → Nat) (q : Nat → Nat) (w : Nat) (hw : w < 5) (hp : ∀ s, s < 16 → p s < 16) (l : Launch) : CT l G yX8_rule cX8_rule 2 (some .int) { frames := 3, cells := 0, slots := 0, locals := 68 } [.ref x, .int (nI w)] [(x, .inr (8, [.ref nw, .ref tk, .int (bI itk), .ref ch, .ref ah, .ref th, .ref tp, .ref wt, .ref rows])), (nw, .inr (7, [.ref g, .ref ru, .ref se, .ref ev])), (ru, .inr (3, [.ref rn, .ref rf])), (rn, ia G 16 (fun ι => nI (p ι))), (rf, ia G 16 (fun ι => nI (q ι)))] (fun vv ww => vv = some (.int (bI (otherB w p))) ∧ ww = [(x, .inr (8, [.ref nw, .ref tk, .int (bI itk), .ref ch, .ref ah, .ref th, .ref tp, .ref wt, .ref rows])), (nw, .inr (7, [.ref g, .ref ru, .ref se, .ref ev])), (ru, .inr (3, [.ref rn, .ref rf])), (rn, ia G 16 (fun ι => nI (wrd w ι))), (rf, ia G 16 (fun ι => nI (wrdI w ι)))]) := by
  refine CT.of (lv := [(0, .ref x), (1, .int (nI w))]) RX8 "rule" rfl rfl (by decide +kernel) (Nat.le_of_ble_eq_true rfl) rfl (fun X hX hR => ?_)
  refine j_iload_n (pc := 0) hX dX8_rule_0 1 rfl ?_
  refine j_if_lt (pc := 1) (tgt := 9) hX dX8_rule_1 (by decide) (nI_toInt (n := w) (by omega)) (fun c1 => by exfalso; omega) (fun c1 => ?_)
  refine j_iload_n (pc := 4) hX dX8_rule_4 1 rfl ?_
  refine j_iconstN (pc := 5) (j := 5) hX dX8_rule_5 rfl ?_
  refine j_icmp_lt (pc := 6) (tgt := 11) hX dX8_rule_6 (by decide) (nI_toInt (n := w) (by omega)) (nI_toInt (n := 5) (by decide)) (fun c6 => ?_) (fun c6 => by exfalso; omega)
  refine j_aload_n (pc := 11) hX dX8_rule_11 0 rfl ?_
  refine j_get (pc := 12) hX f_RX8_12 0 rfl rfl dX8_rule_12 ?_
  refine j_getR (pc := 15) hX f_RX8_148 1 rfl rfl dX8_rule_15 ?_
  refine j_iload_n (pc := 18) hX dX8_rule_18 1 rfl ?_
  refine j_callV (pc := 19) hX kX3_becomeWord kVX3_becomeWord l_RX8_152 (fun l => c_X3_becomeWord G ru rn rf p (fun ι => nI (q ι)) w (by omega) (by assumption) l) [2, 3, 4] [0, 1] [] rfl 0 3 rfl rfl rfl rfl rfl rfl ⟨rfl, rfl, by decide⟩ rfl rfl (Nat.le_of_ble_eq_true rfl) dX8_rule_19 (fun v w hq => ?_)
  obtain ⟨rfl, rfl⟩ := hq
  refine j_ws [0, 1, 2, 3, 4] (ws' := [(x, .inr (8, [.ref nw, .ref tk, .int (bI itk), .ref ch, .ref ah, .ref th, .ref tp, .ref wt, .ref rows])), (nw, .inr (7, [.ref g, .ref ru, .ref se, .ref ev])), (ru, .inr (3, [.ref rn, .ref rf])), (rn, ia G 16 (fun ι => nI (wrd w ι))), (rf, ia G 16 (fun ι => nI (wrdI w ι)))]) rfl rfl ?_
  refine j_ifB_eq (pc := 22) (tgt := 29) hX dX8_rule_22 (by decide) (fun c22 => ?_) (fun c22 => ?_)
  · skip
    refine j_iconstN (pc := 29) (j := 0) hX dX8_rule_29 rfl ?_
    exact j_iret (pc := 30) hX hR dX8_rule_30 ⟨congrArg some (show Value.int (nI 0) = Value.int (bI (otherB w p)) from by first | exact bI_tt c22 | exact bI_ff c22), rfl⟩
  · skip
    refine j_iconstN (pc := 25) (j := 1) hX dX8_rule_25 rfl ?_
    refine j_goto (pc := 26) (tgt := 30) hX dX8_rule_26 (by decide) ?_
    exact j_iret (pc := 30) hX hR dX8_rule_30 ⟨congrArg some (show Value.int (nI 1) = Value.int (bI (otherB w p)) from by first | exact bI_tt c22 | exact bI_ff c22), rfl⟩
set_option maxHeartbeats 4000000 in
set_option maxRecDepth 100000 in
theorem c_X8_rule_bad (G : GT) (x : Nat) (nw : Nat) (tk : Nat) (itk : Bool) (ch : Nat) (ah : Nat) (th : Nat) (tp : Nat) (wt : Nat) (rows : Nat) (w : Int32) (hb : w.toInt < 0 ∨ 5 ≤ w.toInt) (l : Launch) : CT l G yX8_rule cX8_rule 2 (some .int) { frames := 3, cells := 0, slots := 0, locals := 68 } [.ref x, .int w] [(x, .inr (8, [.ref nw, .ref tk, .int (bI itk), .ref ch, .ref ah, .ref th, .ref tp, .ref wt, .ref rows]))] (fun vv ww => vv = some (.int (-1)) ∧ ww = [(x, .inr (8, [.ref nw, .ref tk, .int (bI itk), .ref ch, .ref ah, .ref th, .ref tp, .ref wt, .ref rows]))]) := by
  refine CT.of (lv := [(0, .ref x), (1, .int w)]) RX8 "rule" rfl rfl (by decide +kernel) (Nat.le_of_ble_eq_true rfl) rfl (fun X hX hR => ?_)
  refine j_iload_n (pc := 0) hX dX8_rule_0 1 rfl ?_
  refine j_if_lt (pc := 1) (tgt := 9) hX dX8_rule_1 (by decide) rfl (fun c1 => ?_) (fun c1 => ?_)
  · skip
    refine j_iconst (pc := 9) (v := (-1)) hX dX8_rule_9 (by decide) ?_
    exact j_iret (pc := 10) hX hR dX8_rule_10 ⟨rfl, rfl⟩
  · skip
    refine j_iload_n (pc := 4) hX dX8_rule_4 1 rfl ?_
    refine j_iconstN (pc := 5) (j := 5) hX dX8_rule_5 rfl ?_
    refine j_icmp_lt (pc := 6) (tgt := 11) hX dX8_rule_6 (by decide) rfl (nI_toInt (n := 5) (by decide)) (fun c6 => by exfalso; omega) (fun c6 => ?_)
    refine j_iconst (pc := 9) (v := (-1)) hX dX8_rule_9 (by decide) ?_
    exact j_iret (pc := 10) hX hR dX8_rule_10 ⟨rfl, rfl⟩
set_option maxHeartbeats 4000000 in
set_option maxRecDepth 100000 in
theorem c_X8_change_ok (G : GT) (x : Nat) (nw : Nat) (tk : Nat) (itk : Bool) (ch : Nat) (ah : Nat) (th : Nat) (tp : Nat) (wt : Nat) (rows : Nat) (g : Nat) (ru : Nat) (se : Nat) (ev : Nat) (rn : Nat) (rf : Nat) (p : Nat → Nat) (q : Nat → Nat) (i j : Nat) (hi : i < 16) (hj : j < 16) (hij : i ≠ j) (hp : ∀ s, s < 16 → p s < 16) (l : Launch) : CT l G yX8_change cX8_change 3 (some .int) { frames := 3, cells := 0, slots := 0, locals := 67 } [.ref x, .int (nI i), .int (nI j)] [(x, .inr (8, [.ref nw, .ref tk, .int (bI itk), .ref ch, .ref ah, .ref th, .ref tp, .ref wt, .ref rows])), (nw, .inr (7, [.ref g, .ref ru, .ref se, .ref ev])), (ru, .inr (3, [.ref rn, .ref rf])), (rn, ia G 16 (fun ι => nI (p ι))), (rf, ia G 16 (fun ι => nI (q ι)))] (fun vv ww => vv = some (.int (nI (updN (updN p i (p j)) j (p i) i))) ∧ ww = [(x, .inr (8, [.ref nw, .ref tk, .int (bI itk), .ref ch, .ref ah, .ref th, .ref tp, .ref wt, .ref rows])), (nw, .inr (7, [.ref g, .ref ru, .ref se, .ref ev])), (ru, .inr (3, [.ref rn, .ref rf])), (rn, ia G 16 (fun ι => nI (updN (updN p i (p j)) j (p i) ι))), (rf, ia G 16 (fun ι => nI (updN (updN q (p j) i) (p i) j ι)))]) := by
  refine CT.of (lv := [(0, .ref x), (1, .int (nI i)), (2, .int (nI j))]) RX8 "change" rfl rfl (by decide +kernel) (Nat.le_of_ble_eq_true rfl) rfl (fun X hX hR => ?_)
  refine j_iload_n (pc := 0) hX dX8_change_0 1 rfl ?_
  refine j_callS (pc := 1) hX kX8_isState kSX8_isState l_RX8_157 (fun l => c_X8_isState G (nI i)  l) [] [0, 1, 2, 3, 4] [] rfl rfl rfl rfl ⟨rfl, rfl, by decide⟩ rfl rfl (Nat.le_of_ble_eq_true rfl) dX8_change_1 (fun v w hq => ?_)
  obtain ⟨rfl, rfl⟩ := hq
  refine j_ws [0, 1, 2, 3, 4] (ws' := [(x, .inr (8, [.ref nw, .ref tk, .int (bI itk), .ref ch, .ref ah, .ref th, .ref tp, .ref wt, .ref rows])), (nw, .inr (7, [.ref g, .ref ru, .ref se, .ref ev])), (ru, .inr (3, [.ref rn, .ref rf])), (rn, ia G 16 (fun ι => nI (p ι))), (rf, ia G 16 (fun ι => nI (q ι)))]) rfl rfl ?_
  refine j_ifB_eq (pc := 4) (tgt := 19) hX dX8_change_4 (by decide) (fun c4 => by rw [rng_in hi] at c4; cases c4) (fun c4 => ?_)
  refine j_iload_n (pc := 7) hX dX8_change_7 2 rfl ?_
  refine j_callS (pc := 8) hX kX8_isState kSX8_isState l_RX8_157 (fun l => c_X8_isState G (nI j)  l) [] [0, 1, 2, 3, 4] [] rfl rfl rfl rfl ⟨rfl, rfl, by decide⟩ rfl rfl (Nat.le_of_ble_eq_true rfl) dX8_change_8 (fun v w hq => ?_)
  obtain ⟨rfl, rfl⟩ := hq
  refine j_ws [0, 1, 2, 3, 4] (ws' := [(x, .inr (8, [.ref nw, .ref tk, .int (bI itk), .ref ch, .ref ah, .ref th, .ref tp, .ref wt, .ref rows])), (nw, .inr (7, [.ref g, .ref ru, .ref se, .ref ev])), (ru, .inr (3, [.ref rn, .ref rf])), (rn, ia G 16 (fun ι => nI (p ι))), (rf, ia G 16 (fun ι => nI (q ι)))]) rfl rfl ?_
  refine j_ifB_eq (pc := 11) (tgt := 19) hX dX8_change_11 (by decide) (fun c11 => by rw [rng_in hj] at c11; cases c11) (fun c11 => ?_)
  refine j_iload_n (pc := 14) hX dX8_change_14 1 rfl ?_
  refine j_iload_n (pc := 15) hX dX8_change_15 2 rfl ?_
  refine j_icmp_ne (pc := 16) (tgt := 21) hX dX8_change_16 (by decide) (nI_toInt (n := i) (by omega)) (nI_toInt (n := j) (by omega)) (fun c16 => ?_) (fun c16 => by exfalso; omega)
  refine j_aload_n (pc := 21) hX dX8_change_21 0 rfl ?_
  refine j_get (pc := 22) hX f_RX8_12 0 rfl rfl dX8_change_22 ?_
  refine j_getR (pc := 25) hX f_RX8_148 1 rfl rfl dX8_change_25 ?_
  refine j_iload_n (pc := 28) hX dX8_change_28 1 rfl ?_
  refine j_iload_n (pc := 29) hX dX8_change_29 2 rfl ?_
  refine j_callV (pc := 30) hX kX3_exchange kVX3_exchange l_RX8_160 (fun l => c_X3_exchange G ru rn rf p q i j (by omega) (by omega) (by assumption) l) [2, 3, 4] [0, 1] [] rfl 0 3 rfl rfl rfl rfl rfl rfl ⟨rfl, rfl, by decide⟩ rfl rfl (Nat.le_of_ble_eq_true rfl) dX8_change_30 (fun v w hq => ?_)
  obtain ⟨rfl, rfl⟩ := hq
  refine j_ws [0, 1, 2, 3, 4] (ws' := [(x, .inr (8, [.ref nw, .ref tk, .int (bI itk), .ref ch, .ref ah, .ref th, .ref tp, .ref wt, .ref rows])), (nw, .inr (7, [.ref g, .ref ru, .ref se, .ref ev])), (ru, .inr (3, [.ref rn, .ref rf])), (rn, ia G 16 (fun ι => nI (updN (updN p i (p j)) j (p i) ι))), (rf, ia G 16 (fun ι => nI (updN (updN q (p j) i) (p i) j ι)))]) rfl rfl ?_
  refine j_aload_n (pc := 33) hX dX8_change_33 0 rfl ?_
  refine j_get (pc := 34) hX f_RX8_12 0 rfl rfl dX8_change_34 ?_
  refine j_getR (pc := 37) hX f_RX8_148 1 rfl rfl dX8_change_37 ?_
  refine j_iload_n (pc := 40) hX dX8_change_40 1 rfl ?_
  refine j_callV (pc := 41) hX kX3_next kVX3_next l_RX8_163 (fun l => c_X3_next G ru rn rf (updN (updN p i (p j)) j (p i)) (updN (updN q (p j) i) (p i) j) i (by omega) l) [2, 3, 4] [0, 1] [] rfl 0 3 rfl rfl rfl rfl rfl rfl ⟨rfl, rfl, by decide⟩ rfl rfl (Nat.le_of_ble_eq_true rfl) dX8_change_41 (fun v w hq => ?_)
  obtain ⟨rfl, rfl⟩ := hq
  refine j_ws [0, 1, 2, 3, 4] (ws' := [(x, .inr (8, [.ref nw, .ref tk, .int (bI itk), .ref ch, .ref ah, .ref th, .ref tp, .ref wt, .ref rows])), (nw, .inr (7, [.ref g, .ref ru, .ref se, .ref ev])), (ru, .inr (3, [.ref rn, .ref rf])), (rn, ia G 16 (fun ι => nI ((updN (updN p i (p j)) j (p i)) ι))), (rf, ia G 16 (fun ι => nI ((updN (updN q (p j) i) (p i) j) ι)))]) rfl rfl ?_
  refine j_ia (q0 := 3) (f := fun ι => nI ((updN (updN p i (p j)) j (p i)) ι)) (g := fun ι => nI (updN (updN p i (p j)) j (p i) ι)) rfl (fun z hz => by rfl) (ws' := [(x, .inr (8, [.ref nw, .ref tk, .int (bI itk), .ref ch, .ref ah, .ref th, .ref tp, .ref wt, .ref rows])), (nw, .inr (7, [.ref g, .ref ru, .ref se, .ref ev])), (ru, .inr (3, [.ref rn, .ref rf])), (rn, ia G 16 (fun ι => nI (updN (updN p i (p j)) j (p i) ι))), (rf, ia G 16 (fun ι => nI ((updN (updN q (p j) i) (p i) j) ι)))]) rfl ?_
  refine j_ia (q0 := 4) (f := fun ι => nI ((updN (updN q (p j) i) (p i) j) ι)) (g := fun ι => nI (updN (updN q (p j) i) (p i) j ι)) rfl (fun z hz => by rfl) (ws' := [(x, .inr (8, [.ref nw, .ref tk, .int (bI itk), .ref ch, .ref ah, .ref th, .ref tp, .ref wt, .ref rows])), (nw, .inr (7, [.ref g, .ref ru, .ref se, .ref ev])), (ru, .inr (3, [.ref rn, .ref rf])), (rn, ia G 16 (fun ι => nI (updN (updN p i (p j)) j (p i) ι))), (rf, ia G 16 (fun ι => nI (updN (updN q (p j) i) (p i) j ι)))]) rfl ?_
  exact j_iret (pc := 44) hX hR dX8_change_44 ⟨congrArg some (show Value.int (nI ((updN (updN p i (p j)) j (p i)) i)) = Value.int (nI (updN (updN p i (p j)) j (p i) i)) from by rfl), rfl⟩
set_option maxHeartbeats 4000000 in
set_option maxRecDepth 100000 in
theorem c_X8_change_bad (G : GT) (x : Nat) (nw : Nat) (tk : Nat) (itk : Bool) (ch : Nat) (ah : Nat) (th : Nat) (tp : Nat) (wt : Nat) (rows : Nat) (i j : Int32) (hb : (rngB i 0 15 && (rngB j 0 15 && decide (i ≠ j))) = false) (l : Launch) : CT l G yX8_change cX8_change 3 (some .int) { frames := 3, cells := 0, slots := 0, locals := 67 } [.ref x, .int i, .int j] [(x, .inr (8, [.ref nw, .ref tk, .int (bI itk), .ref ch, .ref ah, .ref th, .ref tp, .ref wt, .ref rows]))] (fun vv ww => vv = some (.int (-1)) ∧ ww = [(x, .inr (8, [.ref nw, .ref tk, .int (bI itk), .ref ch, .ref ah, .ref th, .ref tp, .ref wt, .ref rows]))]) := by
  refine CT.of (lv := [(0, .ref x), (1, .int i), (2, .int j)]) RX8 "change" rfl rfl (by decide +kernel) (Nat.le_of_ble_eq_true rfl) rfl (fun X hX hR => ?_)
  refine j_iload_n (pc := 0) hX dX8_change_0 1 rfl ?_
  refine j_callS (pc := 1) hX kX8_isState kSX8_isState l_RX8_157 (fun l => c_X8_isState G i  l) [] [0] [] rfl rfl rfl rfl ⟨rfl, rfl, by decide⟩ rfl rfl (Nat.le_of_ble_eq_true rfl) dX8_change_1 (fun v w hq => ?_)
  obtain ⟨rfl, rfl⟩ := hq
  refine j_ws [0] (ws' := [(x, .inr (8, [.ref nw, .ref tk, .int (bI itk), .ref ch, .ref ah, .ref th, .ref tp, .ref wt, .ref rows]))]) rfl rfl ?_
  refine j_ifB_eq (pc := 4) (tgt := 19) hX dX8_change_4 (by decide) (fun c4 => ?_) (fun c4 => ?_)
  · skip
    refine j_iconst (pc := 19) (v := (-1)) hX dX8_change_19 (by decide) ?_
    exact j_iret (pc := 20) hX hR dX8_change_20 ⟨rfl, rfl⟩
  · skip
    refine j_iload_n (pc := 7) hX dX8_change_7 2 rfl ?_
    refine j_callS (pc := 8) hX kX8_isState kSX8_isState l_RX8_157 (fun l => c_X8_isState G j  l) [] [0] [] rfl rfl rfl rfl ⟨rfl, rfl, by decide⟩ rfl rfl (Nat.le_of_ble_eq_true rfl) dX8_change_8 (fun v w hq => ?_)
    obtain ⟨rfl, rfl⟩ := hq
    refine j_ws [0] (ws' := [(x, .inr (8, [.ref nw, .ref tk, .int (bI itk), .ref ch, .ref ah, .ref th, .ref tp, .ref wt, .ref rows]))]) rfl rfl ?_
    refine j_ifB_eq (pc := 11) (tgt := 19) hX dX8_change_11 (by decide) (fun c11 => ?_) (fun c11 => ?_)
    · skip
      refine j_iconst (pc := 19) (v := (-1)) hX dX8_change_19 (by decide) ?_
      exact j_iret (pc := 20) hX hR dX8_change_20 ⟨rfl, rfl⟩
    · skip
      refine j_iload_n (pc := 14) hX dX8_change_14 1 rfl ?_
      refine j_iload_n (pc := 15) hX dX8_change_15 2 rfl ?_
      refine j_icmp_ne (pc := 16) (tgt := 21) hX dX8_change_16 (by decide) rfl rfl (fun c16 => by rw [c4, c11, decide_eq_true (show i ≠ j from fun h => c16 (by rw [h]))] at hb; cases hb) (fun c16 => ?_)
      refine j_iconst (pc := 19) (v := (-1)) hX dX8_change_19 (by decide) ?_
      exact j_iret (pc := 20) hX hR dX8_change_20 ⟨rfl, rfl⟩
set_option maxHeartbeats 4000000 in
set_option maxRecDepth 100000 in
theorem c_X8_becomes_f (G : GT) (x : Nat) (nw : Nat) (tk : Nat) (itk : Bool) (ch : Nat) (ah : Nat) (th : Nat) (tp : Nat) (wt : Nat) (rows : Nat) (g : Nat) (ru : Nat) (se : Nat) (ev : Nat) (rn : Nat) (rf : Nat) (p : Nat → Nat) (q : Nat → Nat) (s : Nat) (hs : s < 16) (l : Launch) : CT l G yX8_becomes cX8_becomes 3 (some .int) { frames := 2, cells := 0, slots := 0, locals := 42 } [.ref x, .int (nI s), .int (nI 0)] [(x, .inr (8, [.ref nw, .ref tk, .int (bI itk), .ref ch, .ref ah, .ref th, .ref tp, .ref wt, .ref rows])), (nw, .inr (7, [.ref g, .ref ru, .ref se, .ref ev])), (ru, .inr (3, [.ref rn, .ref rf])), (rn, ia G 16 (fun ι => nI (p ι))), (rf, ia G 16 (fun ι => nI (q ι)))] (fun vv ww => vv = some (.int (nI (p s))) ∧ ww = [(x, .inr (8, [.ref nw, .ref tk, .int (bI itk), .ref ch, .ref ah, .ref th, .ref tp, .ref wt, .ref rows])), (nw, .inr (7, [.ref g, .ref ru, .ref se, .ref ev])), (ru, .inr (3, [.ref rn, .ref rf])), (rn, ia G 16 (fun ι => nI (p ι))), (rf, ia G 16 (fun ι => nI (q ι)))]) := by
  refine CT.of (lv := [(0, .ref x), (1, .int (nI s)), (2, .int (nI 0))]) RX8 "becomes" rfl rfl (by decide +kernel) (Nat.le_of_ble_eq_true rfl) rfl (fun X hX hR => ?_)
  refine j_iload_n (pc := 0) hX dX8_becomes_0 1 rfl ?_
  refine j_callS (pc := 1) hX kX8_isState kSX8_isState l_RX8_157 (fun l => c_X8_isState G (nI s)  l) [] [0, 1, 2, 3, 4] [] rfl rfl rfl rfl ⟨rfl, rfl, by decide⟩ rfl rfl (Nat.le_of_ble_eq_true rfl) dX8_becomes_1 (fun v w hq => ?_)
  obtain ⟨rfl, rfl⟩ := hq
  refine j_ws [0, 1, 2, 3, 4] (ws' := [(x, .inr (8, [.ref nw, .ref tk, .int (bI itk), .ref ch, .ref ah, .ref th, .ref tp, .ref wt, .ref rows])), (nw, .inr (7, [.ref g, .ref ru, .ref se, .ref ev])), (ru, .inr (3, [.ref rn, .ref rf])), (rn, ia G 16 (fun ι => nI (p ι))), (rf, ia G 16 (fun ι => nI (q ι)))]) rfl rfl ?_
  refine j_ifB_ne (pc := 4) (tgt := 9) hX dX8_becomes_4 (by decide) (fun c4 => ?_) (fun c4 => by rw [rng_in hs] at c4; cases c4)
  refine j_iload_n (pc := 9) hX dX8_becomes_9 2 rfl ?_
  refine j_if_eq (pc := 10) (tgt := 27) hX dX8_becomes_10 (by decide) (nI_toInt (n := 0) (by decide)) (fun c10 => ?_) (fun c10 => absurd c10 (by decide))
  refine j_aload_n (pc := 27) hX dX8_becomes_27 0 rfl ?_
  refine j_get (pc := 28) hX f_RX8_12 0 rfl rfl dX8_becomes_28 ?_
  refine j_getR (pc := 31) hX f_RX8_148 1 rfl rfl dX8_becomes_31 ?_
  refine j_iload_n (pc := 34) hX dX8_becomes_34 1 rfl ?_
  refine j_callV (pc := 35) hX kX3_next kVX3_next l_RX8_163 (fun l => c_X3_next G ru rn rf p q s (by omega) l) [2, 3, 4] [0, 1] [] rfl 0 3 rfl rfl rfl rfl rfl rfl ⟨rfl, rfl, by decide⟩ rfl rfl (Nat.le_of_ble_eq_true rfl) dX8_becomes_35 (fun v w hq => ?_)
  obtain ⟨rfl, rfl⟩ := hq
  refine j_ws [0, 1, 2, 3, 4] (ws' := [(x, .inr (8, [.ref nw, .ref tk, .int (bI itk), .ref ch, .ref ah, .ref th, .ref tp, .ref wt, .ref rows])), (nw, .inr (7, [.ref g, .ref ru, .ref se, .ref ev])), (ru, .inr (3, [.ref rn, .ref rf])), (rn, ia G 16 (fun ι => nI (p ι))), (rf, ia G 16 (fun ι => nI (q ι)))]) rfl rfl ?_
  exact j_iret (pc := 38) hX hR dX8_becomes_38 ⟨rfl, rfl⟩
set_option maxHeartbeats 4000000 in
set_option maxRecDepth 100000 in
theorem c_X8_becomes_t (G : GT) (x : Nat) (nw : Nat) (tk : Nat) (itk : Bool) (ch : Nat) (ah : Nat) (th : Nat) (tp : Nat) (wt : Nat) (rows : Nat) (g : Nat) (ru : Nat) (se : Nat) (ev : Nat) (rn : Nat) (rf : Nat) (p : Nat → Nat) (q : Nat → Nat) (s : Nat) (hs : s < 16) (l : Launch) : CT l G yX8_becomes cX8_becomes 3 (some .int) { frames := 2, cells := 0, slots := 0, locals := 42 } [.ref x, .int (nI s), .int (nI 1)] [(x, .inr (8, [.ref nw, .ref tk, .int (bI itk), .ref ch, .ref ah, .ref th, .ref tp, .ref wt, .ref rows])), (nw, .inr (7, [.ref g, .ref ru, .ref se, .ref ev])), (ru, .inr (3, [.ref rn, .ref rf])), (rn, ia G 16 (fun ι => nI (p ι))), (rf, ia G 16 (fun ι => nI (q ι)))] (fun vv ww => vv = some (.int (nI (q s))) ∧ ww = [(x, .inr (8, [.ref nw, .ref tk, .int (bI itk), .ref ch, .ref ah, .ref th, .ref tp, .ref wt, .ref rows])), (nw, .inr (7, [.ref g, .ref ru, .ref se, .ref ev])), (ru, .inr (3, [.ref rn, .ref rf])), (rn, ia G 16 (fun ι => nI (p ι))), (rf, ia G 16 (fun ι => nI (q ι)))]) := by
  refine CT.of (lv := [(0, .ref x), (1, .int (nI s)), (2, .int (nI 1))]) RX8 "becomes" rfl rfl (by decide +kernel) (Nat.le_of_ble_eq_true rfl) rfl (fun X hX hR => ?_)
  refine j_iload_n (pc := 0) hX dX8_becomes_0 1 rfl ?_
  refine j_callS (pc := 1) hX kX8_isState kSX8_isState l_RX8_157 (fun l => c_X8_isState G (nI s)  l) [] [0, 1, 2, 3, 4] [] rfl rfl rfl rfl ⟨rfl, rfl, by decide⟩ rfl rfl (Nat.le_of_ble_eq_true rfl) dX8_becomes_1 (fun v w hq => ?_)
  obtain ⟨rfl, rfl⟩ := hq
  refine j_ws [0, 1, 2, 3, 4] (ws' := [(x, .inr (8, [.ref nw, .ref tk, .int (bI itk), .ref ch, .ref ah, .ref th, .ref tp, .ref wt, .ref rows])), (nw, .inr (7, [.ref g, .ref ru, .ref se, .ref ev])), (ru, .inr (3, [.ref rn, .ref rf])), (rn, ia G 16 (fun ι => nI (p ι))), (rf, ia G 16 (fun ι => nI (q ι)))]) rfl rfl ?_
  refine j_ifB_ne (pc := 4) (tgt := 9) hX dX8_becomes_4 (by decide) (fun c4 => ?_) (fun c4 => by rw [rng_in hs] at c4; cases c4)
  refine j_iload_n (pc := 9) hX dX8_becomes_9 2 rfl ?_
  refine j_if_eq (pc := 10) (tgt := 27) hX dX8_becomes_10 (by decide) (nI_toInt (n := 1) (by decide)) (fun c10 => absurd c10 (by decide)) (fun c10 => ?_)
  refine j_aload_n (pc := 13) hX dX8_becomes_13 0 rfl ?_
  refine j_get (pc := 14) hX f_RX8_12 0 rfl rfl dX8_becomes_14 ?_
  refine j_getR (pc := 17) hX f_RX8_148 1 rfl rfl dX8_becomes_17 ?_
  refine j_iload_n (pc := 20) hX dX8_becomes_20 1 rfl ?_
  refine j_callV (pc := 21) hX kX3_former kVX3_former l_RX8_166 (fun l => c_X3_former G ru rn rf p q s (by omega) l) [2, 3, 4] [0, 1] [] rfl 0 3 rfl rfl rfl rfl rfl rfl ⟨rfl, rfl, by decide⟩ rfl rfl (Nat.le_of_ble_eq_true rfl) dX8_becomes_21 (fun v w hq => ?_)
  obtain ⟨rfl, rfl⟩ := hq
  refine j_ws [0, 1, 2, 3, 4] (ws' := [(x, .inr (8, [.ref nw, .ref tk, .int (bI itk), .ref ch, .ref ah, .ref th, .ref tp, .ref wt, .ref rows])), (nw, .inr (7, [.ref g, .ref ru, .ref se, .ref ev])), (ru, .inr (3, [.ref rn, .ref rf])), (rn, ia G 16 (fun ι => nI (p ι))), (rf, ia G 16 (fun ι => nI (q ι)))]) rfl rfl ?_
  refine j_goto (pc := 24) (tgt := 38) hX dX8_becomes_24 (by decide) ?_
  exact j_iret (pc := 38) hX hR dX8_becomes_38 ⟨rfl, rfl⟩
set_option maxHeartbeats 4000000 in
set_option maxRecDepth 100000 in
theorem c_X8_becomes_bad (G : GT) (x : Nat) (nw : Nat) (tk : Nat) (itk : Bool) (ch : Nat) (ah : Nat) (th : Nat) (tp : Nat) (wt : Nat) (rows : Nat) (s : Int32) (bk : Bool) (hb : rngB s 0 15 = false) (l : Launch) : CT l G yX8_becomes cX8_becomes 3 (some .int) { frames := 2, cells := 0, slots := 0, locals := 42 } [.ref x, .int s, .int (bI bk)] [(x, .inr (8, [.ref nw, .ref tk, .int (bI itk), .ref ch, .ref ah, .ref th, .ref tp, .ref wt, .ref rows]))] (fun vv ww => vv = some (.int (-1)) ∧ ww = [(x, .inr (8, [.ref nw, .ref tk, .int (bI itk), .ref ch, .ref ah, .ref th, .ref tp, .ref wt, .ref rows]))]) := by
  refine CT.of (lv := [(0, .ref x), (1, .int s), (2, .int (bI bk))]) RX8 "becomes" rfl rfl (by decide +kernel) (Nat.le_of_ble_eq_true rfl) rfl (fun X hX hR => ?_)
  refine j_iload_n (pc := 0) hX dX8_becomes_0 1 rfl ?_
  refine j_callS (pc := 1) hX kX8_isState kSX8_isState l_RX8_157 (fun l => c_X8_isState G s  l) [] [0] [] rfl rfl rfl rfl ⟨rfl, rfl, by decide⟩ rfl rfl (Nat.le_of_ble_eq_true rfl) dX8_becomes_1 (fun v w hq => ?_)
  obtain ⟨rfl, rfl⟩ := hq
  refine j_ws [0] (ws' := [(x, .inr (8, [.ref nw, .ref tk, .int (bI itk), .ref ch, .ref ah, .ref th, .ref tp, .ref wt, .ref rows]))]) rfl rfl ?_
  refine j_ifB_ne (pc := 4) (tgt := 9) hX dX8_becomes_4 (by decide) (fun c4 => by rw [hb] at c4; cases c4) (fun c4 => ?_)
  refine j_iconst (pc := 7) (v := (-1)) hX dX8_becomes_7 (by decide) ?_
  exact j_iret (pc := 8) hX hR dX8_becomes_8 ⟨rfl, rfl⟩
set_option maxHeartbeats 4000000 in
set_option maxRecDepth 100000 in
theorem c_X8_steps_bad (G : GT) (x : Nat) (nw : Nat) (tk : Nat) (itk : Bool) (ch : Nat) (ah : Nat) (th : Nat) (tp : Nat) (wt : Nat) (rows : Nat) (n : Int32) (hb : n.toInt < -200 ∨ 200 < n.toInt) (l : Launch) : CT l G yX8_steps cX8_steps 3 (some .int) { frames := 4, cells := 0, slots := 0, locals := 97 } [.ref x, .int n] [(x, .inr (8, [.ref nw, .ref tk, .int (bI itk), .ref ch, .ref ah, .ref th, .ref tp, .ref wt, .ref rows]))] (fun vv ww => vv = some (.int (-2)) ∧ ww = [(x, .inr (8, [.ref nw, .ref tk, .int (bI itk), .ref ch, .ref ah, .ref th, .ref tp, .ref wt, .ref rows]))]) := by
  refine CT.of (lv := [(0, .ref x), (1, .int n)]) RX8 "steps" rfl rfl (by decide +kernel) (Nat.le_of_ble_eq_true rfl) rfl (fun X hX hR => ?_)
  refine j_iload_n (pc := 0) hX dX8_steps_0 1 rfl ?_
  refine j_sipush (pc := 1) (v := (-200)) hX dX8_steps_1 (by decide) ?_
  refine j_icmp_lt (pc := 4) (tgt := 14) hX dX8_steps_4 (by decide) rfl (show ((-200) : Int32).toInt = -200 from by decide) (fun c4 => ?_) (fun c4 => ?_)
  · skip
    refine j_bipush (pc := 14) (v := (-2)) hX dX8_steps_14 (by decide) ?_
    exact j_iret (pc := 16) hX hR dX8_steps_16 ⟨rfl, rfl⟩
  · skip
    refine j_iload_n (pc := 7) hX dX8_steps_7 1 rfl ?_
    refine j_sipush (pc := 8) (v := nI 200) hX dX8_steps_8 (by decide) ?_
    refine j_icmp_le (pc := 11) (tgt := 17) hX dX8_steps_11 (by decide) rfl (nI_toInt (n := 200) (by decide)) (fun c11 => by exfalso; omega) (fun c11 => ?_)
    refine j_bipush (pc := 14) (v := (-2)) hX dX8_steps_14 (by decide) ?_
    exact j_iret (pc := 16) hX hR dX8_steps_16 ⟨rfl, rfl⟩
set_option maxHeartbeats 4000000 in
set_option maxRecDepth 100000 in
theorem c_X8_steps_late (G : GT) (x : Nat) (nw : Nat) (tk : Nat) (itk : Bool) (ch : Nat) (ah : Nat) (th : Nat) (tp : Nat) (wt : Nat) (rows : Nat) (g : Nat) (ru : Nat) (se : Nat) (ev : Nat) (W : Nat) (H : Nat) (t : Int32) (b : Nat) (f : Nat → Int32) (n : Int32) (hn : -200 ≤ n.toInt ∧ n.toInt ≤ 200) (hb : (t + n).toInt < -9999 ∨ 9999 < (t + n).toInt) (l : Launch) : CT l G yX8_steps cX8_steps 3 (some .int) { frames := 4, cells := 0, slots := 0, locals := 97 } [.ref x, .int n] [(x, .inr (8, [.ref nw, .ref tk, .int (bI itk), .ref ch, .ref ah, .ref th, .ref tp, .ref wt, .ref rows])), (nw, .inr (7, [.ref g, .ref ru, .ref se, .ref ev])), (g, .inr (1, [.int (nI W), .int (nI H), .int t, .ref b])), (b, ia G 16 f)] (fun vv ww => vv = some (.int (-3)) ∧ ww = [(x, .inr (8, [.ref nw, .ref tk, .int (bI itk), .ref ch, .ref ah, .ref th, .ref tp, .ref wt, .ref rows])), (nw, .inr (7, [.ref g, .ref ru, .ref se, .ref ev])), (g, .inr (1, [.int (nI W), .int (nI H), .int t, .ref b])), (b, ia G 16 f)]) := by
  refine CT.of (lv := [(0, .ref x), (1, .int n)]) RX8 "steps" rfl rfl (by decide +kernel) (Nat.le_of_ble_eq_true rfl) rfl (fun X hX hR => ?_)
  refine j_iload_n (pc := 0) hX dX8_steps_0 1 rfl ?_
  refine j_sipush (pc := 1) (v := (-200)) hX dX8_steps_1 (by decide) ?_
  refine j_icmp_lt (pc := 4) (tgt := 14) hX dX8_steps_4 (by decide) rfl (show ((-200) : Int32).toInt = -200 from by decide) (fun c4 => by exfalso; omega) (fun c4 => ?_)
  refine j_iload_n (pc := 7) hX dX8_steps_7 1 rfl ?_
  refine j_sipush (pc := 8) (v := nI 200) hX dX8_steps_8 (by decide) ?_
  refine j_icmp_le (pc := 11) (tgt := 17) hX dX8_steps_11 (by decide) rfl (nI_toInt (n := 200) (by decide)) (fun c11 => ?_) (fun c11 => by exfalso; omega)
  refine j_aload_n (pc := 17) hX dX8_steps_17 0 rfl ?_
  refine j_get (pc := 18) hX f_RX8_12 0 rfl rfl dX8_steps_18 ?_
  refine j_getR (pc := 21) hX f_RX8_69 1 rfl rfl dX8_steps_21 ?_
  refine j_get (pc := 24) hX f_RX8_86 2 rfl rfl dX8_steps_24 ?_
  refine j_iload_n (pc := 27) hX dX8_steps_27 1 rfl ?_
  refine j_iadd (pc := 28) hX dX8_steps_28 ?_
  refine j_istore_n (pc := 29) (lv' := [(2, .int (t + n)), (0, .ref x), (1, .int n)]) hX dX8_steps_29 (by decide) rfl ?_
  refine j_iload_n (pc := 30) hX dX8_steps_30 0 rfl ?_
  refine j_sipush (pc := 31) (v := (-9999)) hX dX8_steps_31 (by decide) ?_
  refine j_icmp_lt (pc := 34) (tgt := 44) hX dX8_steps_34 (by decide) rfl (show ((-9999) : Int32).toInt = -9999 from by decide) (fun c34 => ?_) (fun c34 => ?_)
  · skip
    refine j_bipush (pc := 44) (v := (-3)) hX dX8_steps_44 (by decide) ?_
    exact j_iret (pc := 46) hX hR dX8_steps_46 ⟨rfl, rfl⟩
  · skip
    refine j_iload_n (pc := 37) hX dX8_steps_37 0 rfl ?_
    refine j_sipush (pc := 38) (v := nI 9999) hX dX8_steps_38 (by decide) ?_
    refine j_icmp_le (pc := 41) (tgt := 47) hX dX8_steps_41 (by decide) rfl (nI_toInt (n := 9999) (by decide)) (fun c41 => by exfalso; omega) (fun c41 => ?_)
    refine j_bipush (pc := 44) (v := (-3)) hX dX8_steps_44 (by decide) ?_
    exact j_iret (pc := 46) hX hR dX8_steps_46 ⟨rfl, rfl⟩
set_option maxHeartbeats 4000000 in
set_option maxRecDepth 100000 in
theorem c_X8_steps_ok (G : GT) (x : Nat) (nw : Nat) (tk : Nat) (itk : Bool) (ch : Nat) (ah : Nat) (th : Nat) (tp : Nat) (wt : Nat) (rows : Nat) (g : Nat) (ru : Nat) (se : Nat) (ev : Nat) (W : Nat) (H : Nat) (t : Int32) (b : Nat) (f : Nat → Int32) (rn : Nat) (rf : Nat) (p : Nat → Nat) (q : Nat → Nat) (n : Int32) (hW1 : 2 ≤ W) (hW2 : W ≤ 16) (hH1 : 2 ≤ H) (hH2 : H ≤ 16) (hW3 : W % 2 = 0) (hH3 : H % 2 = 0) (hn : -200 ≤ n.toInt ∧ n.toInt ≤ 200) (hb : -9999 ≤ (t + n).toInt ∧ (t + n).toInt ≤ 9999) (l : Launch) : CT l G yX8_steps cX8_steps 3 (some .int) { frames := 4, cells := 0, slots := 0, locals := 97 } [.ref x, .int n] [(x, .inr (8, [.ref nw, .ref tk, .int (bI itk), .ref ch, .ref ah, .ref th, .ref tp, .ref wt, .ref rows])), (nw, .inr (7, [.ref g, .ref ru, .ref se, .ref ev])), (g, .inr (1, [.int (nI W), .int (nI H), .int t, .ref b])), (b, ia G 16 f), (ru, .inr (3, [.ref rn, .ref rf])), (rn, ia G 16 (fun ι => nI (p ι))), (rf, ia G 16 (fun ι => nI (q ι)))] (fun vv ww => vv = some (.int (t + n + nI 10000)) ∧ ww = [(x, .inr (8, [.ref nw, .ref tk, .int (bI itk), .ref ch, .ref ah, .ref th, .ref tp, .ref wt, .ref rows])), (nw, .inr (7, [.ref g, .ref ru, .ref se, .ref ev])), (g, .inr (1, [.int (nI W), .int (nI H), .int (t + n), .ref b])), (b, ia G 16 (goF W H p q t n f)), (ru, .inr (3, [.ref rn, .ref rf])), (rn, ia G 16 (fun ι => nI (p ι))), (rf, ia G 16 (fun ι => nI (q ι)))]) := by
  refine CT.of (lv := [(0, .ref x), (1, .int n)]) RX8 "steps" rfl rfl (by decide +kernel) (Nat.le_of_ble_eq_true rfl) rfl (fun X hX hR => ?_)
  refine j_iload_n (pc := 0) hX dX8_steps_0 1 rfl ?_
  refine j_sipush (pc := 1) (v := (-200)) hX dX8_steps_1 (by decide) ?_
  refine j_icmp_lt (pc := 4) (tgt := 14) hX dX8_steps_4 (by decide) rfl (show ((-200) : Int32).toInt = -200 from by decide) (fun c4 => by exfalso; omega) (fun c4 => ?_)
  refine j_iload_n (pc := 7) hX dX8_steps_7 1 rfl ?_
  refine j_sipush (pc := 8) (v := nI 200) hX dX8_steps_8 (by decide) ?_
  refine j_icmp_le (pc := 11) (tgt := 17) hX dX8_steps_11 (by decide) rfl (nI_toInt (n := 200) (by decide)) (fun c11 => ?_) (fun c11 => by exfalso; omega)
  refine j_aload_n (pc := 17) hX dX8_steps_17 0 rfl ?_
  refine j_get (pc := 18) hX f_RX8_12 0 rfl rfl dX8_steps_18 ?_
  refine j_getR (pc := 21) hX f_RX8_69 1 rfl rfl dX8_steps_21 ?_
  refine j_get (pc := 24) hX f_RX8_86 2 rfl rfl dX8_steps_24 ?_
  refine j_iload_n (pc := 27) hX dX8_steps_27 1 rfl ?_
  refine j_iadd (pc := 28) hX dX8_steps_28 ?_
  refine j_istore_n (pc := 29) (lv' := [(2, .int (t + n)), (0, .ref x), (1, .int n)]) hX dX8_steps_29 (by decide) rfl ?_
  refine j_iload_n (pc := 30) hX dX8_steps_30 0 rfl ?_
  refine j_sipush (pc := 31) (v := (-9999)) hX dX8_steps_31 (by decide) ?_
  refine j_icmp_lt (pc := 34) (tgt := 44) hX dX8_steps_34 (by decide) rfl (show ((-9999) : Int32).toInt = -9999 from by decide) (fun c34 => by exfalso; omega) (fun c34 => ?_)
  refine j_iload_n (pc := 37) hX dX8_steps_37 0 rfl ?_
  refine j_sipush (pc := 38) (v := nI 9999) hX dX8_steps_38 (by decide) ?_
  refine j_icmp_le (pc := 41) (tgt := 47) hX dX8_steps_41 (by decide) rfl (nI_toInt (n := 9999) (by decide)) (fun c41 => ?_) (fun c41 => by exfalso; omega)
  refine j_aload_n (pc := 47) hX dX8_steps_47 1 rfl ?_
  refine j_get (pc := 48) hX f_RX8_12 0 rfl rfl dX8_steps_48 ?_
  refine j_getR (pc := 51) hX f_RX8_69 1 rfl rfl dX8_steps_51 ?_
  refine j_iload_n (pc := 54) hX dX8_steps_54 2 rfl ?_
  refine j_aload_n (pc := 55) hX dX8_steps_55 1 rfl ?_
  refine j_get (pc := 56) hX f_RX8_12 0 rfl rfl dX8_steps_56 ?_
  refine j_getR (pc := 59) hX f_RX8_148 1 rfl rfl dX8_steps_59 ?_
  refine j_callV (pc := 62) hX kX1_go kVX1_go l_RX8_169 (fun l => c_X1_go G g W H t b f n ru rn rf p q (by omega) (by omega) (by omega) (by omega) (by omega) (by omega) (by first | omega | (rw [nI_toInt (by omega)]; omega)) l) [2, 3, 4, 5, 6] [0, 1] [] rfl 0 1 rfl rfl rfl rfl rfl rfl ⟨rfl, rfl, by decide⟩ rfl rfl (Nat.le_of_ble_eq_true rfl) dX8_steps_62 (fun v w hq => ?_)
  obtain ⟨rfl, rfl⟩ := hq
  refine j_ws [0, 1, 2, 3, 4, 5, 6] (ws' := [(x, .inr (8, [.ref nw, .ref tk, .int (bI itk), .ref ch, .ref ah, .ref th, .ref tp, .ref wt, .ref rows])), (nw, .inr (7, [.ref g, .ref ru, .ref se, .ref ev])), (g, .inr (1, [.int (nI W), .int (nI H), .int (t + n), .ref b])), (b, ia G 16 (goF W H p q t n f)), (ru, .inr (3, [.ref rn, .ref rf])), (rn, ia G 16 (fun ι => nI (p ι))), (rf, ia G 16 (fun ι => nI (q ι)))]) rfl rfl ?_
  refine j_iload_n (pc := 65) hX dX8_steps_65 0 rfl ?_
  refine j_sipush (pc := 66) (v := nI 10000) hX dX8_steps_66 (by decide) ?_
  refine j_iadd (pc := 69) hX dX8_steps_69 ?_
  exact j_iret (pc := 70) hX hR dX8_steps_70 ⟨congrArg some (show Value.int ((t + n) + (nI 10000)) = Value.int (t + n + nI 10000) from rfl), rfl⟩
set_option maxHeartbeats 4000000 in
set_option maxRecDepth 100000 in
theorem c_X8_block_ok (G : GT) (x : Nat) (nw : Nat) (tk : Nat) (itk : Bool) (ch : Nat) (ah : Nat) (th : Nat) (tp : Nat) (wt : Nat) (rows : Nat) (g : Nat) (ru : Nat) (se : Nat) (ev : Nat) (W : Nat) (H : Nat) (t : Int32) (b : Nat) (f : Nat → Int32) (xx yy : Nat) (hW1 : 2 ≤ W) (hW2 : W ≤ 16) (hH1 : 2 ≤ H) (hH2 : H ≤ 16) (hX1 : xx < W) (hY1 : yy < H) (l : Launch) : CT l G yX8_block cX8_block 3 (some .int) { frames := 3, cells := 0, slots := 0, locals := 71 } [.ref x, .int (nI xx), .int (nI yy)] [(x, .inr (8, [.ref nw, .ref tk, .int (bI itk), .ref ch, .ref ah, .ref th, .ref tp, .ref wt, .ref rows])), (nw, .inr (7, [.ref g, .ref ru, .ref se, .ref ev])), (g, .inr (1, [.int (nI W), .int (nI H), .int t, .ref b])), (b, ia G 16 f)] (fun vv ww => vv = some (.int (nI (stA W H f (lfA xx (ph t) W) (lfA yy (ph t) H)))) ∧ ww = [(x, .inr (8, [.ref nw, .ref tk, .int (bI itk), .ref ch, .ref ah, .ref th, .ref tp, .ref wt, .ref rows])), (nw, .inr (7, [.ref g, .ref ru, .ref se, .ref ev])), (g, .inr (1, [.int (nI W), .int (nI H), .int t, .ref b])), (b, ia G 16 f)]) := by
  refine CT.of (lv := [(0, .ref x), (1, .int (nI xx)), (2, .int (nI yy))]) RX8 "block" rfl rfl (by decide +kernel) (Nat.le_of_ble_eq_true rfl) rfl (fun X hX hR => ?_)
  refine j_aload_n (pc := 0) hX dX8_block_0 0 rfl ?_
  refine j_get (pc := 1) hX f_RX8_12 0 rfl rfl dX8_block_1 ?_
  refine j_getR (pc := 4) hX f_RX8_69 1 rfl rfl dX8_block_4 ?_
  refine j_iload_n (pc := 7) hX dX8_block_7 1 rfl ?_
  refine j_iload_n (pc := 8) hX dX8_block_8 2 rfl ?_
  refine j_callV (pc := 9) hX kX1_has kVX1_has l_RX8_92 (fun l => c_X1_has G g W H t b f (nI xx) (nI yy) (by omega) (by omega) (by omega) (by omega) l) [2, 3] [0, 1] [] rfl 0 1 rfl rfl rfl rfl rfl rfl ⟨rfl, rfl, by decide⟩ rfl rfl (Nat.le_of_ble_eq_true rfl) dX8_block_9 (fun v w hq => ?_)
  obtain ⟨rfl, rfl⟩ := hq
  refine j_ws [0, 1, 2, 3] (ws' := [(x, .inr (8, [.ref nw, .ref tk, .int (bI itk), .ref ch, .ref ah, .ref th, .ref tp, .ref wt, .ref rows])), (nw, .inr (7, [.ref g, .ref ru, .ref se, .ref ev])), (g, .inr (1, [.int (nI W), .int (nI H), .int t, .ref b])), (b, ia G 16 f)]) rfl rfl ?_
  refine j_ifB_ne (pc := 12) (tgt := 17) hX dX8_block_12 (by decide) (fun c12 => ?_) (fun c12 => by rw [inG_in (by omega) (by omega) (by omega) (by omega)] at c12; cases c12)
  refine j_aload_n (pc := 17) hX dX8_block_17 0 rfl ?_
  refine j_get (pc := 18) hX f_RX8_12 0 rfl rfl dX8_block_18 ?_
  refine j_getR (pc := 21) hX f_RX8_69 1 rfl rfl dX8_block_21 ?_
  refine j_iload_n (pc := 24) hX dX8_block_24 1 rfl ?_
  refine j_iload_n (pc := 25) hX dX8_block_25 2 rfl ?_
  refine j_callV (pc := 26) hX kX1_stateAround kVX1_stateAround l_RX8_173 (fun l => c_X1_stateAround G g W H t b f xx yy (by omega) (by omega) (by omega) (by omega) (by omega) (by omega) l) [2, 3] [0, 1] [] rfl 0 1 rfl rfl rfl rfl rfl rfl ⟨rfl, rfl, by decide⟩ rfl rfl (Nat.le_of_ble_eq_true rfl) dX8_block_26 (fun v w hq => ?_)
  obtain ⟨rfl, rfl⟩ := hq
  refine j_ws [0, 1, 2, 3] (ws' := [(x, .inr (8, [.ref nw, .ref tk, .int (bI itk), .ref ch, .ref ah, .ref th, .ref tp, .ref wt, .ref rows])), (nw, .inr (7, [.ref g, .ref ru, .ref se, .ref ev])), (g, .inr (1, [.int (nI W), .int (nI H), .int t, .ref b])), (b, ia G 16 f)]) rfl rfl ?_
  exact j_iret (pc := 29) hX hR dX8_block_29 ⟨rfl, rfl⟩
set_option maxHeartbeats 4000000 in
set_option maxRecDepth 100000 in
theorem c_X8_block_bad (G : GT) (x : Nat) (nw : Nat) (tk : Nat) (itk : Bool) (ch : Nat) (ah : Nat) (th : Nat) (tp : Nat) (wt : Nat) (rows : Nat) (g : Nat) (ru : Nat) (se : Nat) (ev : Nat) (W : Nat) (H : Nat) (t : Int32) (b : Nat) (f : Nat → Int32) (x_ y_ : Int32) (hW1 : 2 ≤ W) (hW2 : W ≤ 16) (hH1 : 2 ≤ H) (hH2 : H ≤ 16) (hb : inG W H x_ y_ = false) (l : Launch) : CT l G yX8_block cX8_block 3 (some .int) { frames := 3, cells := 0, slots := 0, locals := 71 } [.ref x, .int x_, .int y_] [(x, .inr (8, [.ref nw, .ref tk, .int (bI itk), .ref ch, .ref ah, .ref th, .ref tp, .ref wt, .ref rows])), (nw, .inr (7, [.ref g, .ref ru, .ref se, .ref ev])), (g, .inr (1, [.int (nI W), .int (nI H), .int t, .ref b])), (b, ia G 16 f)] (fun vv ww => vv = some (.int (-1)) ∧ ww = [(x, .inr (8, [.ref nw, .ref tk, .int (bI itk), .ref ch, .ref ah, .ref th, .ref tp, .ref wt, .ref rows])), (nw, .inr (7, [.ref g, .ref ru, .ref se, .ref ev])), (g, .inr (1, [.int (nI W), .int (nI H), .int t, .ref b])), (b, ia G 16 f)]) := by
  refine CT.of (lv := [(0, .ref x), (1, .int x_), (2, .int y_)]) RX8 "block" rfl rfl (by decide +kernel) (Nat.le_of_ble_eq_true rfl) rfl (fun X hX hR => ?_)
  refine j_aload_n (pc := 0) hX dX8_block_0 0 rfl ?_
  refine j_get (pc := 1) hX f_RX8_12 0 rfl rfl dX8_block_1 ?_
  refine j_getR (pc := 4) hX f_RX8_69 1 rfl rfl dX8_block_4 ?_
  refine j_iload_n (pc := 7) hX dX8_block_7 1 rfl ?_
  refine j_iload_n (pc := 8) hX dX8_block_8 2 rfl ?_
  refine j_callV (pc := 9) hX kX1_has kVX1_has l_RX8_92 (fun l => c_X1_has G g W H t b f x_ y_ (by omega) (by omega) (by omega) (by omega) l) [2, 3] [0, 1] [] rfl 0 1 rfl rfl rfl rfl rfl rfl ⟨rfl, rfl, by decide⟩ rfl rfl (Nat.le_of_ble_eq_true rfl) dX8_block_9 (fun v w hq => ?_)
  obtain ⟨rfl, rfl⟩ := hq
  refine j_ws [0, 1, 2, 3] (ws' := [(x, .inr (8, [.ref nw, .ref tk, .int (bI itk), .ref ch, .ref ah, .ref th, .ref tp, .ref wt, .ref rows])), (nw, .inr (7, [.ref g, .ref ru, .ref se, .ref ev])), (g, .inr (1, [.int (nI W), .int (nI H), .int t, .ref b])), (b, ia G 16 f)]) rfl rfl ?_
  refine j_ifB_ne (pc := 12) (tgt := 17) hX dX8_block_12 (by decide) (fun c12 => by rw [hb] at c12; cases c12) (fun c12 => ?_)
  refine j_iconst (pc := 15) (v := (-1)) hX dX8_block_15 (by decide) ?_
  exact j_iret (pc := 16) hX hR dX8_block_16 ⟨rfl, rfl⟩
set_option maxHeartbeats 4000000 in
set_option maxRecDepth 100000 in
theorem c_X8_then_bad (G : GT) (x : Nat) (nw : Nat) (tk : Nat) (itk : Bool) (ch : Nat) (ah : Nat) (th : Nat) (tp : Nat) (wt : Nat) (rows : Nat) (g : Nat) (ru : Nat) (se : Nat) (ev : Nat) (W : Nat) (H : Nat) (t : Int32) (b : Nat) (f : Nat → Int32) (x_ y_ n : Int32) (hW1 : 2 ≤ W) (hW2 : W ≤ 16) (hH1 : 2 ≤ H) (hH2 : H ≤ 16) (hb : inG W H x_ y_ = false) (l : Launch) : CT l G yX8_then cX8_then 4 (some .int) { frames := 5, cells := 0, slots := 0, locals := 121 } [.ref x, .int x_, .int y_, .int n] [(x, .inr (8, [.ref nw, .ref tk, .int (bI itk), .ref ch, .ref ah, .ref th, .ref tp, .ref wt, .ref rows])), (nw, .inr (7, [.ref g, .ref ru, .ref se, .ref ev])), (g, .inr (1, [.int (nI W), .int (nI H), .int t, .ref b])), (b, ia G 16 f)] (fun vv ww => vv = some (.int (-1)) ∧ ww = [(x, .inr (8, [.ref nw, .ref tk, .int (bI itk), .ref ch, .ref ah, .ref th, .ref tp, .ref wt, .ref rows])), (nw, .inr (7, [.ref g, .ref ru, .ref se, .ref ev])), (g, .inr (1, [.int (nI W), .int (nI H), .int t, .ref b])), (b, ia G 16 f)]) := by
  refine CT.of (lv := [(0, .ref x), (1, .int x_), (2, .int y_), (3, .int n)]) RX8 "then" rfl rfl (by decide +kernel) (Nat.le_of_ble_eq_true rfl) rfl (fun X hX hR => ?_)
  refine j_aload_n (pc := 0) hX dX8_then_0 0 rfl ?_
  refine j_get (pc := 1) hX f_RX8_12 0 rfl rfl dX8_then_1 ?_
  refine j_getR (pc := 4) hX f_RX8_69 1 rfl rfl dX8_then_4 ?_
  refine j_iload_n (pc := 7) hX dX8_then_7 1 rfl ?_
  refine j_iload_n (pc := 8) hX dX8_then_8 2 rfl ?_
  refine j_callV (pc := 9) hX kX1_has kVX1_has l_RX8_92 (fun l => c_X1_has G g W H t b f x_ y_ (by omega) (by omega) (by omega) (by omega) l) [2, 3] [0, 1] [] rfl 0 1 rfl rfl rfl rfl rfl rfl ⟨rfl, rfl, by decide⟩ rfl rfl (Nat.le_of_ble_eq_true rfl) dX8_then_9 (fun v w hq => ?_)
  obtain ⟨rfl, rfl⟩ := hq
  refine j_ws [0, 1, 2, 3] (ws' := [(x, .inr (8, [.ref nw, .ref tk, .int (bI itk), .ref ch, .ref ah, .ref th, .ref tp, .ref wt, .ref rows])), (nw, .inr (7, [.ref g, .ref ru, .ref se, .ref ev])), (g, .inr (1, [.int (nI W), .int (nI H), .int t, .ref b])), (b, ia G 16 f)]) rfl rfl ?_
  refine j_ifB_ne (pc := 12) (tgt := 17) hX dX8_then_12 (by decide) (fun c12 => by rw [hb] at c12; cases c12) (fun c12 => ?_)
  refine j_iconst (pc := 15) (v := (-1)) hX dX8_then_15 (by decide) ?_
  exact j_iret (pc := 16) hX hR dX8_then_16 ⟨rfl, rfl⟩
set_option maxHeartbeats 4000000 in
set_option maxRecDepth 100000 in
theorem c_X8_then_far (G : GT) (x : Nat) (nw : Nat) (tk : Nat) (itk : Bool) (ch : Nat) (ah : Nat) (th : Nat) (tp : Nat) (wt : Nat) (rows : Nat) (g : Nat) (ru : Nat) (se : Nat) (ev : Nat) (W : Nat) (H : Nat) (t : Int32) (b : Nat) (f : Nat → Int32) (xx yy : Nat) (n : Int32) (hW1 : 2 ≤ W) (hW2 : W ≤ 16) (hH1 : 2 ≤ H) (hH2 : H ≤ 16) (hX1 : xx < W) (hY1 : yy < H) (hn : n.toInt < -60 ∨ 60 < n.toInt) (l : Launch) : CT l G yX8_then cX8_then 4 (some .int) { frames := 5, cells := 0, slots := 0, locals := 121 } [.ref x, .int (nI xx), .int (nI yy), .int n] [(x, .inr (8, [.ref nw, .ref tk, .int (bI itk), .ref ch, .ref ah, .ref th, .ref tp, .ref wt, .ref rows])), (nw, .inr (7, [.ref g, .ref ru, .ref se, .ref ev])), (g, .inr (1, [.int (nI W), .int (nI H), .int t, .ref b])), (b, ia G 16 f)] (fun vv ww => vv = some (.int (-2)) ∧ ww = [(x, .inr (8, [.ref nw, .ref tk, .int (bI itk), .ref ch, .ref ah, .ref th, .ref tp, .ref wt, .ref rows])), (nw, .inr (7, [.ref g, .ref ru, .ref se, .ref ev])), (g, .inr (1, [.int (nI W), .int (nI H), .int t, .ref b])), (b, ia G 16 f)]) := by
  refine CT.of (lv := [(0, .ref x), (1, .int (nI xx)), (2, .int (nI yy)), (3, .int n)]) RX8 "then" rfl rfl (by decide +kernel) (Nat.le_of_ble_eq_true rfl) rfl (fun X hX hR => ?_)
  refine j_aload_n (pc := 0) hX dX8_then_0 0 rfl ?_
  refine j_get (pc := 1) hX f_RX8_12 0 rfl rfl dX8_then_1 ?_
  refine j_getR (pc := 4) hX f_RX8_69 1 rfl rfl dX8_then_4 ?_
  refine j_iload_n (pc := 7) hX dX8_then_7 1 rfl ?_
  refine j_iload_n (pc := 8) hX dX8_then_8 2 rfl ?_
  refine j_callV (pc := 9) hX kX1_has kVX1_has l_RX8_92 (fun l => c_X1_has G g W H t b f (nI xx) (nI yy) (by omega) (by omega) (by omega) (by omega) l) [2, 3] [0, 1] [] rfl 0 1 rfl rfl rfl rfl rfl rfl ⟨rfl, rfl, by decide⟩ rfl rfl (Nat.le_of_ble_eq_true rfl) dX8_then_9 (fun v w hq => ?_)
  obtain ⟨rfl, rfl⟩ := hq
  refine j_ws [0, 1, 2, 3] (ws' := [(x, .inr (8, [.ref nw, .ref tk, .int (bI itk), .ref ch, .ref ah, .ref th, .ref tp, .ref wt, .ref rows])), (nw, .inr (7, [.ref g, .ref ru, .ref se, .ref ev])), (g, .inr (1, [.int (nI W), .int (nI H), .int t, .ref b])), (b, ia G 16 f)]) rfl rfl ?_
  refine j_ifB_ne (pc := 12) (tgt := 17) hX dX8_then_12 (by decide) (fun c12 => ?_) (fun c12 => by rw [inG_in (by omega) (by omega) (by omega) (by omega)] at c12; cases c12)
  refine j_iload_n (pc := 17) hX dX8_then_17 3 rfl ?_
  refine j_bipush (pc := 18) (v := (-60)) hX dX8_then_18 (by decide) ?_
  refine j_icmp_lt (pc := 20) (tgt := 29) hX dX8_then_20 (by decide) rfl (show ((-60) : Int32).toInt = -60 from by decide) (fun c20 => ?_) (fun c20 => ?_)
  · skip
    refine j_bipush (pc := 29) (v := (-2)) hX dX8_then_29 (by decide) ?_
    exact j_iret (pc := 31) hX hR dX8_then_31 ⟨rfl, rfl⟩
  · skip
    refine j_iload_n (pc := 23) hX dX8_then_23 3 rfl ?_
    refine j_bipush (pc := 24) (v := nI 60) hX dX8_then_24 (by decide) ?_
    refine j_icmp_le (pc := 26) (tgt := 32) hX dX8_then_26 (by decide) rfl (nI_toInt (n := 60) (by decide)) (fun c26 => by exfalso; omega) (fun c26 => ?_)
    refine j_bipush (pc := 29) (v := (-2)) hX dX8_then_29 (by decide) ?_
    exact j_iret (pc := 31) hX hR dX8_then_31 ⟨rfl, rfl⟩
set_option maxHeartbeats 4000000 in
set_option maxRecDepth 100000 in
theorem c_X8_then_ok (G : GT) (x : Nat) (nw : Nat) (tk : Nat) (itk : Bool) (ch : Nat) (ah : Nat) (th : Nat) (tp : Nat) (wt : Nat) (rows : Nat) (g : Nat) (ru : Nat) (se : Nat) (ev : Nat) (W : Nat) (H : Nat) (t : Int32) (b : Nat) (f : Nat → Int32) (rn : Nat) (rf : Nat) (p : Nat → Nat) (q : Nat → Nat) (ms : Int32) (mc : Int32) (mr : Int32) (ag : Nat) (ar : Nat) (ur : Nat) (un : Int32) (aW : Nat) (aH : Nat) (at_ : Int32) (ab : Nat) (af : Nat → Int32) (xx yy : Nat) (n : Int32) (hW1 : 2 ≤ W) (hW2 : W ≤ 16) (hH1 : 2 ≤ H) (hH2 : H ≤ 16) (hW3 : W % 2 = 0) (hH3 : H % 2 = 0) (hX1 : xx < W) (hY1 : yy < H) (hn : -60 ≤ n.toInt ∧ n.toInt ≤ 60) (l : Launch) : CT l G yX8_then cX8_then 4 (some .int) { frames := 5, cells := 0, slots := 0, locals := 121 } [.ref x, .int (nI xx), .int (nI yy), .int n] [(x, .inr (8, [.ref nw, .ref tk, .int (bI itk), .ref ch, .ref ah, .ref th, .ref tp, .ref wt, .ref rows])), (nw, .inr (7, [.ref g, .ref ru, .ref se, .ref ev])), (g, .inr (1, [.int (nI W), .int (nI H), .int t, .ref b])), (b, ia G 16 f), (ru, .inr (3, [.ref rn, .ref rf])), (rn, ia G 16 (fun ι => nI (p ι))), (rf, ia G 16 (fun ι => nI (q ι))), (ah, .inr (0, [.int ms, .int mc, .int mr, .ref ag, .ref ar, .ref ur, .int un])), (ag, .inr (1, [.int (nI aW), .int (nI aH), .int at_, .ref ab])), (ab, ia G 16 af)] (fun vv ww => ∃ (aW2 aH2 : Nat) (at2 : Int32) (af2 : Nat → Int32), vv = some (.int (bI (bt (goF W H p q t n f yy) xx))) ∧ ww = [(x, .inr (8, [.ref nw, .ref tk, .int (bI itk), .ref ch, .ref ah, .ref th, .ref tp, .ref wt, .ref rows])), (nw, .inr (7, [.ref g, .ref ru, .ref se, .ref ev])), (g, .inr (1, [.int (nI W), .int (nI H), .int t, .ref b])), (b, ia G 16 f), (ru, .inr (3, [.ref rn, .ref rf])), (rn, ia G 16 (fun ι => nI (p ι))), (rf, ia G 16 (fun ι => nI (q ι))), (ah, .inr (0, [.int ms, .int mc, .int mr, .ref ag, .ref ar, .ref ur, .int un])), (ag, .inr (1, [.int (nI aW2), .int (nI aH2), .int at2, .ref ab])), (ab, ia G 16 af2)]) := by
  refine CT.of (lv := [(0, .ref x), (1, .int (nI xx)), (2, .int (nI yy)), (3, .int n)]) RX8 "then" rfl rfl (by decide +kernel) (Nat.le_of_ble_eq_true rfl) rfl (fun X hX hR => ?_)
  refine j_aload_n (pc := 0) hX dX8_then_0 0 rfl ?_
  refine j_get (pc := 1) hX f_RX8_12 0 rfl rfl dX8_then_1 ?_
  refine j_getR (pc := 4) hX f_RX8_69 1 rfl rfl dX8_then_4 ?_
  refine j_iload_n (pc := 7) hX dX8_then_7 1 rfl ?_
  refine j_iload_n (pc := 8) hX dX8_then_8 2 rfl ?_
  refine j_callV (pc := 9) hX kX1_has kVX1_has l_RX8_92 (fun l => c_X1_has G g W H t b f (nI xx) (nI yy) (by omega) (by omega) (by omega) (by omega) l) [2, 3] [0, 1, 4, 5, 6, 7, 8, 9] [] rfl 0 1 rfl rfl rfl rfl rfl rfl ⟨rfl, rfl, by decide⟩ rfl rfl (Nat.le_of_ble_eq_true rfl) dX8_then_9 (fun v w hq => ?_)
  obtain ⟨rfl, rfl⟩ := hq
  refine j_ws [0, 1, 8, 9, 2, 3, 4, 5, 6, 7] (ws' := [(x, .inr (8, [.ref nw, .ref tk, .int (bI itk), .ref ch, .ref ah, .ref th, .ref tp, .ref wt, .ref rows])), (nw, .inr (7, [.ref g, .ref ru, .ref se, .ref ev])), (g, .inr (1, [.int (nI W), .int (nI H), .int t, .ref b])), (b, ia G 16 f), (ru, .inr (3, [.ref rn, .ref rf])), (rn, ia G 16 (fun ι => nI (p ι))), (rf, ia G 16 (fun ι => nI (q ι))), (ah, .inr (0, [.int ms, .int mc, .int mr, .ref ag, .ref ar, .ref ur, .int un])), (ag, .inr (1, [.int (nI aW), .int (nI aH), .int at_, .ref ab])), (ab, ia G 16 af)]) rfl rfl ?_
  refine j_ifB_ne (pc := 12) (tgt := 17) hX dX8_then_12 (by decide) (fun c12 => ?_) (fun c12 => by rw [inG_in (by omega) (by omega) (by omega) (by omega)] at c12; cases c12)
  refine j_iload_n (pc := 17) hX dX8_then_17 3 rfl ?_
  refine j_bipush (pc := 18) (v := (-60)) hX dX8_then_18 (by decide) ?_
  refine j_icmp_lt (pc := 20) (tgt := 29) hX dX8_then_20 (by decide) rfl (show ((-60) : Int32).toInt = -60 from by decide) (fun c20 => by exfalso; omega) (fun c20 => ?_)
  refine j_iload_n (pc := 23) hX dX8_then_23 3 rfl ?_
  refine j_bipush (pc := 24) (v := nI 60) hX dX8_then_24 (by decide) ?_
  refine j_icmp_le (pc := 26) (tgt := 32) hX dX8_then_26 (by decide) rfl (nI_toInt (n := 60) (by decide)) (fun c26 => ?_) (fun c26 => by exfalso; omega)
  refine j_aload_n (pc := 32) hX dX8_then_32 0 rfl ?_
  refine j_get (pc := 33) hX f_RX8_37 0 rfl rfl dX8_then_33 ?_
  refine j_aload_n (pc := 36) hX dX8_then_36 0 rfl ?_
  refine j_get (pc := 37) hX f_RX8_12 0 rfl rfl dX8_then_37 ?_
  refine j_getR (pc := 40) hX f_RX8_69 1 rfl rfl dX8_then_40 ?_
  refine j_aload_n (pc := 43) hX dX8_then_43 0 rfl ?_
  refine j_get (pc := 44) hX f_RX8_12 0 rfl rfl dX8_then_44 ?_
  refine j_getR (pc := 47) hX f_RX8_148 1 rfl rfl dX8_then_47 ?_
  refine j_bipush (pc := 50) (v := nI 100) hX dX8_then_50 (by decide) ?_
  refine j_iload_n (pc := 52) hX dX8_then_52 1 rfl ?_
  refine j_imul (pc := 53) hX dX8_then_53 ?_
  refine j_topi (y := nI (100 * xx)) (pk_mul _ _) ?_
  refine j_iload_n (pc := 54) hX dX8_then_54 2 rfl ?_
  refine j_iadd (pc := 55) hX dX8_then_55 ?_
  refine j_topi (y := nI (100 * xx + yy)) (nI_add _ _) ?_
  refine j_iload_n (pc := 56) hX dX8_then_56 3 rfl ?_
  refine j_callV (pc := 57) hX kX0_cellThen kVX0_cellThen l_RX8_176 (fun l => c_X0_cellThen G ah ms mc mr ag ar ur un aW aH at_ ab af g W H t b f ru rn rf p q (100 * xx + yy) n (by omega) (by omega) (by omega) (by omega) (by omega) (by omega) (by omega) (by omega) (by omega) l) [7, 8, 9, 2, 3, 4, 5, 6] [0, 1] [] rfl 0 0 rfl rfl rfl rfl rfl rfl ⟨rfl, rfl, by decide⟩ rfl rfl (Nat.le_of_ble_eq_true rfl) dX8_then_57 (fun v w hq => ?_)
  obtain ⟨rfl, rfl⟩ := hq
  refine j_ws [0, 1, 5, 6, 7, 8, 9, 2, 3, 4] (ws' := [(x, .inr (8, [.ref nw, .ref tk, .int (bI itk), .ref ch, .ref ah, .ref th, .ref tp, .ref wt, .ref rows])), (nw, .inr (7, [.ref g, .ref ru, .ref se, .ref ev])), (g, .inr (1, [.int (nI W), .int (nI H), .int t, .ref b])), (b, ia G 16 f), (ru, .inr (3, [.ref rn, .ref rf])), (rn, ia G 16 (fun ι => nI (p ι))), (rf, ia G 16 (fun ι => nI (q ι))), (ah, .inr (0, [.int ms, .int mc, .int mr, .ref ag, .ref ar, .ref ur, .int un])), (ag, .inr (1, [.int (nI W), .int (nI H), .int (t + n), .ref ab])), (ab, ia G 16 (goF W H p q t n f))]) rfl rfl ?_
  exact j_iret (pc := 60) hX hR dX8_then_60 ⟨W, H, (t + n), (goF W H p q t n f), congrArg some (show Value.int (bI (bt (goF W H p q t n f ((100 * xx + yy) % 100)) ((100 * xx + yy) / 100))) = Value.int (bI (bt (goF W H p q t n f yy) xx)) from by rw [show (100 * xx + yy) % 100 = yy from by omega, show (100 * xx + yy) / 100 = xx from by omega]), rfl⟩
set_option maxHeartbeats 4000000 in
set_option maxRecDepth 100000 in
theorem c_X8_sum_bad (G : GT) (x : Nat) (nw : Nat) (tk : Nat) (itk : Bool) (ch : Nat) (ah : Nat) (th : Nat) (tp : Nat) (wt : Nat) (rows : Nat) (a_ b_ c_ d_ : Int32) (hb : (rngB a_ (-9) 9 && (rngB b_ (-9) 9 && (rngB c_ (-9) 9 && rngB d_ (-9) 9))) = false) (l : Launch) : CT l G yX8_sum cX8_sum 5 (some .int) { frames := 2, cells := 0, slots := 0, locals := 49 } [.ref x, .int a_, .int b_, .int c_, .int d_] [(x, .inr (8, [.ref nw, .ref tk, .int (bI itk), .ref ch, .ref ah, .ref th, .ref tp, .ref wt, .ref rows]))] (fun vv ww => vv = some (.int (-2)) ∧ ww = [(x, .inr (8, [.ref nw, .ref tk, .int (bI itk), .ref ch, .ref ah, .ref th, .ref tp, .ref wt, .ref rows]))]) := by
  refine CT.of (lv := [(0, .ref x), (1, .int a_), (2, .int b_), (3, .int c_), (4, .int d_)]) RX8 "sum" rfl rfl (by decide +kernel) (Nat.le_of_ble_eq_true rfl) rfl (fun X hX hR => ?_)
  refine j_iload_n (pc := 0) hX dX8_sum_0 1 rfl ?_
  refine j_iload_n (pc := 1) hX dX8_sum_1 2 rfl ?_
  refine j_iload_n (pc := 2) hX dX8_sum_2 3 rfl ?_
  refine j_iload (pc := 3) hX dX8_sum_3 4 rfl ?_
  refine j_callS (pc := 5) hX kX8_areWeights kSX8_areWeights l_RX8_180 (fun l => c_X8_areWeights G a_ b_ c_ d_  l) [] [0] [] rfl rfl rfl rfl ⟨rfl, rfl, by decide⟩ rfl rfl (Nat.le_of_ble_eq_true rfl) dX8_sum_5 (fun v w hq => ?_)
  obtain ⟨rfl, rfl⟩ := hq
  refine j_ws [0] (ws' := [(x, .inr (8, [.ref nw, .ref tk, .int (bI itk), .ref ch, .ref ah, .ref th, .ref tp, .ref wt, .ref rows]))]) rfl rfl ?_
  refine j_ifB_ne (pc := 8) (tgt := 14) hX dX8_sum_8 (by decide) (fun c8 => by rw [hb] at c8; cases c8) (fun c8 => ?_)
  refine j_bipush (pc := 11) (v := (-2)) hX dX8_sum_11 (by decide) ?_
  exact j_iret (pc := 13) hX hR dX8_sum_13 ⟨rfl, rfl⟩
set_option maxHeartbeats 4000000 in
set_option maxRecDepth 100000 in
theorem c_X8_sum_ok (G : GT) (x : Nat) (nw : Nat) (tk : Nat) (itk : Bool) (ch : Nat) (ah : Nat) (th : Nat) (tp : Nat) (wt : Nat) (rows : Nat) (g : Nat) (ru : Nat) (se : Nat) (ev : Nat) (W : Nat) (H : Nat) (t : Int32) (b : Nat) (f : Nat → Int32) (a_ b_ c_ d_ : Int32) (hW1 : 2 ≤ W) (hW2 : W ≤ 16) (hH1 : 2 ≤ H) (hH2 : H ≤ 16) (hf : ∀ y, rN (f y) < 65536) (hb : (rngB a_ (-9) 9 && (rngB b_ (-9) 9 && (rngB c_ (-9) 9 && rngB d_ (-9) 9))) = true) (l : Launch) : CT l G yX8_sum cX8_sum 5 (some .int) { frames := 2, cells := 0, slots := 0, locals := 49 } [.ref x, .int a_, .int b_, .int c_, .int d_] [(x, .inr (8, [.ref nw, .ref tk, .int (bI itk), .ref ch, .ref ah, .ref th, .ref tp, .ref wt, .ref rows])), (nw, .inr (7, [.ref g, .ref ru, .ref se, .ref ev])), (g, .inr (1, [.int (nI W), .int (nI H), .int t, .ref b])), (b, ia G 16 f)] (fun vv ww => vv = some (.int (wsF a_ b_ c_ d_ f H + nI 1000000)) ∧ ww = [(x, .inr (8, [.ref nw, .ref tk, .int (bI itk), .ref ch, .ref ah, .ref th, .ref tp, .ref wt, .ref rows])), (nw, .inr (7, [.ref g, .ref ru, .ref se, .ref ev])), (g, .inr (1, [.int (nI W), .int (nI H), .int t, .ref b])), (b, ia G 16 f)]) := by
  refine CT.of (lv := [(0, .ref x), (1, .int a_), (2, .int b_), (3, .int c_), (4, .int d_)]) RX8 "sum" rfl rfl (by decide +kernel) (Nat.le_of_ble_eq_true rfl) rfl (fun X hX hR => ?_)
  refine j_iload_n (pc := 0) hX dX8_sum_0 1 rfl ?_
  refine j_iload_n (pc := 1) hX dX8_sum_1 2 rfl ?_
  refine j_iload_n (pc := 2) hX dX8_sum_2 3 rfl ?_
  refine j_iload (pc := 3) hX dX8_sum_3 4 rfl ?_
  refine j_callS (pc := 5) hX kX8_areWeights kSX8_areWeights l_RX8_180 (fun l => c_X8_areWeights G a_ b_ c_ d_  l) [] [0, 1, 2, 3] [] rfl rfl rfl rfl ⟨rfl, rfl, by decide⟩ rfl rfl (Nat.le_of_ble_eq_true rfl) dX8_sum_5 (fun v w hq => ?_)
  obtain ⟨rfl, rfl⟩ := hq
  refine j_ws [0, 1, 2, 3] (ws' := [(x, .inr (8, [.ref nw, .ref tk, .int (bI itk), .ref ch, .ref ah, .ref th, .ref tp, .ref wt, .ref rows])), (nw, .inr (7, [.ref g, .ref ru, .ref se, .ref ev])), (g, .inr (1, [.int (nI W), .int (nI H), .int t, .ref b])), (b, ia G 16 f)]) rfl rfl ?_
  refine j_ifB_ne (pc := 8) (tgt := 14) hX dX8_sum_8 (by decide) (fun c8 => ?_) (fun c8 => by rw [hb] at c8; cases c8)
  refine j_aload_n (pc := 14) hX dX8_sum_14 0 rfl ?_
  refine j_get (pc := 15) hX f_RX8_12 0 rfl rfl dX8_sum_15 ?_
  refine j_getR (pc := 18) hX f_RX8_69 1 rfl rfl dX8_sum_18 ?_
  refine j_iload_n (pc := 21) hX dX8_sum_21 1 rfl ?_
  refine j_iload_n (pc := 22) hX dX8_sum_22 2 rfl ?_
  refine j_iload_n (pc := 23) hX dX8_sum_23 3 rfl ?_
  refine j_iload (pc := 24) hX dX8_sum_24 4 rfl ?_
  refine j_callV (pc := 26) hX kX1_weighed kVX1_weighed l_RX8_184 (fun l => c_X1_weighed G g W H t b f a_ b_ c_ d_ (by omega) (by omega) (by omega) (by omega) (by assumption) l) [2, 3] [0, 1] [] rfl 0 1 rfl rfl rfl rfl rfl rfl ⟨rfl, rfl, by decide⟩ rfl rfl (Nat.le_of_ble_eq_true rfl) dX8_sum_26 (fun v w hq => ?_)
  obtain ⟨rfl, rfl⟩ := hq
  refine j_ws [0, 1, 2, 3] (ws' := [(x, .inr (8, [.ref nw, .ref tk, .int (bI itk), .ref ch, .ref ah, .ref th, .ref tp, .ref wt, .ref rows])), (nw, .inr (7, [.ref g, .ref ru, .ref se, .ref ev])), (g, .inr (1, [.int (nI W), .int (nI H), .int t, .ref b])), (b, ia G 16 f)]) rfl rfl ?_
  refine j_ldc (pc := 29) (v := nI 1000000) hX k_RX8_188 dX8_sum_29 ?_
  refine j_iadd (pc := 31) hX dX8_sum_31 ?_
  exact j_iret (pc := 32) hX hR dX8_sum_32 ⟨congrArg some (show Value.int ((wsF a_ b_ c_ d_ f H) + (nI 1000000)) = Value.int (wsF a_ b_ c_ d_ f H + nI 1000000) from by rfl), rfl⟩
set_option maxHeartbeats 4000000 in
set_option maxRecDepth 100000 in
theorem c_X8_kept_bad (G : GT) (x : Nat) (nw : Nat) (tk : Nat) (itk : Bool) (ch : Nat) (ah : Nat) (th : Nat) (tp : Nat) (wt : Nat) (rows : Nat) (a_ b_ c_ d_ : Int32) (hb : (rngB a_ (-9) 9 && (rngB b_ (-9) 9 && (rngB c_ (-9) 9 && rngB d_ (-9) 9))) = false) (l : Launch) : CT l G yX8_kept cX8_kept 5 (some .int) { frames := 3, cells := 0, slots := 0, locals := 68 } [.ref x, .int a_, .int b_, .int c_, .int d_] [(x, .inr (8, [.ref nw, .ref tk, .int (bI itk), .ref ch, .ref ah, .ref th, .ref tp, .ref wt, .ref rows]))] (fun vv ww => vv = some (.int (-2)) ∧ ww = [(x, .inr (8, [.ref nw, .ref tk, .int (bI itk), .ref ch, .ref ah, .ref th, .ref tp, .ref wt, .ref rows]))]) := by
  refine CT.of (lv := [(0, .ref x), (1, .int a_), (2, .int b_), (3, .int c_), (4, .int d_)]) RX8 "kept" rfl rfl (by decide +kernel) (Nat.le_of_ble_eq_true rfl) rfl (fun X hX hR => ?_)
  refine j_iload_n (pc := 0) hX dX8_kept_0 1 rfl ?_
  refine j_iload_n (pc := 1) hX dX8_kept_1 2 rfl ?_
  refine j_iload_n (pc := 2) hX dX8_kept_2 3 rfl ?_
  refine j_iload (pc := 3) hX dX8_kept_3 4 rfl ?_
  refine j_callS (pc := 5) hX kX8_areWeights kSX8_areWeights l_RX8_180 (fun l => c_X8_areWeights G a_ b_ c_ d_  l) [] [0] [] rfl rfl rfl rfl ⟨rfl, rfl, by decide⟩ rfl rfl (Nat.le_of_ble_eq_true rfl) dX8_kept_5 (fun v w hq => ?_)
  obtain ⟨rfl, rfl⟩ := hq
  refine j_ws [0] (ws' := [(x, .inr (8, [.ref nw, .ref tk, .int (bI itk), .ref ch, .ref ah, .ref th, .ref tp, .ref wt, .ref rows]))]) rfl rfl ?_
  refine j_ifB_ne (pc := 8) (tgt := 14) hX dX8_kept_8 (by decide) (fun c8 => by rw [hb] at c8; cases c8) (fun c8 => ?_)
  refine j_bipush (pc := 11) (v := (-2)) hX dX8_kept_11 (by decide) ?_
  exact j_iret (pc := 13) hX hR dX8_kept_13 ⟨rfl, rfl⟩
set_option maxHeartbeats 4000000 in
set_option maxRecDepth 100000 in
theorem c_X8_kept_ok (G : GT) (x : Nat) (nw : Nat) (tk : Nat) (itk : Bool) (ch : Nat) (ah : Nat) (th : Nat) (tp : Nat) (wt : Nat) (rows : Nat) (g : Nat) (ru : Nat) (se : Nat) (ev : Nat) (rn : Nat) (rf : Nat) (p : Nat → Nat) (q : Nat → Nat) (a_ b_ c_ d_ : Int32) (hb : (rngB a_ (-9) 9 && (rngB b_ (-9) 9 && (rngB c_ (-9) 9 && rngB d_ (-9) 9))) = true) (hp : ∀ s, s < 16 → p s < 16) (l : Launch) : CT l G yX8_kept cX8_kept 5 (some .int) { frames := 3, cells := 0, slots := 0, locals := 68 } [.ref x, .int a_, .int b_, .int c_, .int d_] [(x, .inr (8, [.ref nw, .ref tk, .int (bI itk), .ref ch, .ref ah, .ref th, .ref tp, .ref wt, .ref rows])), (nw, .inr (7, [.ref g, .ref ru, .ref se, .ref ev])), (ru, .inr (3, [.ref rn, .ref rf])), (rn, ia G 16 (fun ι => nI (p ι))), (rf, ia G 16 (fun ι => nI (q ι)))] (fun vv ww => vv = some (.int (bI (keptB a_ b_ c_ d_ p))) ∧ ww = [(x, .inr (8, [.ref nw, .ref tk, .int (bI itk), .ref ch, .ref ah, .ref th, .ref tp, .ref wt, .ref rows])), (nw, .inr (7, [.ref g, .ref ru, .ref se, .ref ev])), (ru, .inr (3, [.ref rn, .ref rf])), (rn, ia G 16 (fun ι => nI (p ι))), (rf, ia G 16 (fun ι => nI (q ι)))]) := by
  refine CT.of (lv := [(0, .ref x), (1, .int a_), (2, .int b_), (3, .int c_), (4, .int d_)]) RX8 "kept" rfl rfl (by decide +kernel) (Nat.le_of_ble_eq_true rfl) rfl (fun X hX hR => ?_)
  refine j_iload_n (pc := 0) hX dX8_kept_0 1 rfl ?_
  refine j_iload_n (pc := 1) hX dX8_kept_1 2 rfl ?_
  refine j_iload_n (pc := 2) hX dX8_kept_2 3 rfl ?_
  refine j_iload (pc := 3) hX dX8_kept_3 4 rfl ?_
  refine j_callS (pc := 5) hX kX8_areWeights kSX8_areWeights l_RX8_180 (fun l => c_X8_areWeights G a_ b_ c_ d_  l) [] [0, 1, 2, 3, 4] [] rfl rfl rfl rfl ⟨rfl, rfl, by decide⟩ rfl rfl (Nat.le_of_ble_eq_true rfl) dX8_kept_5 (fun v w hq => ?_)
  obtain ⟨rfl, rfl⟩ := hq
  refine j_ws [0, 1, 2, 3, 4] (ws' := [(x, .inr (8, [.ref nw, .ref tk, .int (bI itk), .ref ch, .ref ah, .ref th, .ref tp, .ref wt, .ref rows])), (nw, .inr (7, [.ref g, .ref ru, .ref se, .ref ev])), (ru, .inr (3, [.ref rn, .ref rf])), (rn, ia G 16 (fun ι => nI (p ι))), (rf, ia G 16 (fun ι => nI (q ι)))]) rfl rfl ?_
  refine j_ifB_ne (pc := 8) (tgt := 14) hX dX8_kept_8 (by decide) (fun c8 => ?_) (fun c8 => by rw [hb] at c8; cases c8)
  refine j_aload_n (pc := 14) hX dX8_kept_14 0 rfl ?_
  refine j_get (pc := 15) hX f_RX8_12 0 rfl rfl dX8_kept_15 ?_
  refine j_getR (pc := 18) hX f_RX8_148 1 rfl rfl dX8_kept_18 ?_
  refine j_iload_n (pc := 21) hX dX8_kept_21 1 rfl ?_
  refine j_iload_n (pc := 22) hX dX8_kept_22 2 rfl ?_
  refine j_iload_n (pc := 23) hX dX8_kept_23 3 rfl ?_
  refine j_iload (pc := 24) hX dX8_kept_24 4 rfl ?_
  refine j_callV (pc := 26) hX kX3_keepsSum kVX3_keepsSum l_RX8_189 (fun l => c_X3_keepsSum G ru rn rf p q a_ b_ c_ d_ (by assumption) l) [2, 3, 4] [0, 1] [] rfl 0 3 rfl rfl rfl rfl rfl rfl ⟨rfl, rfl, by decide⟩ rfl rfl (Nat.le_of_ble_eq_true rfl) dX8_kept_26 (fun v w hq => ?_)
  obtain ⟨rfl, rfl⟩ := hq
  refine j_ws [0, 1, 2, 3, 4] (ws' := [(x, .inr (8, [.ref nw, .ref tk, .int (bI itk), .ref ch, .ref ah, .ref th, .ref tp, .ref wt, .ref rows])), (nw, .inr (7, [.ref g, .ref ru, .ref se, .ref ev])), (ru, .inr (3, [.ref rn, .ref rf])), (rn, ia G 16 (fun ι => nI (p ι))), (rf, ia G 16 (fun ι => nI (q ι)))]) rfl rfl ?_
  refine j_ifB_eq (pc := 29) (tgt := 36) hX dX8_kept_29 (by decide) (fun c29 => ?_) (fun c29 => ?_)
  · skip
    refine j_iconstN (pc := 36) (j := 0) hX dX8_kept_36 rfl ?_
    exact j_iret (pc := 37) hX hR dX8_kept_37 ⟨congrArg some (show Value.int (nI 0) = Value.int (bI (keptB a_ b_ c_ d_ p)) from by first | exact bI_tt c29 | exact bI_ff c29), rfl⟩
  · skip
    refine j_iconstN (pc := 32) (j := 1) hX dX8_kept_32 rfl ?_
    refine j_goto (pc := 33) (tgt := 37) hX dX8_kept_33 (by decide) ?_
    exact j_iret (pc := 37) hX hR dX8_kept_37 ⟨congrArg some (show Value.int (nI 1) = Value.int (bI (keptB a_ b_ c_ d_ p)) from by first | exact bI_tt c29 | exact bI_ff c29), rfl⟩
set_option maxHeartbeats 4000000 in
set_option maxRecDepth 100000 in
theorem c_X8_again (G : GT) (x : Nat) (nw : Nat) (tk : Nat) (itk : Bool) (ch : Nat) (ah : Nat) (th : Nat) (tp : Nat) (wt : Nat) (rows : Nat) (g : Nat) (ru : Nat) (se : Nat) (ev : Nat) (W : Nat) (H : Nat) (t : Int32) (b : Nat) (f : Nat → Int32) (rn : Nat) (rf : Nat) (p : Nat → Nat) (q : Nat → Nat) (ms : Int32) (mc : Int32) (mr : Int32) (ag : Nat) (ar : Nat) (ur : Nat) (un : Int32) (aW : Nat) (aH : Nat) (at_ : Int32) (ab : Nat) (af : Nat → Int32) (hW1 : 2 ≤ W) (hW2 : W ≤ 16) (hH1 : 2 ≤ H) (hH2 : H ≤ 16) (hW3 : W % 2 = 0) (hH3 : H % 2 = 0) (l : Launch) : CT l G yX8_again cX8_again 1 (some .int) { frames := 5, cells := 0, slots := 0, locals := 120 } [.ref x] [(x, .inr (8, [.ref nw, .ref tk, .int (bI itk), .ref ch, .ref ah, .ref th, .ref tp, .ref wt, .ref rows])), (nw, .inr (7, [.ref g, .ref ru, .ref se, .ref ev])), (g, .inr (1, [.int (nI W), .int (nI H), .int t, .ref b])), (b, ia G 16 f), (ru, .inr (3, [.ref rn, .ref rf])), (rn, ia G 16 (fun ι => nI (p ι))), (rf, ia G 16 (fun ι => nI (q ι))), (ah, .inr (0, [.int ms, .int mc, .int mr, .ref ag, .ref ar, .ref ur, .int un])), (ag, .inr (1, [.int (nI aW), .int (nI aH), .int at_, .ref ab])), (ab, ia G 16 af)] (fun vv ww => ∃ (aW2 aH2 : Nat) (at2 : Int32) (af2 : Nat → Int32), vv = some (.int (optI (agS W H p t f))) ∧ ww = [(x, .inr (8, [.ref nw, .ref tk, .int (bI itk), .ref ch, .ref ah, .ref th, .ref tp, .ref wt, .ref rows])), (nw, .inr (7, [.ref g, .ref ru, .ref se, .ref ev])), (g, .inr (1, [.int (nI W), .int (nI H), .int t, .ref b])), (b, ia G 16 f), (ru, .inr (3, [.ref rn, .ref rf])), (rn, ia G 16 (fun ι => nI (p ι))), (rf, ia G 16 (fun ι => nI (q ι))), (ah, .inr (0, [.int ms, .int mc, .int mr, .ref ag, .ref ar, .ref ur, .int un])), (ag, .inr (1, [.int (nI aW2), .int (nI aH2), .int at2, .ref ab])), (ab, ia G 16 af2)]) := by
  refine CT.of (lv := [(0, .ref x)]) RX8 "again" rfl rfl (by decide +kernel) (Nat.le_of_ble_eq_true rfl) rfl (fun X hX hR => ?_)
  refine j_aload_n (pc := 0) hX dX8_again_0 0 rfl ?_
  refine j_get (pc := 1) hX f_RX8_37 0 rfl rfl dX8_again_1 ?_
  refine j_aload_n (pc := 4) hX dX8_again_4 0 rfl ?_
  refine j_get (pc := 5) hX f_RX8_12 0 rfl rfl dX8_again_5 ?_
  refine j_getR (pc := 8) hX f_RX8_69 1 rfl rfl dX8_again_8 ?_
  refine j_aload_n (pc := 11) hX dX8_again_11 0 rfl ?_
  refine j_get (pc := 12) hX f_RX8_12 0 rfl rfl dX8_again_12 ?_
  refine j_getR (pc := 15) hX f_RX8_148 1 rfl rfl dX8_again_15 ?_
  refine j_callV (pc := 18) hX kX0_stepsToSame kVX0_stepsToSame l_RX8_192 (fun l => c_X0_stepsToSame G ah ms mc mr ag ar ur un aW aH at_ ab af g W H t b f ru rn rf p q (by omega) (by omega) (by omega) (by omega) (by omega) (by omega) l) [7, 8, 9, 2, 3, 4, 5, 6] [0, 1] [] rfl 0 0 rfl rfl rfl rfl rfl rfl ⟨rfl, rfl, by decide⟩ rfl rfl (Nat.le_of_ble_eq_true rfl) dX8_again_18 (fun v w hq => ?_)
  obtain ⟨aW2_18, aH2_18, at2_18, af2_18, rfl, rfl⟩ := hq
  refine j_ws [0, 1, 5, 6, 7, 8, 9, 2, 3, 4] (ws' := [(x, .inr (8, [.ref nw, .ref tk, .int (bI itk), .ref ch, .ref ah, .ref th, .ref tp, .ref wt, .ref rows])), (nw, .inr (7, [.ref g, .ref ru, .ref se, .ref ev])), (g, .inr (1, [.int (nI W), .int (nI H), .int t, .ref b])), (b, ia G 16 f), (ru, .inr (3, [.ref rn, .ref rf])), (rn, ia G 16 (fun ι => nI (p ι))), (rf, ia G 16 (fun ι => nI (q ι))), (ah, .inr (0, [.int ms, .int mc, .int mr, .ref ag, .ref ar, .ref ur, .int un])), (ag, .inr (1, [.int (nI aW2_18), .int (nI aH2_18), .int at2_18, .ref ab])), (ab, ia G 16 af2_18)]) rfl rfl ?_
  exact j_iret (pc := 21) hX hR dX8_again_21 ⟨aW2_18, aH2_18, at2_18, af2_18, rfl, rfl⟩
set_option maxHeartbeats 4000000 in
set_option maxRecDepth 100000 in
theorem c_X8_moved_bad (G : GT) (x : Nat) (nw : Nat) (tk : Nat) (itk : Bool) (ch : Nat) (ah : Nat) (th : Nat) (tp : Nat) (wt : Nat) (rows : Nat) (w : Int32) (hb : w.toInt < 0 ∨ 2 < w.toInt) (l : Launch) : CT l G yX8_moved cX8_moved 2 (some .int) { frames := 5, cells := 0, slots := 0, locals := 120 } [.ref x, .int w] [(x, .inr (8, [.ref nw, .ref tk, .int (bI itk), .ref ch, .ref ah, .ref th, .ref tp, .ref wt, .ref rows]))] (fun vv ww => vv = some (.int (-1)) ∧ ww = [(x, .inr (8, [.ref nw, .ref tk, .int (bI itk), .ref ch, .ref ah, .ref th, .ref tp, .ref wt, .ref rows]))]) := by
  refine CT.of (lv := [(0, .ref x), (1, .int w)]) RX8 "moved" rfl rfl (by decide +kernel) (Nat.le_of_ble_eq_true rfl) rfl (fun X hX hR => ?_)
  refine j_iload_n (pc := 0) hX dX8_moved_0 1 rfl ?_
  refine j_if_lt (pc := 1) (tgt := 9) hX dX8_moved_1 (by decide) rfl (fun c1 => ?_) (fun c1 => ?_)
  · skip
    refine j_iconst (pc := 9) (v := (-1)) hX dX8_moved_9 (by decide) ?_
    exact j_iret (pc := 10) hX hR dX8_moved_10 ⟨rfl, rfl⟩
  · skip
    refine j_iload_n (pc := 4) hX dX8_moved_4 1 rfl ?_
    refine j_iconstN (pc := 5) (j := 2) hX dX8_moved_5 rfl ?_
    refine j_icmp_le (pc := 6) (tgt := 11) hX dX8_moved_6 (by decide) rfl (nI_toInt (n := 2) (by decide)) (fun c6 => by exfalso; omega) (fun c6 => ?_)
    refine j_iconst (pc := 9) (v := (-1)) hX dX8_moved_9 (by decide) ?_
    exact j_iret (pc := 10) hX hR dX8_moved_10 ⟨rfl, rfl⟩
set_option maxHeartbeats 4000000 in
set_option maxRecDepth 100000 in
theorem c_X8_moved_0 (G : GT) (x : Nat) (nw : Nat) (tk : Nat) (itk : Bool) (ch : Nat) (ah : Nat) (th : Nat) (tp : Nat) (wt : Nat) (rows : Nat) (g : Nat) (ru : Nat) (se : Nat) (ev : Nat) (W : Nat) (H : Nat) (t : Int32) (b : Nat) (f : Nat → Int32) (rn : Nat) (rf : Nat) (p : Nat → Nat) (q : Nat → Nat) (ms : Int32) (mc : Int32) (mr : Int32) (ag : Nat) (ar : Nat) (ur : Nat) (un : Int32) (aW : Nat) (aH : Nat) (at_ : Int32) (ab : Nat) (af : Nat → Int32) (hW1 : 2 ≤ W) (hW2 : W ≤ 16) (hH1 : 2 ≤ H) (hH2 : H ≤ 16) (hW3 : W % 2 = 0) (hH3 : H % 2 = 0) (l : Launch) : CT l G yX8_moved cX8_moved 2 (some .int) { frames := 5, cells := 0, slots := 0, locals := 120 } [.ref x, .int (nI 0)] [(x, .inr (8, [.ref nw, .ref tk, .int (bI itk), .ref ch, .ref ah, .ref th, .ref tp, .ref wt, .ref rows])), (nw, .inr (7, [.ref g, .ref ru, .ref se, .ref ev])), (g, .inr (1, [.int (nI W), .int (nI H), .int t, .ref b])), (b, ia G 16 f), (ru, .inr (3, [.ref rn, .ref rf])), (rn, ia G 16 (fun ι => nI (p ι))), (rf, ia G 16 (fun ι => nI (q ι))), (ah, .inr (0, [.int ms, .int mc, .int mr, .ref ag, .ref ar, .ref ur, .int un])), (ag, .inr (1, [.int (nI aW), .int (nI aH), .int at_, .ref ab])), (ab, ia G 16 af)] (fun vv ww => ∃ (ms2 mc2 mr2 : Int32) (aW2 aH2 : Nat) (at2 : Int32) (af2 : Nat → Int32), vv = some (.int (mvR (mvS W H p t f) 0)) ∧ ww = [(x, .inr (8, [.ref nw, .ref tk, .int (bI itk), .ref ch, .ref ah, .ref th, .ref tp, .ref wt, .ref rows])), (nw, .inr (7, [.ref g, .ref ru, .ref se, .ref ev])), (g, .inr (1, [.int (nI W), .int (nI H), .int t, .ref b])), (b, ia G 16 f), (ru, .inr (3, [.ref rn, .ref rf])), (rn, ia G 16 (fun ι => nI (p ι))), (rf, ia G 16 (fun ι => nI (q ι))), (ah, .inr (0, [.int ms2, .int mc2, .int mr2, .ref ag, .ref ar, .ref ur, .int un])), (ag, .inr (1, [.int (nI aW2), .int (nI aH2), .int at2, .ref ab])), (ab, ia G 16 af2)]) := by
  refine CT.of (lv := [(0, .ref x), (1, .int (nI 0))]) RX8 "moved" rfl rfl (by decide +kernel) (Nat.le_of_ble_eq_true rfl) rfl (fun X hX hR => ?_)
  refine j_iload_n (pc := 0) hX dX8_moved_0 1 rfl ?_
  refine j_if_lt (pc := 1) (tgt := 9) hX dX8_moved_1 (by decide) (nI_toInt (n := 0) (by decide)) (fun c1 => absurd c1 (by decide)) (fun c1 => ?_)
  refine j_iload_n (pc := 4) hX dX8_moved_4 1 rfl ?_
  refine j_iconstN (pc := 5) (j := 2) hX dX8_moved_5 rfl ?_
  refine j_icmp_le (pc := 6) (tgt := 11) hX dX8_moved_6 (by decide) (nI_toInt (n := 0) (by decide)) (nI_toInt (n := 2) (by decide)) (fun c6 => ?_) (fun c6 => absurd c6 (by decide))
  refine j_aload_n (pc := 11) hX dX8_moved_11 0 rfl ?_
  refine j_get (pc := 12) hX f_RX8_37 0 rfl rfl dX8_moved_12 ?_
  refine j_aload_n (pc := 15) hX dX8_moved_15 0 rfl ?_
  refine j_get (pc := 16) hX f_RX8_12 0 rfl rfl dX8_moved_16 ?_
  refine j_getR (pc := 19) hX f_RX8_69 1 rfl rfl dX8_moved_19 ?_
  refine j_aload_n (pc := 22) hX dX8_moved_22 0 rfl ?_
  refine j_get (pc := 23) hX f_RX8_12 0 rfl rfl dX8_moved_23 ?_
  refine j_getR (pc := 26) hX f_RX8_148 1 rfl rfl dX8_moved_26 ?_
  refine j_callV (pc := 29) hX kX0_findMove kVX0_findMove l_RX8_196 (fun l => c_X0_findMove G ah ms mc mr ag ar ur un aW aH at_ ab af g W H t b f ru rn rf p q (by omega) (by omega) (by omega) (by omega) (by omega) (by omega) l) [7, 8, 9, 2, 3, 4, 5, 6] [0, 1] [] rfl 0 0 rfl rfl rfl rfl rfl rfl ⟨rfl, rfl, by decide⟩ rfl rfl (Nat.le_of_ble_eq_true rfl) dX8_moved_29 (fun v w hq => ?_)
  obtain ⟨ms2_29, mc2_29, mr2_29, aW2_29, aH2_29, at2_29, af2_29, rfl, rfl, h29_0⟩ := hq
  refine j_ws [0, 1, 5, 6, 7, 8, 9, 2, 3, 4] (ws' := [(x, .inr (8, [.ref nw, .ref tk, .int (bI itk), .ref ch, .ref ah, .ref th, .ref tp, .ref wt, .ref rows])), (nw, .inr (7, [.ref g, .ref ru, .ref se, .ref ev])), (g, .inr (1, [.int (nI W), .int (nI H), .int t, .ref b])), (b, ia G 16 f), (ru, .inr (3, [.ref rn, .ref rf])), (rn, ia G 16 (fun ι => nI (p ι))), (rf, ia G 16 (fun ι => nI (q ι))), (ah, .inr (0, [.int ms2_29, .int mc2_29, .int mr2_29, .ref ag, .ref ar, .ref ur, .int un])), (ag, .inr (1, [.int (nI aW2_29), .int (nI aH2_29), .int at2_29, .ref ab])), (ab, ia G 16 af2_29)]) rfl rfl ?_
  refine j_ifB_ne (pc := 32) (tgt := 38) hX dX8_moved_32 (by decide) (fun c32 => ?_) (fun c32 => ?_)
  · skip
    refine j_iload_n (pc := 38) hX dX8_moved_38 1 rfl ?_
    refine j_lookup (pc := 39) (off := 25) (tgt := 64) hX dX8_moved_39 rfl (by decide) (by decide) ?_
    refine j_aload_n (pc := 64) hX dX8_moved_64 0 rfl ?_
    refine j_get (pc := 65) hX f_RX8_37 0 rfl rfl dX8_moved_65 ?_
    refine j_get (pc := 68) hX f_RX8_200 7 rfl rfl dX8_moved_68 ?_
    obtain ⟨⟨mn, mx, my⟩, hd⟩ := Option.isSome_iff_exists.mp c32
    obtain ⟨e1, e2, e3⟩ := h29_0 _ _ _ hd
    exact j_iret (pc := 71) hX hR dX8_moved_71 ⟨ms2_29, mc2_29, mr2_29, aW2_29, aH2_29, at2_29, af2_29, congrArg some (show Value.int ms2_29 = Value.int (mvR (mvS W H p t f) 0) from by rw [hd, e1]; rfl), rfl⟩
  · skip
    refine j_bipush (pc := 35) (v := (-5)) hX dX8_moved_35 (by decide) ?_
    exact j_iret (pc := 37) hX hR dX8_moved_37 ⟨ms2_29, mc2_29, mr2_29, aW2_29, aH2_29, at2_29, af2_29, congrArg some (show Value.int (-5) = Value.int (mvR (mvS W H p t f) 0) from by rw [show mvS W H p t f = none from Option.isNone_iff_eq_none.mp (Option.isSome_eq_false_iff.mp c32)]; rfl), rfl⟩
set_option maxHeartbeats 4000000 in
set_option maxRecDepth 100000 in
theorem c_X8_moved_1 (G : GT) (x : Nat) (nw : Nat) (tk : Nat) (itk : Bool) (ch : Nat) (ah : Nat) (th : Nat) (tp : Nat) (wt : Nat) (rows : Nat) (g : Nat) (ru : Nat) (se : Nat) (ev : Nat) (W : Nat) (H : Nat) (t : Int32) (b : Nat) (f : Nat → Int32) (rn : Nat) (rf : Nat) (p : Nat → Nat) (q : Nat → Nat) (ms : Int32) (mc : Int32) (mr : Int32) (ag : Nat) (ar : Nat) (ur : Nat) (un : Int32) (aW : Nat) (aH : Nat) (at_ : Int32) (ab : Nat) (af : Nat → Int32) (hW1 : 2 ≤ W) (hW2 : W ≤ 16) (hH1 : 2 ≤ H) (hH2 : H ≤ 16) (hW3 : W % 2 = 0) (hH3 : H % 2 = 0) (l : Launch) : CT l G yX8_moved cX8_moved 2 (some .int) { frames := 5, cells := 0, slots := 0, locals := 120 } [.ref x, .int (nI 1)] [(x, .inr (8, [.ref nw, .ref tk, .int (bI itk), .ref ch, .ref ah, .ref th, .ref tp, .ref wt, .ref rows])), (nw, .inr (7, [.ref g, .ref ru, .ref se, .ref ev])), (g, .inr (1, [.int (nI W), .int (nI H), .int t, .ref b])), (b, ia G 16 f), (ru, .inr (3, [.ref rn, .ref rf])), (rn, ia G 16 (fun ι => nI (p ι))), (rf, ia G 16 (fun ι => nI (q ι))), (ah, .inr (0, [.int ms, .int mc, .int mr, .ref ag, .ref ar, .ref ur, .int un])), (ag, .inr (1, [.int (nI aW), .int (nI aH), .int at_, .ref ab])), (ab, ia G 16 af)] (fun vv ww => ∃ (ms2 mc2 mr2 : Int32) (aW2 aH2 : Nat) (at2 : Int32) (af2 : Nat → Int32), vv = some (.int (mvR (mvS W H p t f) 1)) ∧ ww = [(x, .inr (8, [.ref nw, .ref tk, .int (bI itk), .ref ch, .ref ah, .ref th, .ref tp, .ref wt, .ref rows])), (nw, .inr (7, [.ref g, .ref ru, .ref se, .ref ev])), (g, .inr (1, [.int (nI W), .int (nI H), .int t, .ref b])), (b, ia G 16 f), (ru, .inr (3, [.ref rn, .ref rf])), (rn, ia G 16 (fun ι => nI (p ι))), (rf, ia G 16 (fun ι => nI (q ι))), (ah, .inr (0, [.int ms2, .int mc2, .int mr2, .ref ag, .ref ar, .ref ur, .int un])), (ag, .inr (1, [.int (nI aW2), .int (nI aH2), .int at2, .ref ab])), (ab, ia G 16 af2)]) := by
  refine CT.of (lv := [(0, .ref x), (1, .int (nI 1))]) RX8 "moved" rfl rfl (by decide +kernel) (Nat.le_of_ble_eq_true rfl) rfl (fun X hX hR => ?_)
  refine j_iload_n (pc := 0) hX dX8_moved_0 1 rfl ?_
  refine j_if_lt (pc := 1) (tgt := 9) hX dX8_moved_1 (by decide) (nI_toInt (n := 1) (by decide)) (fun c1 => absurd c1 (by decide)) (fun c1 => ?_)
  refine j_iload_n (pc := 4) hX dX8_moved_4 1 rfl ?_
  refine j_iconstN (pc := 5) (j := 2) hX dX8_moved_5 rfl ?_
  refine j_icmp_le (pc := 6) (tgt := 11) hX dX8_moved_6 (by decide) (nI_toInt (n := 1) (by decide)) (nI_toInt (n := 2) (by decide)) (fun c6 => ?_) (fun c6 => absurd c6 (by decide))
  refine j_aload_n (pc := 11) hX dX8_moved_11 0 rfl ?_
  refine j_get (pc := 12) hX f_RX8_37 0 rfl rfl dX8_moved_12 ?_
  refine j_aload_n (pc := 15) hX dX8_moved_15 0 rfl ?_
  refine j_get (pc := 16) hX f_RX8_12 0 rfl rfl dX8_moved_16 ?_
  refine j_getR (pc := 19) hX f_RX8_69 1 rfl rfl dX8_moved_19 ?_
  refine j_aload_n (pc := 22) hX dX8_moved_22 0 rfl ?_
  refine j_get (pc := 23) hX f_RX8_12 0 rfl rfl dX8_moved_23 ?_
  refine j_getR (pc := 26) hX f_RX8_148 1 rfl rfl dX8_moved_26 ?_
  refine j_callV (pc := 29) hX kX0_findMove kVX0_findMove l_RX8_196 (fun l => c_X0_findMove G ah ms mc mr ag ar ur un aW aH at_ ab af g W H t b f ru rn rf p q (by omega) (by omega) (by omega) (by omega) (by omega) (by omega) l) [7, 8, 9, 2, 3, 4, 5, 6] [0, 1] [] rfl 0 0 rfl rfl rfl rfl rfl rfl ⟨rfl, rfl, by decide⟩ rfl rfl (Nat.le_of_ble_eq_true rfl) dX8_moved_29 (fun v w hq => ?_)
  obtain ⟨ms2_29, mc2_29, mr2_29, aW2_29, aH2_29, at2_29, af2_29, rfl, rfl, h29_0⟩ := hq
  refine j_ws [0, 1, 5, 6, 7, 8, 9, 2, 3, 4] (ws' := [(x, .inr (8, [.ref nw, .ref tk, .int (bI itk), .ref ch, .ref ah, .ref th, .ref tp, .ref wt, .ref rows])), (nw, .inr (7, [.ref g, .ref ru, .ref se, .ref ev])), (g, .inr (1, [.int (nI W), .int (nI H), .int t, .ref b])), (b, ia G 16 f), (ru, .inr (3, [.ref rn, .ref rf])), (rn, ia G 16 (fun ι => nI (p ι))), (rf, ia G 16 (fun ι => nI (q ι))), (ah, .inr (0, [.int ms2_29, .int mc2_29, .int mr2_29, .ref ag, .ref ar, .ref ur, .int un])), (ag, .inr (1, [.int (nI aW2_29), .int (nI aH2_29), .int at2_29, .ref ab])), (ab, ia G 16 af2_29)]) rfl rfl ?_
  refine j_ifB_ne (pc := 32) (tgt := 38) hX dX8_moved_32 (by decide) (fun c32 => ?_) (fun c32 => ?_)
  · skip
    refine j_iload_n (pc := 38) hX dX8_moved_38 1 rfl ?_
    refine j_lookup (pc := 39) (off := 33) (tgt := 72) hX dX8_moved_39 rfl (by decide) (by decide) ?_
    refine j_aload_n (pc := 72) hX dX8_moved_72 0 rfl ?_
    refine j_get (pc := 73) hX f_RX8_37 0 rfl rfl dX8_moved_73 ?_
    refine j_get (pc := 76) hX f_RX8_203 7 rfl rfl dX8_moved_76 ?_
    obtain ⟨⟨mn, mx, my⟩, hd⟩ := Option.isSome_iff_exists.mp c32
    obtain ⟨e1, e2, e3⟩ := h29_0 _ _ _ hd
    exact j_iret (pc := 79) hX hR dX8_moved_79 ⟨ms2_29, mc2_29, mr2_29, aW2_29, aH2_29, at2_29, af2_29, congrArg some (show Value.int mc2_29 = Value.int (mvR (mvS W H p t f) 1) from by rw [hd, e2]; rfl), rfl⟩
  · skip
    refine j_bipush (pc := 35) (v := (-5)) hX dX8_moved_35 (by decide) ?_
    exact j_iret (pc := 37) hX hR dX8_moved_37 ⟨ms2_29, mc2_29, mr2_29, aW2_29, aH2_29, at2_29, af2_29, congrArg some (show Value.int (-5) = Value.int (mvR (mvS W H p t f) 1) from by rw [show mvS W H p t f = none from Option.isNone_iff_eq_none.mp (Option.isSome_eq_false_iff.mp c32)]; rfl), rfl⟩
set_option maxHeartbeats 4000000 in
set_option maxRecDepth 100000 in
theorem c_X8_moved_2 (G : GT) (x : Nat) (nw : Nat) (tk : Nat) (itk : Bool) (ch : Nat) (ah : Nat) (th : Nat) (tp : Nat) (wt : Nat) (rows : Nat) (g : Nat) (ru : Nat) (se : Nat) (ev : Nat) (W : Nat) (H : Nat) (t : Int32) (b : Nat) (f : Nat → Int32) (rn : Nat) (rf : Nat) (p : Nat → Nat) (q : Nat → Nat) (ms : Int32) (mc : Int32) (mr : Int32) (ag : Nat) (ar : Nat) (ur : Nat) (un : Int32) (aW : Nat) (aH : Nat) (at_ : Int32) (ab : Nat) (af : Nat → Int32) (hW1 : 2 ≤ W) (hW2 : W ≤ 16) (hH1 : 2 ≤ H) (hH2 : H ≤ 16) (hW3 : W % 2 = 0) (hH3 : H % 2 = 0) (l : Launch) : CT l G yX8_moved cX8_moved 2 (some .int) { frames := 5, cells := 0, slots := 0, locals := 120 } [.ref x, .int (nI 2)] [(x, .inr (8, [.ref nw, .ref tk, .int (bI itk), .ref ch, .ref ah, .ref th, .ref tp, .ref wt, .ref rows])), (nw, .inr (7, [.ref g, .ref ru, .ref se, .ref ev])), (g, .inr (1, [.int (nI W), .int (nI H), .int t, .ref b])), (b, ia G 16 f), (ru, .inr (3, [.ref rn, .ref rf])), (rn, ia G 16 (fun ι => nI (p ι))), (rf, ia G 16 (fun ι => nI (q ι))), (ah, .inr (0, [.int ms, .int mc, .int mr, .ref ag, .ref ar, .ref ur, .int un])), (ag, .inr (1, [.int (nI aW), .int (nI aH), .int at_, .ref ab])), (ab, ia G 16 af)] (fun vv ww => ∃ (ms2 mc2 mr2 : Int32) (aW2 aH2 : Nat) (at2 : Int32) (af2 : Nat → Int32), vv = some (.int (mvR (mvS W H p t f) 2)) ∧ ww = [(x, .inr (8, [.ref nw, .ref tk, .int (bI itk), .ref ch, .ref ah, .ref th, .ref tp, .ref wt, .ref rows])), (nw, .inr (7, [.ref g, .ref ru, .ref se, .ref ev])), (g, .inr (1, [.int (nI W), .int (nI H), .int t, .ref b])), (b, ia G 16 f), (ru, .inr (3, [.ref rn, .ref rf])), (rn, ia G 16 (fun ι => nI (p ι))), (rf, ia G 16 (fun ι => nI (q ι))), (ah, .inr (0, [.int ms2, .int mc2, .int mr2, .ref ag, .ref ar, .ref ur, .int un])), (ag, .inr (1, [.int (nI aW2), .int (nI aH2), .int at2, .ref ab])), (ab, ia G 16 af2)]) := by
  refine CT.of (lv := [(0, .ref x), (1, .int (nI 2))]) RX8 "moved" rfl rfl (by decide +kernel) (Nat.le_of_ble_eq_true rfl) rfl (fun X hX hR => ?_)
  refine j_iload_n (pc := 0) hX dX8_moved_0 1 rfl ?_
  refine j_if_lt (pc := 1) (tgt := 9) hX dX8_moved_1 (by decide) (nI_toInt (n := 2) (by decide)) (fun c1 => absurd c1 (by decide)) (fun c1 => ?_)
  refine j_iload_n (pc := 4) hX dX8_moved_4 1 rfl ?_
  refine j_iconstN (pc := 5) (j := 2) hX dX8_moved_5 rfl ?_
  refine j_icmp_le (pc := 6) (tgt := 11) hX dX8_moved_6 (by decide) (nI_toInt (n := 2) (by decide)) (nI_toInt (n := 2) (by decide)) (fun c6 => ?_) (fun c6 => absurd c6 (by decide))
  refine j_aload_n (pc := 11) hX dX8_moved_11 0 rfl ?_
  refine j_get (pc := 12) hX f_RX8_37 0 rfl rfl dX8_moved_12 ?_
  refine j_aload_n (pc := 15) hX dX8_moved_15 0 rfl ?_
  refine j_get (pc := 16) hX f_RX8_12 0 rfl rfl dX8_moved_16 ?_
  refine j_getR (pc := 19) hX f_RX8_69 1 rfl rfl dX8_moved_19 ?_
  refine j_aload_n (pc := 22) hX dX8_moved_22 0 rfl ?_
  refine j_get (pc := 23) hX f_RX8_12 0 rfl rfl dX8_moved_23 ?_
  refine j_getR (pc := 26) hX f_RX8_148 1 rfl rfl dX8_moved_26 ?_
  refine j_callV (pc := 29) hX kX0_findMove kVX0_findMove l_RX8_196 (fun l => c_X0_findMove G ah ms mc mr ag ar ur un aW aH at_ ab af g W H t b f ru rn rf p q (by omega) (by omega) (by omega) (by omega) (by omega) (by omega) l) [7, 8, 9, 2, 3, 4, 5, 6] [0, 1] [] rfl 0 0 rfl rfl rfl rfl rfl rfl ⟨rfl, rfl, by decide⟩ rfl rfl (Nat.le_of_ble_eq_true rfl) dX8_moved_29 (fun v w hq => ?_)
  obtain ⟨ms2_29, mc2_29, mr2_29, aW2_29, aH2_29, at2_29, af2_29, rfl, rfl, h29_0⟩ := hq
  refine j_ws [0, 1, 5, 6, 7, 8, 9, 2, 3, 4] (ws' := [(x, .inr (8, [.ref nw, .ref tk, .int (bI itk), .ref ch, .ref ah, .ref th, .ref tp, .ref wt, .ref rows])), (nw, .inr (7, [.ref g, .ref ru, .ref se, .ref ev])), (g, .inr (1, [.int (nI W), .int (nI H), .int t, .ref b])), (b, ia G 16 f), (ru, .inr (3, [.ref rn, .ref rf])), (rn, ia G 16 (fun ι => nI (p ι))), (rf, ia G 16 (fun ι => nI (q ι))), (ah, .inr (0, [.int ms2_29, .int mc2_29, .int mr2_29, .ref ag, .ref ar, .ref ur, .int un])), (ag, .inr (1, [.int (nI aW2_29), .int (nI aH2_29), .int at2_29, .ref ab])), (ab, ia G 16 af2_29)]) rfl rfl ?_
  refine j_ifB_ne (pc := 32) (tgt := 38) hX dX8_moved_32 (by decide) (fun c32 => ?_) (fun c32 => ?_)
  · skip
    refine j_iload_n (pc := 38) hX dX8_moved_38 1 rfl ?_
    refine j_lookup (pc := 39) (off := 41) (tgt := 80) hX dX8_moved_39 rfl (by decide) (by decide) ?_
    refine j_aload_n (pc := 80) hX dX8_moved_80 0 rfl ?_
    refine j_get (pc := 81) hX f_RX8_37 0 rfl rfl dX8_moved_81 ?_
    refine j_get (pc := 84) hX f_RX8_206 7 rfl rfl dX8_moved_84 ?_
    obtain ⟨⟨mn, mx, my⟩, hd⟩ := Option.isSome_iff_exists.mp c32
    obtain ⟨e1, e2, e3⟩ := h29_0 _ _ _ hd
    exact j_iret (pc := 87) hX hR dX8_moved_87 ⟨ms2_29, mc2_29, mr2_29, aW2_29, aH2_29, at2_29, af2_29, congrArg some (show Value.int mr2_29 = Value.int (mvR (mvS W H p t f) 2) from by rw [hd, e3]; rfl), rfl⟩
  · skip
    refine j_bipush (pc := 35) (v := (-5)) hX dX8_moved_35 (by decide) ?_
    exact j_iret (pc := 37) hX hR dX8_moved_37 ⟨ms2_29, mc2_29, mr2_29, aW2_29, aH2_29, at2_29, af2_29, congrArg some (show Value.int (-5) = Value.int (mvR (mvS W H p t f) 2) from by rw [show mvS W H p t f = none from Option.isNone_iff_eq_none.mp (Option.isSome_eq_false_iff.mp c32)]; rfl), rfl⟩
set_option maxHeartbeats 4000000 in
set_option maxRecDepth 100000 in
theorem c_X8_unlike_bad (G : GT) (x : Nat) (nw : Nat) (tk : Nat) (itk : Bool) (ch : Nat) (ah : Nat) (th : Nat) (tp : Nat) (wt : Nat) (rows : Nat) (w : Int32) (hb : w.toInt < 0 ∨ 64 < w.toInt) (l : Launch) : CT l G yX8_unlike cX8_unlike 2 (some .int) { frames := 5, cells := 0, slots := 0, locals := 121 } [.ref x, .int w] [(x, .inr (8, [.ref nw, .ref tk, .int (bI itk), .ref ch, .ref ah, .ref th, .ref tp, .ref wt, .ref rows]))] (fun vv ww => vv = some (.int (-2)) ∧ ww = [(x, .inr (8, [.ref nw, .ref tk, .int (bI itk), .ref ch, .ref ah, .ref th, .ref tp, .ref wt, .ref rows]))]) := by
  refine CT.of (lv := [(0, .ref x), (1, .int w)]) RX8 "unlike" rfl rfl (by decide +kernel) (Nat.le_of_ble_eq_true rfl) rfl (fun X hX hR => ?_)
  refine j_iload_n (pc := 0) hX dX8_unlike_0 1 rfl ?_
  refine j_if_lt (pc := 1) (tgt := 10) hX dX8_unlike_1 (by decide) rfl (fun c1 => ?_) (fun c1 => ?_)
  · skip
    refine j_bipush (pc := 10) (v := (-2)) hX dX8_unlike_10 (by decide) ?_
    exact j_iret (pc := 12) hX hR dX8_unlike_12 ⟨rfl, rfl⟩
  · skip
    refine j_iload_n (pc := 4) hX dX8_unlike_4 1 rfl ?_
    refine j_bipush (pc := 5) (v := nI 64) hX dX8_unlike_5 (by decide) ?_
    refine j_icmp_le (pc := 7) (tgt := 13) hX dX8_unlike_7 (by decide) rfl (nI_toInt (n := 64) (by decide)) (fun c7 => by exfalso; omega) (fun c7 => ?_)
    refine j_bipush (pc := 10) (v := (-2)) hX dX8_unlike_10 (by decide) ?_
    exact j_iret (pc := 12) hX hR dX8_unlike_12 ⟨rfl, rfl⟩
set_option maxHeartbeats 4000000 in
set_option maxRecDepth 100000 in
theorem c_X8_unlike_ok (G : GT) (x : Nat) (nw : Nat) (tk : Nat) (itk : Bool) (ch : Nat) (ah : Nat) (th : Nat) (tp : Nat) (wt : Nat) (rows : Nat) (g : Nat) (ru : Nat) (se : Nat) (ev : Nat) (W : Nat) (H : Nat) (t : Int32) (b : Nat) (f : Nat → Int32) (rn : Nat) (rf : Nat) (p : Nat → Nat) (q : Nat → Nat) (ms : Int32) (mc : Int32) (mr : Int32) (ag : Nat) (ar : Nat) (ur : Nat) (un : Int32) (aW : Nat) (aH : Nat) (at_ : Int32) (ab : Nat) (af : Nat → Int32) (uf : Nat → Int32) (n : Nat) (hW1 : 2 ≤ W) (hW2 : W ≤ 16) (hH1 : 2 ≤ H) (hH2 : H ≤ 16) (hW3 : W % 2 = 0) (hH3 : H % 2 = 0) (hn : n ≤ 64) (l : Launch) : CT l G yX8_unlike cX8_unlike 2 (some .int) { frames := 5, cells := 0, slots := 0, locals := 121 } [.ref x, .int (nI n)] [(x, .inr (8, [.ref nw, .ref tk, .int (bI itk), .ref ch, .ref ah, .ref th, .ref tp, .ref wt, .ref rows])), (nw, .inr (7, [.ref g, .ref ru, .ref se, .ref ev])), (g, .inr (1, [.int (nI W), .int (nI H), .int t, .ref b])), (b, ia G 16 f), (ru, .inr (3, [.ref rn, .ref rf])), (rn, ia G 16 (fun ι => nI (p ι))), (rf, ia G 16 (fun ι => nI (q ι))), (ah, .inr (0, [.int ms, .int mc, .int mr, .ref ag, .ref ar, .ref ur, .int un])), (ag, .inr (1, [.int (nI aW), .int (nI aH), .int at_, .ref ab])), (ab, ia G 16 af), (ur, ia G 1040 uf)] (fun vv ww => ∃ (un2 : Int32) (aW2 aH2 : Nat) (at2 : Int32) (af2 : Nat → Int32) (uf2 : Nat → Int32), vv = some (.int (nI ((unS H (fun j => gF W H p t j f) n).1))) ∧ ww = [(x, .inr (8, [.ref nw, .ref tk, .int (bI itk), .ref ch, .ref ah, .ref th, .ref tp, .ref wt, .ref rows])), (nw, .inr (7, [.ref g, .ref ru, .ref se, .ref ev])), (g, .inr (1, [.int (nI W), .int (nI H), .int t, .ref b])), (b, ia G 16 f), (ru, .inr (3, [.ref rn, .ref rf])), (rn, ia G 16 (fun ι => nI (p ι))), (rf, ia G 16 (fun ι => nI (q ι))), (ah, .inr (0, [.int ms, .int mc, .int mr, .ref ag, .ref ar, .ref ur, .int un2])), (ag, .inr (1, [.int (nI aW2), .int (nI aH2), .int at2, .ref ab])), (ab, ia G 16 af2), (ur, ia G 1040 uf2)]) := by
  refine CT.of (lv := [(0, .ref x), (1, .int (nI n))]) RX8 "unlike" rfl rfl (by decide +kernel) (Nat.le_of_ble_eq_true rfl) rfl (fun X hX hR => ?_)
  refine j_iload_n (pc := 0) hX dX8_unlike_0 1 rfl ?_
  refine j_if_lt (pc := 1) (tgt := 10) hX dX8_unlike_1 (by decide) (nI_toInt (n := n) (by omega)) (fun c1 => by exfalso; omega) (fun c1 => ?_)
  refine j_iload_n (pc := 4) hX dX8_unlike_4 1 rfl ?_
  refine j_bipush (pc := 5) (v := nI 64) hX dX8_unlike_5 (by decide) ?_
  refine j_icmp_le (pc := 7) (tgt := 13) hX dX8_unlike_7 (by decide) (nI_toInt (n := n) (by omega)) (nI_toInt (n := 64) (by decide)) (fun c7 => ?_) (fun c7 => by exfalso; omega)
  refine j_aload_n (pc := 13) hX dX8_unlike_13 0 rfl ?_
  refine j_get (pc := 14) hX f_RX8_37 0 rfl rfl dX8_unlike_14 ?_
  refine j_aload_n (pc := 17) hX dX8_unlike_17 0 rfl ?_
  refine j_get (pc := 18) hX f_RX8_12 0 rfl rfl dX8_unlike_18 ?_
  refine j_getR (pc := 21) hX f_RX8_69 1 rfl rfl dX8_unlike_21 ?_
  refine j_aload_n (pc := 24) hX dX8_unlike_24 0 rfl ?_
  refine j_get (pc := 25) hX f_RX8_12 0 rfl rfl dX8_unlike_25 ?_
  refine j_getR (pc := 28) hX f_RX8_148 1 rfl rfl dX8_unlike_28 ?_
  refine j_iload_n (pc := 31) hX dX8_unlike_31 1 rfl ?_
  refine j_callV (pc := 32) hX kX0_unlikeGrids kVX0_unlikeGrids l_RX8_209 (fun l => c_X0_unlikeGrids G ah ms mc mr ag ar ur un aW aH at_ ab af uf g W H t b f ru rn rf p q n (by omega) (by omega) (by omega) (by omega) (by omega) (by omega) (by omega) l) [7, 8, 9, 10, 2, 3, 4, 5, 6] [0, 1] [] rfl 0 0 rfl rfl rfl rfl rfl rfl ⟨rfl, rfl, by decide⟩ rfl rfl (Nat.le_of_ble_eq_true rfl) dX8_unlike_32 (fun v w hq => ?_)
  obtain ⟨un2_32, aW2_32, aH2_32, at2_32, af2_32, uf2_32, rfl, rfl⟩ := hq
  refine j_ws [0, 1, 6, 7, 8, 9, 10, 2, 3, 4, 5] (ws' := [(x, .inr (8, [.ref nw, .ref tk, .int (bI itk), .ref ch, .ref ah, .ref th, .ref tp, .ref wt, .ref rows])), (nw, .inr (7, [.ref g, .ref ru, .ref se, .ref ev])), (g, .inr (1, [.int (nI W), .int (nI H), .int t, .ref b])), (b, ia G 16 f), (ru, .inr (3, [.ref rn, .ref rf])), (rn, ia G 16 (fun ι => nI (p ι))), (rf, ia G 16 (fun ι => nI (q ι))), (ah, .inr (0, [.int ms, .int mc, .int mr, .ref ag, .ref ar, .ref ur, .int un2_32])), (ag, .inr (1, [.int (nI aW2_32), .int (nI aH2_32), .int at2_32, .ref ab])), (ab, ia G 16 af2_32), (ur, ia G 1040 uf2_32)]) rfl rfl ?_
  exact j_iret (pc := 35) hX hR dX8_unlike_35 ⟨un2_32, aW2_32, aH2_32, at2_32, af2_32, uf2_32, rfl, rfl⟩
set_option maxHeartbeats 4000000 in
set_option maxRecDepth 100000 in
theorem c_X8_feed_bad (G : GT) (x : Nat) (nw : Nat) (tk : Nat) (itk : Bool) (ch : Nat) (ah : Nat) (th : Nat) (tp : Nat) (wt : Nat) (rows : Nat) (v : Int32) (hb : v.toInt < 1 ∨ 127 < v.toInt) (l : Launch) : CT l G yX8_feed cX8_feed 2 (some .int) { frames := 2, cells := 0, slots := 0, locals := 43 } [.ref x, .int v] [(x, .inr (8, [.ref nw, .ref tk, .int (bI itk), .ref ch, .ref ah, .ref th, .ref tp, .ref wt, .ref rows]))] (fun vv ww => vv = some (.int (-2)) ∧ ww = [(x, .inr (8, [.ref nw, .ref tk, .int (bI itk), .ref ch, .ref ah, .ref th, .ref tp, .ref wt, .ref rows]))]) := by
  refine CT.of (lv := [(0, .ref x), (1, .int v)]) RX8 "feed" rfl rfl (by decide +kernel) (Nat.le_of_ble_eq_true rfl) rfl (fun X hX hR => ?_)
  refine j_iload_n (pc := 0) hX dX8_feed_0 1 rfl ?_
  refine j_iconstN (pc := 1) (j := 1) hX dX8_feed_1 rfl ?_
  refine j_icmp_lt (pc := 2) (tgt := 11) hX dX8_feed_2 (by decide) rfl (nI_toInt (n := 1) (by decide)) (fun c2 => ?_) (fun c2 => ?_)
  · skip
    refine j_bipush (pc := 11) (v := (-2)) hX dX8_feed_11 (by decide) ?_
    exact j_iret (pc := 13) hX hR dX8_feed_13 ⟨rfl, rfl⟩
  · skip
    refine j_iload_n (pc := 5) hX dX8_feed_5 1 rfl ?_
    refine j_bipush (pc := 6) (v := nI 127) hX dX8_feed_6 (by decide) ?_
    refine j_icmp_le (pc := 8) (tgt := 14) hX dX8_feed_8 (by decide) rfl (nI_toInt (n := 127) (by decide)) (fun c8 => by exfalso; omega) (fun c8 => ?_)
    refine j_bipush (pc := 11) (v := (-2)) hX dX8_feed_11 (by decide) ?_
    exact j_iret (pc := 13) hX hR dX8_feed_13 ⟨rfl, rfl⟩
set_option maxHeartbeats 4000000 in
set_option maxRecDepth 100000 in
theorem c_X8_feed_full (G : GT) (x : Nat) (nw : Nat) (tk : Nat) (itk : Bool) (ch : Nat) (ah : Nat) (th : Nat) (tp : Nat) (wt : Nat) (rows : Nat) (tn : Nat) (tl : Nat) (ts : Nat → Int32) (v : Int32) (hv : 1 ≤ v.toInt ∧ v.toInt ≤ 127) (hn : tn = 300) (l : Launch) : CT l G yX8_feed cX8_feed 2 (some .int) { frames := 2, cells := 0, slots := 0, locals := 43 } [.ref x, .int v] [(x, .inr (8, [.ref nw, .ref tk, .int (bI itk), .ref ch, .ref ah, .ref th, .ref tp, .ref wt, .ref rows])), (tp, .inr (5, [.int (nI tn), .ref tl])), (tl, ia G 300 ts)] (fun vv ww => vv = some (.int (-4)) ∧ ww = [(x, .inr (8, [.ref nw, .ref tk, .int (bI itk), .ref ch, .ref ah, .ref th, .ref tp, .ref wt, .ref rows])), (tp, .inr (5, [.int (nI tn), .ref tl])), (tl, ia G 300 ts)]) := by
  refine CT.of (lv := [(0, .ref x), (1, .int v)]) RX8 "feed" rfl rfl (by decide +kernel) (Nat.le_of_ble_eq_true rfl) rfl (fun X hX hR => ?_)
  refine j_iload_n (pc := 0) hX dX8_feed_0 1 rfl ?_
  refine j_iconstN (pc := 1) (j := 1) hX dX8_feed_1 rfl ?_
  refine j_icmp_lt (pc := 2) (tgt := 11) hX dX8_feed_2 (by decide) rfl (nI_toInt (n := 1) (by decide)) (fun c2 => by exfalso; omega) (fun c2 => ?_)
  refine j_iload_n (pc := 5) hX dX8_feed_5 1 rfl ?_
  refine j_bipush (pc := 6) (v := nI 127) hX dX8_feed_6 (by decide) ?_
  refine j_icmp_le (pc := 8) (tgt := 14) hX dX8_feed_8 (by decide) rfl (nI_toInt (n := 127) (by decide)) (fun c8 => ?_) (fun c8 => by exfalso; omega)
  refine j_aload_n (pc := 14) hX dX8_feed_14 0 rfl ?_
  refine j_get (pc := 15) hX f_RX8_51 0 rfl rfl dX8_feed_15 ?_
  refine j_callV (pc := 18) hX kX5_isFull kVX5_isFull l_RX8_231 (fun l => c_X5_isFull G tp tl 300 tn ts (by omega) (by omega) l) [1, 2] [0] [] rfl 0 5 rfl rfl rfl rfl rfl rfl ⟨rfl, rfl, by decide⟩ rfl rfl (Nat.le_of_ble_eq_true rfl) dX8_feed_18 (fun v w hq => ?_)
  obtain ⟨rfl, rfl⟩ := hq
  refine j_ws [0, 1, 2] (ws' := [(x, .inr (8, [.ref nw, .ref tk, .int (bI itk), .ref ch, .ref ah, .ref th, .ref tp, .ref wt, .ref rows])), (tp, .inr (5, [.int (nI tn), .ref tl])), (tl, ia G 300 ts)]) rfl rfl ?_
  refine j_ifB_eq (pc := 21) (tgt := 27) hX dX8_feed_21 (by decide) (fun c21 => by have := of_decide_eq_false c21; omega) (fun c21 => ?_)
  refine j_bipush (pc := 24) (v := (-4)) hX dX8_feed_24 (by decide) ?_
  exact j_iret (pc := 26) hX hR dX8_feed_26 ⟨rfl, rfl⟩
set_option maxHeartbeats 4000000 in
set_option maxRecDepth 100000 in
theorem c_X8_feed_ok (G : GT) (x : Nat) (nw : Nat) (tk : Nat) (itk : Bool) (ch : Nat) (ah : Nat) (th : Nat) (tp : Nat) (wt : Nat) (rows : Nat) (tn : Nat) (tl : Nat) (ts : Nat → Int32) (v : Int32) (hv : 1 ≤ v.toInt ∧ v.toInt ≤ 127) (hn : tn < 300) (l : Launch) : CT l G yX8_feed cX8_feed 2 (some .int) { frames := 2, cells := 0, slots := 0, locals := 43 } [.ref x, .int v] [(x, .inr (8, [.ref nw, .ref tk, .int (bI itk), .ref ch, .ref ah, .ref th, .ref tp, .ref wt, .ref rows])), (tp, .inr (5, [.int (nI tn), .ref tl])), (tl, ia G 300 ts)] (fun vv ww => vv = some (.int (nI (tn + 1))) ∧ ww = [(x, .inr (8, [.ref nw, .ref tk, .int (bI itk), .ref ch, .ref ah, .ref th, .ref tp, .ref wt, .ref rows])), (tp, .inr (5, [.int (nI (tn + 1)), .ref tl])), (tl, ia G 300 (upd ts tn v))]) := by
  refine CT.of (lv := [(0, .ref x), (1, .int v)]) RX8 "feed" rfl rfl (by decide +kernel) (Nat.le_of_ble_eq_true rfl) rfl (fun X hX hR => ?_)
  refine j_iload_n (pc := 0) hX dX8_feed_0 1 rfl ?_
  refine j_iconstN (pc := 1) (j := 1) hX dX8_feed_1 rfl ?_
  refine j_icmp_lt (pc := 2) (tgt := 11) hX dX8_feed_2 (by decide) rfl (nI_toInt (n := 1) (by decide)) (fun c2 => by exfalso; omega) (fun c2 => ?_)
  refine j_iload_n (pc := 5) hX dX8_feed_5 1 rfl ?_
  refine j_bipush (pc := 6) (v := nI 127) hX dX8_feed_6 (by decide) ?_
  refine j_icmp_le (pc := 8) (tgt := 14) hX dX8_feed_8 (by decide) rfl (nI_toInt (n := 127) (by decide)) (fun c8 => ?_) (fun c8 => by exfalso; omega)
  refine j_aload_n (pc := 14) hX dX8_feed_14 0 rfl ?_
  refine j_get (pc := 15) hX f_RX8_51 0 rfl rfl dX8_feed_15 ?_
  refine j_callV (pc := 18) hX kX5_isFull kVX5_isFull l_RX8_231 (fun l => c_X5_isFull G tp tl 300 tn ts (by omega) (by omega) l) [1, 2] [0] [] rfl 0 5 rfl rfl rfl rfl rfl rfl ⟨rfl, rfl, by decide⟩ rfl rfl (Nat.le_of_ble_eq_true rfl) dX8_feed_18 (fun v w hq => ?_)
  obtain ⟨rfl, rfl⟩ := hq
  refine j_ws [0, 1, 2] (ws' := [(x, .inr (8, [.ref nw, .ref tk, .int (bI itk), .ref ch, .ref ah, .ref th, .ref tp, .ref wt, .ref rows])), (tp, .inr (5, [.int (nI tn), .ref tl])), (tl, ia G 300 ts)]) rfl rfl ?_
  refine j_ifB_eq (pc := 21) (tgt := 27) hX dX8_feed_21 (by decide) (fun c21 => ?_) (fun c21 => by have := of_decide_eq_true c21; omega)
  refine j_aload_n (pc := 27) hX dX8_feed_27 0 rfl ?_
  refine j_get (pc := 28) hX f_RX8_51 0 rfl rfl dX8_feed_28 ?_
  refine j_iload_n (pc := 31) hX dX8_feed_31 1 rfl ?_
  refine j_callV (pc := 32) hX kX5_add kVX5_add l_RX8_232 (fun l => c_X5_add G tp tl 300 tn ts v (by omega) (by omega) l) [1, 2] [0] [] rfl 0 5 rfl rfl rfl rfl rfl rfl ⟨rfl, rfl, by decide⟩ rfl rfl (Nat.le_of_ble_eq_true rfl) dX8_feed_32 (fun v w hq => ?_)
  obtain ⟨rfl, rfl⟩ := hq
  refine j_ws [0, 1, 2] (ws' := [(x, .inr (8, [.ref nw, .ref tk, .int (bI itk), .ref ch, .ref ah, .ref th, .ref tp, .ref wt, .ref rows])), (tp, .inr (5, [.int (nI (tn + 1)), .ref tl])), (tl, ia G 300 (upd ts tn v))]) rfl rfl ?_
  refine j_aload_n (pc := 35) hX dX8_feed_35 0 rfl ?_
  refine j_get (pc := 36) hX f_RX8_51 0 rfl rfl dX8_feed_36 ?_
  refine j_get (pc := 39) hX f_RX8_234 1 rfl rfl dX8_feed_39 ?_
  exact j_iret (pc := 42) hX hR dX8_feed_42 ⟨rfl, rfl⟩
set_option maxHeartbeats 4000000 in
set_option maxRecDepth 100000 in
theorem c_X8_spell (G : GT) (x : Nat) (nw : Nat) (tk : Nat) (itk : Bool) (ch : Nat) (ah : Nat) (th : Nat) (tp : Nat) (wt : Nat) (rows : Nat) (g : Nat) (ru : Nat) (se : Nat) (ev : Nat) (W : Nat) (H : Nat) (t : Int32) (b : Nat) (f : Nat → Int32) (pn : Nat) (pl : Nat) (ps : Nat → Int32) (hW1 : 2 ≤ W) (hW2 : W ≤ 16) (hH1 : 2 ≤ H) (hH2 : H ≤ 16) (l : Launch) : CT l G yX8_spell cX8_spell 4 (some .int) { frames := 2, cells := 0, slots := 0, locals := 44 } [.ref x] [(x, .inr (8, [.ref nw, .ref tk, .int (bI itk), .ref ch, .ref ah, .ref th, .ref tp, .ref wt, .ref rows])), (nw, .inr (7, [.ref g, .ref ru, .ref se, .ref ev])), (g, .inr (1, [.int (nI W), .int (nI H), .int t, .ref b])), (b, ia G 16 f), (wt, .inr (5, [.int (nI pn), .ref pl])), (pl, ia G 271 ps)] (fun vv ww => vv = some (.int (nI ((spY W f ps H).1))) ∧ ww = [(x, .inr (8, [.ref nw, .ref tk, .int (bI itk), .ref ch, .ref ah, .ref th, .ref tp, .ref wt, .ref rows])), (nw, .inr (7, [.ref g, .ref ru, .ref se, .ref ev])), (g, .inr (1, [.int (nI W), .int (nI H), .int t, .ref b])), (b, ia G 16 f), (wt, .inr (5, [.int (nI ((spY W f ps H).1)), .ref pl])), (pl, ia G 271 ((spY W f ps H).2))]) := by
  refine CT.of (lv := [(0, .ref x)]) RX8 "spell" rfl rfl (by decide +kernel) (Nat.le_of_ble_eq_true rfl) rfl (fun X hX hR => ?_)
  refine j_aload_n (pc := 0) hX dX8_spell_0 0 rfl ?_
  refine j_get (pc := 1) hX f_RX8_12 0 rfl rfl dX8_spell_1 ?_
  refine j_getR (pc := 4) hX f_RX8_69 1 rfl rfl dX8_spell_4 ?_
  refine j_astore_n (pc := 7) (lv' := [(1, .ref g), (0, .ref x)]) hX dX8_spell_7 (by decide) rfl ?_
  refine j_aload_n (pc := 8) hX dX8_spell_8 1 rfl ?_
  refine j_get (pc := 9) hX f_RX8_55 0 rfl rfl dX8_spell_9 ?_
  refine j_callV (pc := 12) hX kX5_empty kVX5_empty l_RX8_238 (fun l => c_X5_empty G wt pl 271 pn ps  l) [4, 5] [0, 1, 2, 3] [] rfl 0 5 rfl rfl rfl rfl rfl rfl ⟨rfl, rfl, by decide⟩ rfl rfl (Nat.le_of_ble_eq_true rfl) dX8_spell_12 (fun v w hq => ?_)
  obtain ⟨rfl, rfl⟩ := hq
  refine j_ws [0, 1, 2, 3, 4, 5] (ws' := [(x, .inr (8, [.ref nw, .ref tk, .int (bI itk), .ref ch, .ref ah, .ref th, .ref tp, .ref wt, .ref rows])), (nw, .inr (7, [.ref g, .ref ru, .ref se, .ref ev])), (g, .inr (1, [.int (nI W), .int (nI H), .int t, .ref b])), (b, ia G 16 f), (wt, .inr (5, [.int (nI 0), .ref pl])), (pl, ia G 271 ps)]) rfl rfl ?_
  refine j_iconstN (pc := 15) (j := 0) hX dX8_spell_15 rfl ?_
  refine j_istore_n (pc := 16) (lv' := [(2, .int (nI 0)), (1, .ref g), (0, .ref x)]) hX dX8_spell_16 (by decide) rfl ?_
  have L17 : ∀ (m17 : Nat) (y n : Nat) (s3 : Nat → Int32) (hy : y ≤ H) (h3 : (n, s3) = spY W f ps y) (hn : n = y * W + (y - 1)), H - y < m17 → J X G 4 0 0 [(x, .inr (8, [.ref nw, .ref tk, .int (bI itk), .ref ch, .ref ah, .ref th, .ref tp, .ref wt, .ref rows])), (nw, .inr (7, [.ref g, .ref ru, .ref se, .ref ev])), (g, .inr (1, [.int (nI W), .int (nI H), .int t, .ref b])), (b, ia G 16 f), (wt, .inr (5, [.int (nI n), .ref pl])), (pl, ia G 271 s3)] [(0, .ref x), (1, .ref g), (2, .int (nI y))] 17 [] := by
    intro m17
    induction m17 with
    | zero => intro y n s3 hy h3 hn hm17; exact absurd hm17 (Nat.not_lt_zero _)
    | succ m17 ih17 =>
      intro y n s3 hy h3 hn hm17
      refine j_iload_n (pc := 17) hX dX8_spell_17 2 rfl ?_
      refine j_aload_n (pc := 18) hX dX8_spell_18 1 rfl ?_
      refine j_get (pc := 19) hX f_RX8_79 2 rfl rfl dX8_spell_19 ?_
      refine j_icmp_ge (pc := 22) (tgt := 84) hX dX8_spell_22 (by decide) (nI_toInt (n := y) (by omega)) (nI_toInt (n := H) (by omega)) (fun c22 => ?_) (fun c22 => ?_)
      · skip
        refine j_aload_n (pc := 84) hX dX8_spell_84 0 rfl ?_
        refine j_get (pc := 85) hX f_RX8_55 0 rfl rfl dX8_spell_85 ?_
        refine j_get (pc := 88) hX f_RX8_234 4 rfl rfl dX8_spell_88 ?_
        have hyH : y = H := by omega
        refine j_ia (q0 := 5) (f := s3) (g := (spY W f ps H).2) rfl (fun z hz => by rw [← hyH, ← h3]) (ws' := [(x, .inr (8, [.ref nw, .ref tk, .int (bI itk), .ref ch, .ref ah, .ref th, .ref tp, .ref wt, .ref rows])), (nw, .inr (7, [.ref g, .ref ru, .ref se, .ref ev])), (g, .inr (1, [.int (nI W), .int (nI H), .int t, .ref b])), (b, ia G 16 f), (wt, .inr (5, [.int (nI n), .ref pl])), (pl, ia G 271 ((spY W f ps H).2))]) rfl ?_
        refine j_eqw (ws' := [(x, .inr (8, [.ref nw, .ref tk, .int (bI itk), .ref ch, .ref ah, .ref th, .ref tp, .ref wt, .ref rows])), (nw, .inr (7, [.ref g, .ref ru, .ref se, .ref ev])), (g, .inr (1, [.int (nI W), .int (nI H), .int t, .ref b])), (b, ia G 16 f), (wt, .inr (5, [.int (nI ((spY W f ps H).1)), .ref pl])), (pl, ia G 271 ((spY W f ps H).2))]) (congrArg (fun ζ : Int32 => ([(x, .inr (8, [.ref nw, .ref tk, .int (bI itk), .ref ch, .ref ah, .ref th, .ref tp, .ref wt, .ref rows])), (nw, .inr (7, [.ref g, .ref ru, .ref se, .ref ev])), (g, .inr (1, [.int (nI W), .int (nI H), .int t, .ref b])), (b, ia G 16 f), (wt, .inr (5, [.int ζ, .ref pl])), (pl, ia G 271 ((spY W f ps H).2))] : va_W)) (show nI n = nI ((spY W f ps H).1) from by rw [← hyH, ← h3])) ?_
        exact j_iret (pc := 91) hX hR dX8_spell_91 ⟨congrArg some (show Value.int (nI n) = Value.int (nI ((spY W f ps H).1)) from by rw [← hyH, ← h3]), rfl⟩
      · skip
        have hyw : y * W ≤ 15 * 16 := Nat.mul_le_mul (by omega) hW2
        refine j_iload_n (pc := 25) hX dX8_spell_25 2 rfl ?_
        refine j_if_le (pc := 26) (tgt := 38) hX dX8_spell_26 (by decide) (nI_toInt (n := y) (by omega)) (fun c26 => ?_) (fun c26 => ?_)
        · skip
          refine j_iconstN (pc := 38) (j := 0) hX dX8_spell_38 rfl ?_
          refine j_istore_n (pc := 39) (lv' := [(3, .int (nI 0)), (0, .ref x), (1, .ref g), (2, .int (nI y))]) hX dX8_spell_39 (by decide) rfl ?_
          have L40 : ∀ (m40 : Nat) (xx n4 : Nat) (s4 : Nat → Int32) (hxx : xx ≤ W) (h4 : (n4, s4) = spX f y xx (spS y (n, s3))) (hn4 : n4 = y * W + y + xx), W - xx < m40 → J X G 4 0 0 [(x, .inr (8, [.ref nw, .ref tk, .int (bI itk), .ref ch, .ref ah, .ref th, .ref tp, .ref wt, .ref rows])), (nw, .inr (7, [.ref g, .ref ru, .ref se, .ref ev])), (g, .inr (1, [.int (nI W), .int (nI H), .int t, .ref b])), (b, ia G 16 f), (wt, .inr (5, [.int (nI n4), .ref pl])), (pl, ia G 271 s4)] [(0, .ref x), (1, .ref g), (2, .int (nI y)), (3, .int (nI xx))] 40 [] := by
            intro m40
            induction m40 with
            | zero => intro xx n4 s4 hxx h4 hn4 hm40; exact absurd hm40 (Nat.not_lt_zero _)
            | succ m40 ih40 =>
              intro xx n4 s4 hxx h4 hn4 hm40
              refine j_iload_n (pc := 40) hX dX8_spell_40 3 rfl ?_
              refine j_aload_n (pc := 41) hX dX8_spell_41 1 rfl ?_
              refine j_get (pc := 42) hX f_RX8_73 2 rfl rfl dX8_spell_42 ?_
              refine j_icmp_ge (pc := 45) (tgt := 78) hX dX8_spell_45 (by decide) (nI_toInt (n := xx) (by omega)) (nI_toInt (n := W) (by omega)) (fun c45 => ?_) (fun c45 => ?_)
              · skip
                refine j_iinc (pc := 78) (q := 2) (v := nI (y + 1)) (lv' := [(2, .int (nI (y + 1))), (0, .ref x), (1, .ref g), (3, .int (nI xx))]) hX dX8_spell_78 rfl (nI_inc _ 1) (by decide) rfl ?_
                refine j_goto (pc := 81) (tgt := 17) hX dX8_spell_81 (by decide) ?_
                refine j_lv [1, 2, 0] (lv' := [(0, .ref x), (1, .ref g), (2, .int (nI (y + 1)))]) rfl ?_
                exact ih17 (y + 1) n4 s4 (by omega) (by rw [h4, show xx = W from by omega]; show spX f y W (spS y (n, s3)) = spX f y W (spS y (spY W f ps y)); rw [h3]) (by rw [Nat.succ_mul]; omega) (by omega)
              · skip
                refine j_aload_n (pc := 48) hX dX8_spell_48 0 rfl ?_
                refine j_get (pc := 49) hX f_RX8_55 0 rfl rfl dX8_spell_49 ?_
                refine j_aload_n (pc := 52) hX dX8_spell_52 1 rfl ?_
                refine j_iload_n (pc := 53) hX dX8_spell_53 3 rfl ?_
                refine j_iload_n (pc := 54) hX dX8_spell_54 2 rfl ?_
                refine j_callV (pc := 55) hX kX1_cellAt kVX1_cellAt l_RX8_110 (fun l => c_X1_cellAt G g W H t b f xx y (by omega) (by omega) (by omega) (by omega) (by omega) (by omega) l) [2, 3] [0, 1, 4, 5] [.ref wt] rfl 0 1 rfl rfl rfl rfl rfl rfl ⟨rfl, rfl, by decide⟩ rfl rfl (Nat.le_of_ble_eq_true rfl) dX8_spell_55 (fun v w hq => ?_)
                obtain ⟨rfl, rfl⟩ := hq
                refine j_ws [0, 1, 4, 5, 2, 3] (ws' := [(x, .inr (8, [.ref nw, .ref tk, .int (bI itk), .ref ch, .ref ah, .ref th, .ref tp, .ref wt, .ref rows])), (nw, .inr (7, [.ref g, .ref ru, .ref se, .ref ev])), (g, .inr (1, [.int (nI W), .int (nI H), .int t, .ref b])), (b, ia G 16 f), (wt, .inr (5, [.int (nI n4), .ref pl])), (pl, ia G 271 s4)]) rfl rfl ?_
                refine j_iconstN (pc := 58) (j := 1) hX dX8_spell_58 rfl ?_
                refine j_icmp_ne (pc := 59) (tgt := 67) hX dX8_spell_59 (by decide) (bI_toInt (bt (f y) xx)) (nI_toInt (n := 1) (by decide)) (fun c59 => ?_) (fun c59 => ?_)
                · skip
                  have c59 := bne1 c59
                  refine j_bipush (pc := 67) (v := nI 46) hX dX8_spell_67 (by decide) ?_
                  refine j_callV (pc := 69) hX kX5_add kVX5_add l_RX8_232 (fun l => c_X5_add G wt pl 271 n4 s4 (nI 46) (by omega) (by omega) l) [4, 5] [0, 1, 2, 3] [] rfl 0 5 rfl rfl rfl rfl rfl rfl ⟨rfl, rfl, by decide⟩ rfl rfl (Nat.le_of_ble_eq_true rfl) dX8_spell_69 (fun v w hq => ?_)
                  obtain ⟨rfl, rfl⟩ := hq
                  refine j_ws [0, 1, 2, 3, 4, 5] (ws' := [(x, .inr (8, [.ref nw, .ref tk, .int (bI itk), .ref ch, .ref ah, .ref th, .ref tp, .ref wt, .ref rows])), (nw, .inr (7, [.ref g, .ref ru, .ref se, .ref ev])), (g, .inr (1, [.int (nI W), .int (nI H), .int t, .ref b])), (b, ia G 16 f), (wt, .inr (5, [.int (nI (n4 + 1)), .ref pl])), (pl, ia G 271 (upd s4 n4 (nI 46)))]) rfl rfl ?_
                  refine j_iinc (pc := 72) (q := 3) (v := nI (xx + 1)) (lv' := [(3, .int (nI (xx + 1))), (0, .ref x), (1, .ref g), (2, .int (nI y))]) hX dX8_spell_72 rfl (nI_inc _ 1) (by decide) rfl ?_
                  refine j_goto (pc := 75) (tgt := 40) hX dX8_spell_75 (by decide) ?_
                  refine j_lv [1, 2, 3, 0] (lv' := [(0, .ref x), (1, .ref g), (2, .int (nI y)), (3, .int (nI (xx + 1)))]) rfl ?_
                  exact ih40 (xx + 1) (n4 + 1) (upd s4 n4 (nI 46)) (by omega) (by show _ = ((spX f y xx (spS y (n, s3))).1 + 1, upd (spX f y xx (spS y (n, s3))).2 (spX f y xx (spS y (n, s3))).1 (if bt (f y) xx then nI 35 else nI 46)); rw [← h4, c59]; rfl) (by omega) (by omega)
                · skip
                  have c59 := beq1 c59
                  refine j_bipush (pc := 62) (v := nI 35) hX dX8_spell_62 (by decide) ?_
                  refine j_goto (pc := 64) (tgt := 69) hX dX8_spell_64 (by decide) ?_
                  refine j_callV (pc := 69) hX kX5_add kVX5_add l_RX8_232 (fun l => c_X5_add G wt pl 271 n4 s4 (nI 35) (by omega) (by omega) l) [4, 5] [0, 1, 2, 3] [] rfl 0 5 rfl rfl rfl rfl rfl rfl ⟨rfl, rfl, by decide⟩ rfl rfl (Nat.le_of_ble_eq_true rfl) dX8_spell_69 (fun v w hq => ?_)
                  obtain ⟨rfl, rfl⟩ := hq
                  refine j_ws [0, 1, 2, 3, 4, 5] (ws' := [(x, .inr (8, [.ref nw, .ref tk, .int (bI itk), .ref ch, .ref ah, .ref th, .ref tp, .ref wt, .ref rows])), (nw, .inr (7, [.ref g, .ref ru, .ref se, .ref ev])), (g, .inr (1, [.int (nI W), .int (nI H), .int t, .ref b])), (b, ia G 16 f), (wt, .inr (5, [.int (nI (n4 + 1)), .ref pl])), (pl, ia G 271 (upd s4 n4 (nI 35)))]) rfl rfl ?_
                  refine j_iinc (pc := 72) (q := 3) (v := nI (xx + 1)) (lv' := [(3, .int (nI (xx + 1))), (0, .ref x), (1, .ref g), (2, .int (nI y))]) hX dX8_spell_72 rfl (nI_inc _ 1) (by decide) rfl ?_
                  refine j_goto (pc := 75) (tgt := 40) hX dX8_spell_75 (by decide) ?_
                  refine j_lv [1, 2, 3, 0] (lv' := [(0, .ref x), (1, .ref g), (2, .int (nI y)), (3, .int (nI (xx + 1)))]) rfl ?_
                  exact ih40 (xx + 1) (n4 + 1) (upd s4 n4 (nI 35)) (by omega) (by show _ = ((spX f y xx (spS y (n, s3))).1 + 1, upd (spX f y xx (spS y (n, s3))).2 (spX f y xx (spS y (n, s3))).1 (if bt (f y) xx then nI 35 else nI 46)); rw [← h4, c59]; rfl) (by omega) (by omega)
          refine j_lv [1, 2, 3, 0] (lv' := [(0, .ref x), (1, .ref g), (2, .int (nI y)), (3, .int (nI 0))]) rfl ?_
          exact L40 ((W - 0) + 1) 0 n s3 (by omega) (by first | (show _ = spS y (n, s3); rw [spS, if_pos (by omega)]; done) | (show _ = spS y (n, s3); rw [spS, if_neg (by omega)]; done)) (by omega) (Nat.lt_succ_self _)
        · skip
          refine j_aload_n (pc := 29) hX dX8_spell_29 0 rfl ?_
          refine j_get (pc := 30) hX f_RX8_55 0 rfl rfl dX8_spell_30 ?_
          refine j_bipush (pc := 33) (v := nI 47) hX dX8_spell_33 (by decide) ?_
          refine j_callV (pc := 35) hX kX5_add kVX5_add l_RX8_232 (fun l => c_X5_add G wt pl 271 n s3 (nI 47) (by omega) (by omega) l) [4, 5] [0, 1, 2, 3] [] rfl 0 5 rfl rfl rfl rfl rfl rfl ⟨rfl, rfl, by decide⟩ rfl rfl (Nat.le_of_ble_eq_true rfl) dX8_spell_35 (fun v w hq => ?_)
          obtain ⟨rfl, rfl⟩ := hq
          refine j_ws [0, 1, 2, 3, 4, 5] (ws' := [(x, .inr (8, [.ref nw, .ref tk, .int (bI itk), .ref ch, .ref ah, .ref th, .ref tp, .ref wt, .ref rows])), (nw, .inr (7, [.ref g, .ref ru, .ref se, .ref ev])), (g, .inr (1, [.int (nI W), .int (nI H), .int t, .ref b])), (b, ia G 16 f), (wt, .inr (5, [.int (nI (n + 1)), .ref pl])), (pl, ia G 271 (upd s3 n (nI 47)))]) rfl rfl ?_
          refine j_iconstN (pc := 38) (j := 0) hX dX8_spell_38 rfl ?_
          refine j_istore_n (pc := 39) (lv' := [(3, .int (nI 0)), (0, .ref x), (1, .ref g), (2, .int (nI y))]) hX dX8_spell_39 (by decide) rfl ?_
          have L40 : ∀ (m40 : Nat) (xx n4 : Nat) (s4 : Nat → Int32) (hxx : xx ≤ W) (h4 : (n4, s4) = spX f y xx (spS y (n, s3))) (hn4 : n4 = y * W + y + xx), W - xx < m40 → J X G 4 0 0 [(x, .inr (8, [.ref nw, .ref tk, .int (bI itk), .ref ch, .ref ah, .ref th, .ref tp, .ref wt, .ref rows])), (nw, .inr (7, [.ref g, .ref ru, .ref se, .ref ev])), (g, .inr (1, [.int (nI W), .int (nI H), .int t, .ref b])), (b, ia G 16 f), (wt, .inr (5, [.int (nI n4), .ref pl])), (pl, ia G 271 s4)] [(0, .ref x), (1, .ref g), (2, .int (nI y)), (3, .int (nI xx))] 40 [] := by
            intro m40
            induction m40 with
            | zero => intro xx n4 s4 hxx h4 hn4 hm40; exact absurd hm40 (Nat.not_lt_zero _)
            | succ m40 ih40 =>
              intro xx n4 s4 hxx h4 hn4 hm40
              refine j_iload_n (pc := 40) hX dX8_spell_40 3 rfl ?_
              refine j_aload_n (pc := 41) hX dX8_spell_41 1 rfl ?_
              refine j_get (pc := 42) hX f_RX8_73 2 rfl rfl dX8_spell_42 ?_
              refine j_icmp_ge (pc := 45) (tgt := 78) hX dX8_spell_45 (by decide) (nI_toInt (n := xx) (by omega)) (nI_toInt (n := W) (by omega)) (fun c45 => ?_) (fun c45 => ?_)
              · skip
                refine j_iinc (pc := 78) (q := 2) (v := nI (y + 1)) (lv' := [(2, .int (nI (y + 1))), (0, .ref x), (1, .ref g), (3, .int (nI xx))]) hX dX8_spell_78 rfl (nI_inc _ 1) (by decide) rfl ?_
                refine j_goto (pc := 81) (tgt := 17) hX dX8_spell_81 (by decide) ?_
                refine j_lv [1, 2, 0] (lv' := [(0, .ref x), (1, .ref g), (2, .int (nI (y + 1)))]) rfl ?_
                exact ih17 (y + 1) n4 s4 (by omega) (by rw [h4, show xx = W from by omega]; show spX f y W (spS y (n, s3)) = spX f y W (spS y (spY W f ps y)); rw [h3]) (by rw [Nat.succ_mul]; omega) (by omega)
              · skip
                refine j_aload_n (pc := 48) hX dX8_spell_48 0 rfl ?_
                refine j_get (pc := 49) hX f_RX8_55 0 rfl rfl dX8_spell_49 ?_
                refine j_aload_n (pc := 52) hX dX8_spell_52 1 rfl ?_
                refine j_iload_n (pc := 53) hX dX8_spell_53 3 rfl ?_
                refine j_iload_n (pc := 54) hX dX8_spell_54 2 rfl ?_
                refine j_callV (pc := 55) hX kX1_cellAt kVX1_cellAt l_RX8_110 (fun l => c_X1_cellAt G g W H t b f xx y (by omega) (by omega) (by omega) (by omega) (by omega) (by omega) l) [2, 3] [0, 1, 4, 5] [.ref wt] rfl 0 1 rfl rfl rfl rfl rfl rfl ⟨rfl, rfl, by decide⟩ rfl rfl (Nat.le_of_ble_eq_true rfl) dX8_spell_55 (fun v w hq => ?_)
                obtain ⟨rfl, rfl⟩ := hq
                refine j_ws [0, 1, 4, 5, 2, 3] (ws' := [(x, .inr (8, [.ref nw, .ref tk, .int (bI itk), .ref ch, .ref ah, .ref th, .ref tp, .ref wt, .ref rows])), (nw, .inr (7, [.ref g, .ref ru, .ref se, .ref ev])), (g, .inr (1, [.int (nI W), .int (nI H), .int t, .ref b])), (b, ia G 16 f), (wt, .inr (5, [.int (nI n4), .ref pl])), (pl, ia G 271 s4)]) rfl rfl ?_
                refine j_iconstN (pc := 58) (j := 1) hX dX8_spell_58 rfl ?_
                refine j_icmp_ne (pc := 59) (tgt := 67) hX dX8_spell_59 (by decide) (bI_toInt (bt (f y) xx)) (nI_toInt (n := 1) (by decide)) (fun c59 => ?_) (fun c59 => ?_)
                · skip
                  have c59 := bne1 c59
                  refine j_bipush (pc := 67) (v := nI 46) hX dX8_spell_67 (by decide) ?_
                  refine j_callV (pc := 69) hX kX5_add kVX5_add l_RX8_232 (fun l => c_X5_add G wt pl 271 n4 s4 (nI 46) (by omega) (by omega) l) [4, 5] [0, 1, 2, 3] [] rfl 0 5 rfl rfl rfl rfl rfl rfl ⟨rfl, rfl, by decide⟩ rfl rfl (Nat.le_of_ble_eq_true rfl) dX8_spell_69 (fun v w hq => ?_)
                  obtain ⟨rfl, rfl⟩ := hq
                  refine j_ws [0, 1, 2, 3, 4, 5] (ws' := [(x, .inr (8, [.ref nw, .ref tk, .int (bI itk), .ref ch, .ref ah, .ref th, .ref tp, .ref wt, .ref rows])), (nw, .inr (7, [.ref g, .ref ru, .ref se, .ref ev])), (g, .inr (1, [.int (nI W), .int (nI H), .int t, .ref b])), (b, ia G 16 f), (wt, .inr (5, [.int (nI (n4 + 1)), .ref pl])), (pl, ia G 271 (upd s4 n4 (nI 46)))]) rfl rfl ?_
                  refine j_iinc (pc := 72) (q := 3) (v := nI (xx + 1)) (lv' := [(3, .int (nI (xx + 1))), (0, .ref x), (1, .ref g), (2, .int (nI y))]) hX dX8_spell_72 rfl (nI_inc _ 1) (by decide) rfl ?_
                  refine j_goto (pc := 75) (tgt := 40) hX dX8_spell_75 (by decide) ?_
                  refine j_lv [1, 2, 3, 0] (lv' := [(0, .ref x), (1, .ref g), (2, .int (nI y)), (3, .int (nI (xx + 1)))]) rfl ?_
                  exact ih40 (xx + 1) (n4 + 1) (upd s4 n4 (nI 46)) (by omega) (by show _ = ((spX f y xx (spS y (n, s3))).1 + 1, upd (spX f y xx (spS y (n, s3))).2 (spX f y xx (spS y (n, s3))).1 (if bt (f y) xx then nI 35 else nI 46)); rw [← h4, c59]; rfl) (by omega) (by omega)
                · skip
                  have c59 := beq1 c59
                  refine j_bipush (pc := 62) (v := nI 35) hX dX8_spell_62 (by decide) ?_
                  refine j_goto (pc := 64) (tgt := 69) hX dX8_spell_64 (by decide) ?_
                  refine j_callV (pc := 69) hX kX5_add kVX5_add l_RX8_232 (fun l => c_X5_add G wt pl 271 n4 s4 (nI 35) (by omega) (by omega) l) [4, 5] [0, 1, 2, 3] [] rfl 0 5 rfl rfl rfl rfl rfl rfl ⟨rfl, rfl, by decide⟩ rfl rfl (Nat.le_of_ble_eq_true rfl) dX8_spell_69 (fun v w hq => ?_)
                  obtain ⟨rfl, rfl⟩ := hq
                  refine j_ws [0, 1, 2, 3, 4, 5] (ws' := [(x, .inr (8, [.ref nw, .ref tk, .int (bI itk), .ref ch, .ref ah, .ref th, .ref tp, .ref wt, .ref rows])), (nw, .inr (7, [.ref g, .ref ru, .ref se, .ref ev])), (g, .inr (1, [.int (nI W), .int (nI H), .int t, .ref b])), (b, ia G 16 f), (wt, .inr (5, [.int (nI (n4 + 1)), .ref pl])), (pl, ia G 271 (upd s4 n4 (nI 35)))]) rfl rfl ?_
                  refine j_iinc (pc := 72) (q := 3) (v := nI (xx + 1)) (lv' := [(3, .int (nI (xx + 1))), (0, .ref x), (1, .ref g), (2, .int (nI y))]) hX dX8_spell_72 rfl (nI_inc _ 1) (by decide) rfl ?_
                  refine j_goto (pc := 75) (tgt := 40) hX dX8_spell_75 (by decide) ?_
                  refine j_lv [1, 2, 3, 0] (lv' := [(0, .ref x), (1, .ref g), (2, .int (nI y)), (3, .int (nI (xx + 1)))]) rfl ?_
                  exact ih40 (xx + 1) (n4 + 1) (upd s4 n4 (nI 35)) (by omega) (by show _ = ((spX f y xx (spS y (n, s3))).1 + 1, upd (spX f y xx (spS y (n, s3))).2 (spX f y xx (spS y (n, s3))).1 (if bt (f y) xx then nI 35 else nI 46)); rw [← h4, c59]; rfl) (by omega) (by omega)
          refine j_lv [1, 2, 3, 0] (lv' := [(0, .ref x), (1, .ref g), (2, .int (nI y)), (3, .int (nI 0))]) rfl ?_
          exact L40 ((W - 0) + 1) 0 (n + 1) (upd s3 n (nI 47)) (by omega) (by first | (show _ = spS y (n, s3); rw [spS, if_pos (by omega)]; done) | (show _ = spS y (n, s3); rw [spS, if_neg (by omega)]; done)) (by omega) (Nat.lt_succ_self _)
  refine j_lv [2, 1, 0] (lv' := [(0, .ref x), (1, .ref g), (2, .int (nI 0))]) rfl ?_
  exact L17 ((H - 0) + 1) 0 0 ps (by omega) (rfl) (by omega) (Nat.lt_succ_self _)
set_option maxHeartbeats 4000000 in
set_option maxRecDepth 100000 in
theorem c_X8_paper_neg (G : GT) (x : Nat) (nw : Nat) (tk : Nat) (itk : Bool) (ch : Nat) (ah : Nat) (th : Nat) (tp : Nat) (wt : Nat) (rows : Nat) (i : Int32) (hb : i.toInt < 0) (l : Launch) : CT l G yX8_paper cX8_paper 2 (some .int) { frames := 2, cells := 0, slots := 0, locals := 42 } [.ref x, .int i] [(x, .inr (8, [.ref nw, .ref tk, .int (bI itk), .ref ch, .ref ah, .ref th, .ref tp, .ref wt, .ref rows]))] (fun vv ww => vv = some (.int (-1)) ∧ ww = [(x, .inr (8, [.ref nw, .ref tk, .int (bI itk), .ref ch, .ref ah, .ref th, .ref tp, .ref wt, .ref rows]))]) := by
  refine CT.of (lv := [(0, .ref x), (1, .int i)]) RX8 "paper" rfl rfl (by decide +kernel) (Nat.le_of_ble_eq_true rfl) rfl (fun X hX hR => ?_)
  refine j_iload_n (pc := 0) hX dX8_paper_0 1 rfl ?_
  refine j_if_ge (pc := 1) (tgt := 6) hX dX8_paper_1 (by decide) rfl (fun c1 => by exfalso; omega) (fun c1 => ?_)
  refine j_iconst (pc := 4) (v := (-1)) hX dX8_paper_4 (by decide) ?_
  exact j_iret (pc := 5) hX hR dX8_paper_5 ⟨rfl, rfl⟩
set_option maxHeartbeats 4000000 in
set_option maxRecDepth 100000 in
theorem c_X8_paper_in (G : GT) (x : Nat) (nw : Nat) (tk : Nat) (itk : Bool) (ch : Nat) (ah : Nat) (th : Nat) (tp : Nat) (wt : Nat) (rows : Nat) (pn : Nat) (pl : Nat) (ps : Nat → Int32) (i : Nat) (hi : i < pn) (hp : pn ≤ 271) (l : Launch) : CT l G yX8_paper cX8_paper 2 (some .int) { frames := 2, cells := 0, slots := 0, locals := 42 } [.ref x, .int (nI i)] [(x, .inr (8, [.ref nw, .ref tk, .int (bI itk), .ref ch, .ref ah, .ref th, .ref tp, .ref wt, .ref rows])), (wt, .inr (5, [.int (nI pn), .ref pl])), (pl, ia G 271 ps)] (fun vv ww => vv = some (.int (ps i)) ∧ ww = [(x, .inr (8, [.ref nw, .ref tk, .int (bI itk), .ref ch, .ref ah, .ref th, .ref tp, .ref wt, .ref rows])), (wt, .inr (5, [.int (nI pn), .ref pl])), (pl, ia G 271 ps)]) := by
  refine CT.of (lv := [(0, .ref x), (1, .int (nI i))]) RX8 "paper" rfl rfl (by decide +kernel) (Nat.le_of_ble_eq_true rfl) rfl (fun X hX hR => ?_)
  refine j_iload_n (pc := 0) hX dX8_paper_0 1 rfl ?_
  refine j_if_ge (pc := 1) (tgt := 6) hX dX8_paper_1 (by decide) (nI_toInt (n := i) (by omega)) (fun c1 => ?_) (fun c1 => by exfalso; omega)
  refine j_iload_n (pc := 6) hX dX8_paper_6 1 rfl ?_
  refine j_aload_n (pc := 7) hX dX8_paper_7 0 rfl ?_
  refine j_get (pc := 8) hX f_RX8_55 0 rfl rfl dX8_paper_8 ?_
  refine j_get (pc := 11) hX f_RX8_234 1 rfl rfl dX8_paper_11 ?_
  refine j_icmp_ge (pc := 14) (tgt := 28) hX dX8_paper_14 (by decide) (nI_toInt (n := i) (by omega)) (nI_toInt (n := pn) (by omega)) (fun c14 => by exfalso; omega) (fun c14 => ?_)
  refine j_aload_n (pc := 17) hX dX8_paper_17 0 rfl ?_
  refine j_get (pc := 18) hX f_RX8_55 0 rfl rfl dX8_paper_18 ?_
  refine j_iload_n (pc := 21) hX dX8_paper_21 1 rfl ?_
  refine j_callV (pc := 22) hX kX5_byteAt kVX5_byteAt l_RX8_239 (fun l => c_X5_byteAt G wt pl 271 pn ps i (by omega) (by omega) l) [1, 2] [0] [] rfl 0 5 rfl rfl rfl rfl rfl rfl ⟨rfl, rfl, by decide⟩ rfl rfl (Nat.le_of_ble_eq_true rfl) dX8_paper_22 (fun v w hq => ?_)
  obtain ⟨rfl, rfl⟩ := hq
  refine j_ws [0, 1, 2] (ws' := [(x, .inr (8, [.ref nw, .ref tk, .int (bI itk), .ref ch, .ref ah, .ref th, .ref tp, .ref wt, .ref rows])), (wt, .inr (5, [.int (nI pn), .ref pl])), (pl, ia G 271 ps)]) rfl rfl ?_
  refine j_goto (pc := 25) (tgt := 30) hX dX8_paper_25 (by decide) ?_
  exact j_iret (pc := 30) hX hR dX8_paper_30 ⟨rfl, rfl⟩
set_option maxHeartbeats 4000000 in
set_option maxRecDepth 100000 in
theorem c_X8_paper_out (G : GT) (x : Nat) (nw : Nat) (tk : Nat) (itk : Bool) (ch : Nat) (ah : Nat) (th : Nat) (tp : Nat) (wt : Nat) (rows : Nat) (pn : Nat) (pl : Nat) (ps : Nat → Int32) (i : Int32) (hi : (pn : Int) ≤ i.toInt) (hp : pn ≤ 271) (l : Launch) : CT l G yX8_paper cX8_paper 2 (some .int) { frames := 2, cells := 0, slots := 0, locals := 42 } [.ref x, .int i] [(x, .inr (8, [.ref nw, .ref tk, .int (bI itk), .ref ch, .ref ah, .ref th, .ref tp, .ref wt, .ref rows])), (wt, .inr (5, [.int (nI pn), .ref pl])), (pl, ia G 271 ps)] (fun vv ww => vv = some (.int (-5)) ∧ ww = [(x, .inr (8, [.ref nw, .ref tk, .int (bI itk), .ref ch, .ref ah, .ref th, .ref tp, .ref wt, .ref rows])), (wt, .inr (5, [.int (nI pn), .ref pl])), (pl, ia G 271 ps)]) := by
  refine CT.of (lv := [(0, .ref x), (1, .int i)]) RX8 "paper" rfl rfl (by decide +kernel) (Nat.le_of_ble_eq_true rfl) rfl (fun X hX hR => ?_)
  refine j_iload_n (pc := 0) hX dX8_paper_0 1 rfl ?_
  refine j_if_ge (pc := 1) (tgt := 6) hX dX8_paper_1 (by decide) rfl (fun c1 => ?_) (fun c1 => by exfalso; omega)
  refine j_iload_n (pc := 6) hX dX8_paper_6 1 rfl ?_
  refine j_aload_n (pc := 7) hX dX8_paper_7 0 rfl ?_
  refine j_get (pc := 8) hX f_RX8_55 0 rfl rfl dX8_paper_8 ?_
  refine j_get (pc := 11) hX f_RX8_234 1 rfl rfl dX8_paper_11 ?_
  refine j_icmp_ge (pc := 14) (tgt := 28) hX dX8_paper_14 (by decide) rfl (nI_toInt (n := pn) (by omega)) (fun c14 => ?_) (fun c14 => by exfalso; omega)
  refine j_bipush (pc := 28) (v := (-5)) hX dX8_paper_28 (by decide) ?_
  exact j_iret (pc := 30) hX hR dX8_paper_30 ⟨rfl, rfl⟩
