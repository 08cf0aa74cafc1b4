set_option maxHeartbeats 4000000 in
set_option maxRecDepth 100000 in
theorem c_J6_bitCount_0f7a4 (G : GT) (x : Int32) (hx : rN x < 65536) (l : Launch) : CT l G yJ6_bitCount_0f7a4 cJ6_bitCount_0f7a4 1 (some .int) { frames := 0, cells := 0, slots := 0, locals := 0 } [.int x] [] (fun vv ww => vv = some (.int (nI (pop (rN x)))) ∧ ww = []) := by
  refine CT.of (lv := [(0, .int x)]) RJ6 "bitCount" rfl rfl (by decide +kernel) (Nat.le_of_ble_eq_true rfl) rfl (fun X hX hR => ?_)
  refine j_iload_n (pc := 0) hX dJ6_bitCount_0f7a4_0 0 rfl ?_
  refine j_iload_n (pc := 1) hX dJ6_bitCount_0f7a4_1 0 rfl ?_
  refine j_iconstN (pc := 2) (j := 1) hX dJ6_bitCount_0f7a4_2 rfl ?_
  refine j_iushr (pc := 3) hX dJ6_bitCount_0f7a4_3 ?_
  refine j_ldcw (pc := 4) (v := nI 1431655765) hX k_RJ6_265 dJ6_bitCount_0f7a4_4 ?_
  refine j_iand (pc := 7) hX dJ6_bitCount_0f7a4_7 ?_
  refine j_isub (pc := 8) hX dJ6_bitCount_0f7a4_8 ?_
  refine j_istore_n (pc := 9) (lv' := [(0, .int (x - (((x.toUInt32 >>> ((nI 1).toUInt32 &&& Int32.toUInt32 31)).toInt32) &&& (nI 1431655765))))]) hX dJ6_bitCount_0f7a4_9 (by decide) rfl ?_
  refine j_iload_n (pc := 10) hX dJ6_bitCount_0f7a4_10 0 rfl ?_
  refine j_ldcw (pc := 11) (v := nI 858993459) hX k_RJ6_266 dJ6_bitCount_0f7a4_11 ?_
  refine j_iand (pc := 14) hX dJ6_bitCount_0f7a4_14 ?_
  refine j_iload_n (pc := 15) hX dJ6_bitCount_0f7a4_15 0 rfl ?_
  refine j_iconstN (pc := 16) (j := 2) hX dJ6_bitCount_0f7a4_16 rfl ?_
  refine j_iushr (pc := 17) hX dJ6_bitCount_0f7a4_17 ?_
  refine j_ldcw (pc := 18) (v := nI 858993459) hX k_RJ6_266 dJ6_bitCount_0f7a4_18 ?_
  refine j_iand (pc := 21) hX dJ6_bitCount_0f7a4_21 ?_
  refine j_iadd (pc := 22) hX dJ6_bitCount_0f7a4_22 ?_
  refine j_istore_n (pc := 23) (lv' := [(0, .int (((x - (((x.toUInt32 >>> ((nI 1).toUInt32 &&& Int32.toUInt32 31)).toInt32) &&& (nI 1431655765))) &&& (nI 858993459)) + ((((x - (((x.toUInt32 >>> ((nI 1).toUInt32 &&& Int32.toUInt32 31)).toInt32) &&& (nI 1431655765))).toUInt32 >>> ((nI 2).toUInt32 &&& Int32.toUInt32 31)).toInt32) &&& (nI 858993459))))]) hX dJ6_bitCount_0f7a4_23 (by decide) rfl ?_
  refine j_iload_n (pc := 24) hX dJ6_bitCount_0f7a4_24 0 rfl ?_
  refine j_iload_n (pc := 25) hX dJ6_bitCount_0f7a4_25 0 rfl ?_
  refine j_iconstN (pc := 26) (j := 4) hX dJ6_bitCount_0f7a4_26 rfl ?_
  refine j_iushr (pc := 27) hX dJ6_bitCount_0f7a4_27 ?_
  refine j_iadd (pc := 28) hX dJ6_bitCount_0f7a4_28 ?_
  refine j_ldcw (pc := 29) (v := nI 252645135) hX k_RJ6_267 dJ6_bitCount_0f7a4_29 ?_
  refine j_iand (pc := 32) hX dJ6_bitCount_0f7a4_32 ?_
  refine j_istore_n (pc := 33) (lv' := [(0, .int (((((x - (((x.toUInt32 >>> ((nI 1).toUInt32 &&& Int32.toUInt32 31)).toInt32) &&& (nI 1431655765))) &&& (nI 858993459)) + ((((x - (((x.toUInt32 >>> ((nI 1).toUInt32 &&& Int32.toUInt32 31)).toInt32) &&& (nI 1431655765))).toUInt32 >>> ((nI 2).toUInt32 &&& Int32.toUInt32 31)).toInt32) &&& (nI 858993459))) + (((((x - (((x.toUInt32 >>> ((nI 1).toUInt32 &&& Int32.toUInt32 31)).toInt32) &&& (nI 1431655765))) &&& (nI 858993459)) + ((((x - (((x.toUInt32 >>> ((nI 1).toUInt32 &&& Int32.toUInt32 31)).toInt32) &&& (nI 1431655765))).toUInt32 >>> ((nI 2).toUInt32 &&& Int32.toUInt32 31)).toInt32) &&& (nI 858993459))).toUInt32 >>> ((nI 4).toUInt32 &&& Int32.toUInt32 31)).toInt32)) &&& (nI 252645135)))]) hX dJ6_bitCount_0f7a4_33 (by decide) rfl ?_
  refine j_iload_n (pc := 34) hX dJ6_bitCount_0f7a4_34 0 rfl ?_
  refine j_iload_n (pc := 35) hX dJ6_bitCount_0f7a4_35 0 rfl ?_
  refine j_bipush (pc := 36) (v := nI 8) hX dJ6_bitCount_0f7a4_36 (by decide) ?_
  refine j_iushr (pc := 38) hX dJ6_bitCount_0f7a4_38 ?_
  refine j_iadd (pc := 39) hX dJ6_bitCount_0f7a4_39 ?_
  refine j_istore_n (pc := 40) (lv' := [(0, .int ((((((x - (((x.toUInt32 >>> ((nI 1).toUInt32 &&& Int32.toUInt32 31)).toInt32) &&& (nI 1431655765))) &&& (nI 858993459)) + ((((x - (((x.toUInt32 >>> ((nI 1).toUInt32 &&& Int32.toUInt32 31)).toInt32) &&& (nI 1431655765))).toUInt32 >>> ((nI 2).toUInt32 &&& Int32.toUInt32 31)).toInt32) &&& (nI 858993459))) + (((((x - (((x.toUInt32 >>> ((nI 1).toUInt32 &&& Int32.toUInt32 31)).toInt32) &&& (nI 1431655765))) &&& (nI 858993459)) + ((((x - (((x.toUInt32 >>> ((nI 1).toUInt32 &&& Int32.toUInt32 31)).toInt32) &&& (nI 1431655765))).toUInt32 >>> ((nI 2).toUInt32 &&& Int32.toUInt32 31)).toInt32) &&& (nI 858993459))).toUInt32 >>> ((nI 4).toUInt32 &&& Int32.toUInt32 31)).toInt32)) &&& (nI 252645135)) + (((((((x - (((x.toUInt32 >>> ((nI 1).toUInt32 &&& Int32.toUInt32 31)).toInt32) &&& (nI 1431655765))) &&& (nI 858993459)) + ((((x - (((x.toUInt32 >>> ((nI 1).toUInt32 &&& Int32.toUInt32 31)).toInt32) &&& (nI 1431655765))).toUInt32 >>> ((nI 2).toUInt32 &&& Int32.toUInt32 31)).toInt32) &&& (nI 858993459))) + (((((x - (((x.toUInt32 >>> ((nI 1).toUInt32 &&& Int32.toUInt32 31)).toInt32) &&& (nI 1431655765))) &&& (nI 858993459)) + ((((x - (((x.toUInt32 >>> ((nI 1).toUInt32 &&& Int32.toUInt32 31)).toInt32) &&& (nI 1431655765))).toUInt32 >>> ((nI 2).toUInt32 &&& Int32.toUInt32 31)).toInt32) &&& (nI 858993459))).toUInt32 >>> ((nI 4).toUInt32 &&& Int32.toUInt32 31)).toInt32)) &&& (nI 252645135)).toUInt32 >>> ((nI 8).toUInt32 &&& Int32.toUInt32 31)).toInt32)))]) hX dJ6_bitCount_0f7a4_40 (by decide) rfl ?_
  refine j_iload_n (pc := 41) hX dJ6_bitCount_0f7a4_41 0 rfl ?_
  refine j_iload_n (pc := 42) hX dJ6_bitCount_0f7a4_42 0 rfl ?_
  refine j_bipush (pc := 43) (v := nI 16) hX dJ6_bitCount_0f7a4_43 (by decide) ?_
  refine j_iushr (pc := 45) hX dJ6_bitCount_0f7a4_45 ?_
  refine j_iadd (pc := 46) hX dJ6_bitCount_0f7a4_46 ?_
  refine j_istore_n (pc := 47) (lv' := [(0, .int (((((((x - (((x.toUInt32 >>> ((nI 1).toUInt32 &&& Int32.toUInt32 31)).toInt32) &&& (nI 1431655765))) &&& (nI 858993459)) + ((((x - (((x.toUInt32 >>> ((nI 1).toUInt32 &&& Int32.toUInt32 31)).toInt32) &&& (nI 1431655765))).toUInt32 >>> ((nI 2).toUInt32 &&& Int32.toUInt32 31)).toInt32) &&& (nI 858993459))) + (((((x - (((x.toUInt32 >>> ((nI 1).toUInt32 &&& Int32.toUInt32 31)).toInt32) &&& (nI 1431655765))) &&& (nI 858993459)) + ((((x - (((x.toUInt32 >>> ((nI 1).toUInt32 &&& Int32.toUInt32 31)).toInt32) &&& (nI 1431655765))).toUInt32 >>> ((nI 2).toUInt32 &&& Int32.toUInt32 31)).toInt32) &&& (nI 858993459))).toUInt32 >>> ((nI 4).toUInt32 &&& Int32.toUInt32 31)).toInt32)) &&& (nI 252645135)) + (((((((x - (((x.toUInt32 >>> ((nI 1).toUInt32 &&& Int32.toUInt32 31)).toInt32) &&& (nI 1431655765))) &&& (nI 858993459)) + ((((x - (((x.toUInt32 >>> ((nI 1).toUInt32 &&& Int32.toUInt32 31)).toInt32) &&& (nI 1431655765))).toUInt32 >>> ((nI 2).toUInt32 &&& Int32.toUInt32 31)).toInt32) &&& (nI 858993459))) + (((((x - (((x.toUInt32 >>> ((nI 1).toUInt32 &&& Int32.toUInt32 31)).toInt32) &&& (nI 1431655765))) &&& (nI 858993459)) + ((((x - (((x.toUInt32 >>> ((nI 1).toUInt32 &&& Int32.toUInt32 31)).toInt32) &&& (nI 1431655765))).toUInt32 >>> ((nI 2).toUInt32 &&& Int32.toUInt32 31)).toInt32) &&& (nI 858993459))).toUInt32 >>> ((nI 4).toUInt32 &&& Int32.toUInt32 31)).toInt32)) &&& (nI 252645135)).toUInt32 >>> ((nI 8).toUInt32 &&& Int32.toUInt32 31)).toInt32)) + ((((((((x - (((x.toUInt32 >>> ((nI 1).toUInt32 &&& Int32.toUInt32 31)).toInt32) &&& (nI 1431655765))) &&& (nI 858993459)) + ((((x - (((x.toUInt32 >>> ((nI 1).toUInt32 &&& Int32.toUInt32 31)).toInt32) &&& (nI 1431655765))).toUInt32 >>> ((nI 2).toUInt32 &&& Int32.toUInt32 31)).toInt32) &&& (nI 858993459))) + (((((x - (((x.toUInt32 >>> ((nI 1).toUInt32 &&& Int32.toUInt32 31)).toInt32) &&& (nI 1431655765))) &&& (nI 858993459)) + ((((x - (((x.toUInt32 >>> ((nI 1).toUInt32 &&& Int32.toUInt32 31)).toInt32) &&& (nI 1431655765))).toUInt32 >>> ((nI 2).toUInt32 &&& Int32.toUInt32 31)).toInt32) &&& (nI 858993459))).toUInt32 >>> ((nI 4).toUInt32 &&& Int32.toUInt32 31)).toInt32)) &&& (nI 252645135)) + (((((((x - (((x.toUInt32 >>> ((nI 1).toUInt32 &&& Int32.toUInt32 31)).toInt32) &&& (nI 1431655765))) &&& (nI 858993459)) + ((((x - (((x.toUInt32 >>> ((nI 1).toUInt32 &&& Int32.toUInt32 31)).toInt32) &&& (nI 1431655765))).toUInt32 >>> ((nI 2).toUInt32 &&& Int32.toUInt32 31)).toInt32) &&& (nI 858993459))) + (((((x - (((x.toUInt32 >>> ((nI 1).toUInt32 &&& Int32.toUInt32 31)).toInt32) &&& (nI 1431655765))) &&& (nI 858993459)) + ((((x - (((x.toUInt32 >>> ((nI 1).toUInt32 &&& Int32.toUInt32 31)).toInt32) &&& (nI 1431655765))).toUInt32 >>> ((nI 2).toUInt32 &&& Int32.toUInt32 31)).toInt32) &&& (nI 858993459))).toUInt32 >>> ((nI 4).toUInt32 &&& Int32.toUInt32 31)).toInt32)) &&& (nI 252645135)).toUInt32 >>> ((nI 8).toUInt32 &&& Int32.toUInt32 31)).toInt32)).toUInt32 >>> ((nI 16).toUInt32 &&& Int32.toUInt32 31)).toInt32)))]) hX dJ6_bitCount_0f7a4_47 (by decide) rfl ?_
  refine j_iload_n (pc := 48) hX dJ6_bitCount_0f7a4_48 0 rfl ?_
  refine j_bipush (pc := 49) (v := nI 63) hX dJ6_bitCount_0f7a4_49 (by decide) ?_
  refine j_iand (pc := 51) hX dJ6_bitCount_0f7a4_51 ?_
  exact j_iret (pc := 52) hX hR dJ6_bitCount_0f7a4_52 ⟨congrArg some (show Value.int ((((((((x - (((x.toUInt32 >>> ((nI 1).toUInt32 &&& Int32.toUInt32 31)).toInt32) &&& (nI 1431655765))) &&& (nI 858993459)) + ((((x - (((x.toUInt32 >>> ((nI 1).toUInt32 &&& Int32.toUInt32 31)).toInt32) &&& (nI 1431655765))).toUInt32 >>> ((nI 2).toUInt32 &&& Int32.toUInt32 31)).toInt32) &&& (nI 858993459))) + (((((x - (((x.toUInt32 >>> ((nI 1).toUInt32 &&& Int32.toUInt32 31)).toInt32) &&& (nI 1431655765))) &&& (nI 858993459)) + ((((x - (((x.toUInt32 >>> ((nI 1).toUInt32 &&& Int32.toUInt32 31)).toInt32) &&& (nI 1431655765))).toUInt32 >>> ((nI 2).toUInt32 &&& Int32.toUInt32 31)).toInt32) &&& (nI 858993459))).toUInt32 >>> ((nI 4).toUInt32 &&& Int32.toUInt32 31)).toInt32)) &&& (nI 252645135)) + (((((((x - (((x.toUInt32 >>> ((nI 1).toUInt32 &&& Int32.toUInt32 31)).toInt32) &&& (nI 1431655765))) &&& (nI 858993459)) + ((((x - (((x.toUInt32 >>> ((nI 1).toUInt32 &&& Int32.toUInt32 31)).toInt32) &&& (nI 1431655765))).toUInt32 >>> ((nI 2).toUInt32 &&& Int32.toUInt32 31)).toInt32) &&& (nI 858993459))) + (((((x - (((x.toUInt32 >>> ((nI 1).toUInt32 &&& Int32.toUInt32 31)).toInt32) &&& (nI 1431655765))) &&& (nI 858993459)) + ((((x - (((x.toUInt32 >>> ((nI 1).toUInt32 &&& Int32.toUInt32 31)).toInt32) &&& (nI 1431655765))).toUInt32 >>> ((nI 2).toUInt32 &&& Int32.toUInt32 31)).toInt32) &&& (nI 858993459))).toUInt32 >>> ((nI 4).toUInt32 &&& Int32.toUInt32 31)).toInt32)) &&& (nI 252645135)).toUInt32 >>> ((nI 8).toUInt32 &&& Int32.toUInt32 31)).toInt32)) + ((((((((x - (((x.toUInt32 >>> ((nI 1).toUInt32 &&& Int32.toUInt32 31)).toInt32) &&& (nI 1431655765))) &&& (nI 858993459)) + ((((x - (((x.toUInt32 >>> ((nI 1).toUInt32 &&& Int32.toUInt32 31)).toInt32) &&& (nI 1431655765))).toUInt32 >>> ((nI 2).toUInt32 &&& Int32.toUInt32 31)).toInt32) &&& (nI 858993459))) + (((((x - (((x.toUInt32 >>> ((nI 1).toUInt32 &&& Int32.toUInt32 31)).toInt32) &&& (nI 1431655765))) &&& (nI 858993459)) + ((((x - (((x.toUInt32 >>> ((nI 1).toUInt32 &&& Int32.toUInt32 31)).toInt32) &&& (nI 1431655765))).toUInt32 >>> ((nI 2).toUInt32 &&& Int32.toUInt32 31)).toInt32) &&& (nI 858993459))).toUInt32 >>> ((nI 4).toUInt32 &&& Int32.toUInt32 31)).toInt32)) &&& (nI 252645135)) + (((((((x - (((x.toUInt32 >>> ((nI 1).toUInt32 &&& Int32.toUInt32 31)).toInt32) &&& (nI 1431655765))) &&& (nI 858993459)) + ((((x - (((x.toUInt32 >>> ((nI 1).toUInt32 &&& Int32.toUInt32 31)).toInt32) &&& (nI 1431655765))).toUInt32 >>> ((nI 2).toUInt32 &&& Int32.toUInt32 31)).toInt32) &&& (nI 858993459))) + (((((x - (((x.toUInt32 >>> ((nI 1).toUInt32 &&& Int32.toUInt32 31)).toInt32) &&& (nI 1431655765))) &&& (nI 858993459)) + ((((x - (((x.toUInt32 >>> ((nI 1).toUInt32 &&& Int32.toUInt32 31)).toInt32) &&& (nI 1431655765))).toUInt32 >>> ((nI 2).toUInt32 &&& Int32.toUInt32 31)).toInt32) &&& (nI 858993459))).toUInt32 >>> ((nI 4).toUInt32 &&& Int32.toUInt32 31)).toInt32)) &&& (nI 252645135)).toUInt32 >>> ((nI 8).toUInt32 &&& Int32.toUInt32 31)).toInt32)).toUInt32 >>> ((nI 16).toUInt32 &&& Int32.toUInt32 31)).toInt32)) &&& (nI 63)) = Value.int (nI (pop (rN x))) from congrArg Value.int (bcI_pop hx)), rfl⟩
set_option maxHeartbeats 4000000 in
set_option maxRecDepth 100000 in
theorem c_X1_ones (G : GT) (g W H : Nat) (t : Int32) (b : Nat) (f : Nat → Int32) (hW1 : 2 ≤ W) (hW2 : W ≤ 16) (hH1 : 2 ≤ H) (hH2 : H ≤ 16) (hf : ∀ y, rN (f y) < 65536) (l : Launch) : CT l G yX1_ones cX1_ones 3 (some .int) { frames := 1, cells := 0, slots := 0, locals := 21 } [.ref g] [(g, .inr (1, [.int (nI W), .int (nI H), .int t, .ref b])), (b, ia G 16 f)] (fun vv ww => vv = some (.int (nI (cnt f H))) ∧ ww = [(g, .inr (1, [.int (nI W), .int (nI H), .int t, .ref b])), (b, ia G 16 f)]) := by
  refine CT.of (lv := [(0, .ref g)]) RX1 "ones" rfl rfl (by decide +kernel) (Nat.le_of_ble_eq_true rfl) rfl (fun X hX hR => ?_)
  refine j_iconstN (pc := 0) (j := 0) hX dX1_ones_0 rfl ?_
  refine j_istore_n (pc := 1) (lv' := [(1, .int (nI 0)), (0, .ref g)]) hX dX1_ones_1 (by decide) rfl ?_
  refine j_iconstN (pc := 2) (j := 0) hX dX1_ones_2 rfl ?_
  refine j_istore_n (pc := 3) (lv' := [(2, .int (nI 0)), (1, .int (nI 0)), (0, .ref g)]) hX dX1_ones_3 (by decide) rfl ?_
  have L4 : ∀ (m4 : Nat) (k s : Nat) (hk : k ≤ H) (hs : s = cnt f k), H - k < m4 → J X G 3 0 0 [(g, .inr (1, [.int (nI W), .int (nI H), .int t, .ref b])), (b, ia G 16 f)] [(0, .ref g), (1, .int (nI s)), (2, .int (nI k))] 4 [] := by
    intro m4
    induction m4 with
    | zero => intro k s hk hs hm4; exact absurd hm4 (Nat.not_lt_zero _)
    | succ m4 ih4 =>
      intro k s hk hs hm4
      refine j_iload_n (pc := 4) hX dX1_ones_4 2 rfl ?_
      refine j_aload_n (pc := 5) hX dX1_ones_5 0 rfl ?_
      refine j_get (pc := 6) hX f_RX1_15 0 rfl rfl dX1_ones_6 ?_
      refine j_icmp_ge (pc := 9) (tgt := 32) hX dX1_ones_9 (by decide) (nI_toInt (n := k) (by omega)) (nI_toInt (n := H) (by omega)) (fun c9 => ?_) (fun c9 => ?_)
      · skip
        refine j_iload_n (pc := 32) hX dX1_ones_32 1 rfl ?_
        exact j_iret (pc := 33) hX hR dX1_ones_33 ⟨congrArg some (show Value.int (nI s) = Value.int (nI (cnt f H)) from by rw [hs, show k = H from by omega]), rfl⟩
      · skip
        refine j_iload_n (pc := 12) hX dX1_ones_12 1 rfl ?_
        refine j_aload_n (pc := 13) hX dX1_ones_13 0 rfl ?_
        refine j_get (pc := 14) hX f_RX1_21 0 rfl rfl dX1_ones_14 ?_
        refine j_iload_n (pc := 17) hX dX1_ones_17 2 rfl ?_
        refine j_callSN (pc := 18) hX kX8_at kSX8_at l_RX1_25 (fun l => c_X8_at G b 16 f k (by omega) (by omega) l) [1] [0] [.int (nI s)] rfl rfl rfl rfl ⟨rfl, rfl, by decide⟩ rfl rfl (Nat.le_of_ble_eq_true rfl) dX1_ones_18 (fun v w hq => ?_)
        obtain ⟨rfl, rfl⟩ := hq
        refine j_ws [0, 1] (ws' := [(g, .inr (1, [.int (nI W), .int (nI H), .int t, .ref b])), (b, ia G 16 f)]) rfl rfl ?_
        refine j_callS (pc := 21) hX kJ6_bitCount_0f7a4 kSJ6_bitCount_0f7a4 l_RX1_37 (fun l => c_J6_bitCount_0f7a4 G (f k) (hf _) l) [] [0, 1] [.int (nI s)] rfl rfl rfl rfl ⟨rfl, rfl, by decide⟩ rfl rfl (Nat.le_of_ble_eq_true rfl) dX1_ones_21 (fun v w hq => ?_)
        obtain ⟨rfl, rfl⟩ := hq
        refine j_ws [0, 1] (ws' := [(g, .inr (1, [.int (nI W), .int (nI H), .int t, .ref b])), (b, ia G 16 f)]) rfl rfl ?_
        refine j_iadd (pc := 24) hX dX1_ones_24 ?_
        refine j_topi (y := nI (s + (pop (rN (f k))))) (nI_add _ _) ?_
        refine j_istore_n (pc := 25) (lv' := [(1, .int (nI (s + (pop (rN (f k)))))), (0, .ref g), (2, .int (nI k))]) hX dX1_ones_25 (by decide) rfl ?_
        refine j_iinc (pc := 26) (q := 2) (v := nI (k + 1)) (lv' := [(2, .int (nI (k + 1))), (1, .int (nI (s + (pop (rN (f k)))))), (0, .ref g)]) hX dX1_ones_26 rfl (nI_inc _ 1) (by decide) rfl ?_
        refine j_goto (pc := 29) (tgt := 4) hX dX1_ones_29 (by decide) ?_
        refine j_lv [2, 1, 0] (lv' := [(0, .ref g), (1, .int (nI (s + (pop (rN (f k)))))), (2, .int (nI (k + 1)))]) rfl ?_
        exact ih4 (k + 1) (s + (pop (rN (f k)))) (by omega) (by rw [hs]; rfl) (by omega)
  refine j_lv [2, 1, 0] (lv' := [(0, .ref g), (1, .int (nI 0)), (2, .int (nI 0))]) rfl ?_
  exact L4 ((H - 0) + 1) 0 0 (by omega) (rfl) (Nat.lt_succ_self _)
set_option maxHeartbeats 4000000 in
set_option maxRecDepth 100000 in
theorem c_X1_becomeEmpty (G : GT) (g W H : Nat) (t : Int32) (b : Nat) (f : Nat → Int32) (w h : Nat)  (l : Launch) : CT l G yX1_becomeEmpty cX1_becomeEmpty 4 none { frames := 0, cells := 0, slots := 0, locals := 0 } [.ref g, .int (nI w), .int (nI h)] [(g, .inr (1, [.int (nI W), .int (nI H), .int t, .ref b])), (b, ia G 16 f)] (fun vv ww => vv = none ∧ ww = [(g, .inr (1, [.int (nI w), .int (nI h), .int t, .ref b])), (b, ia G 16 (fun _ => 0))]) := by
  refine CT.of (lv := [(0, .ref g), (1, .int (nI w)), (2, .int (nI h))]) RX1 "becomeEmpty" rfl rfl (by decide +kernel) (Nat.le_of_ble_eq_true rfl) rfl (fun X hX hR => ?_)
  refine j_aload_n (pc := 0) hX dX1_becomeEmpty_0 0 rfl ?_
  refine j_iload_n (pc := 1) hX dX1_becomeEmpty_1 1 rfl ?_
  refine j_put (pc := 2) (ws' := [(g, .inr (1, [.int (nI w), .int (nI H), .int t, .ref b])), (b, ia G 16 f)]) hX f_RX1_9 0 rfl rfl rfl (Nat.le_of_ble_eq_true rfl) rfl dX1_becomeEmpty_2 ?_
  refine j_aload_n (pc := 5) hX dX1_becomeEmpty_5 0 rfl ?_
  refine j_iload_n (pc := 6) hX dX1_becomeEmpty_6 2 rfl ?_
  refine j_put (pc := 7) (ws' := [(g, .inr (1, [.int (nI w), .int (nI h), .int t, .ref b])), (b, ia G 16 f)]) hX f_RX1_15 0 rfl rfl rfl (Nat.le_of_ble_eq_true rfl) rfl dX1_becomeEmpty_7 ?_
  refine j_iconstN (pc := 10) (j := 0) hX dX1_becomeEmpty_10 rfl ?_
  refine j_istore_n (pc := 11) (lv' := [(3, .int (nI 0)), (0, .ref g), (1, .int (nI w)), (2, .int (nI h))]) hX dX1_becomeEmpty_11 (by decide) rfl ?_
  have L12 : ∀ (m12 : Nat) (k : Nat) (g2 : Nat → Int32) (hk : k ≤ 16) (hg : ∀ z, z < k → g2 z = 0), 16 - k < m12 → J X G 4 0 0 [(g, .inr (1, [.int (nI w), .int (nI h), .int t, .ref b])), (b, ia G 16 g2)] [(0, .ref g), (1, .int (nI w)), (2, .int (nI h)), (3, .int (nI k))] 12 [] := by
    intro m12
    induction m12 with
    | zero => intro k g2 hk hg hm12; exact absurd hm12 (Nat.not_lt_zero _)
    | succ m12 ih12 =>
      intro k g2 hk hg hm12
      refine j_iload_n (pc := 12) hX dX1_becomeEmpty_12 3 rfl ?_
      refine j_aload_n (pc := 13) hX dX1_becomeEmpty_13 0 rfl ?_
      refine j_get (pc := 14) hX f_RX1_21 0 rfl rfl dX1_becomeEmpty_14 ?_
      refine j_len_i (pc := 17) hX 1 rfl dX1_becomeEmpty_17 ?_
      refine j_icmp_ge (pc := 18) (tgt := 34) hX dX1_becomeEmpty_18 (by decide) (nI_toInt (n := k) (by omega)) (nI_toInt (n := 16) (by decide)) (fun c18 => ?_) (fun c18 => ?_)
      · skip
        refine j_ia (q0 := 1) (f := g2) (g := fun _ => 0) rfl (fun z hz => by exact hg z (by omega)) (ws' := [(g, .inr (1, [.int (nI w), .int (nI h), .int t, .ref b])), (b, ia G 16 (fun _ => 0))]) rfl ?_
        exact j_vret (pc := 34) hX hR dX1_becomeEmpty_34 ⟨rfl, rfl⟩
      · skip
        refine j_aload_n (pc := 21) hX dX1_becomeEmpty_21 0 rfl ?_
        refine j_get (pc := 22) hX f_RX1_21 0 rfl rfl dX1_becomeEmpty_22 ?_
        refine j_iload_n (pc := 25) hX dX1_becomeEmpty_25 3 rfl ?_
        refine j_iconstN (pc := 26) (j := 0) hX dX1_becomeEmpty_26 rfl ?_
        refine j_iastN (pc := 27) (j := k) (ws' := [(g, .inr (1, [.int (nI w), .int (nI h), .int t, .ref b])), (b, ia G 16 (upd g2 k (nI 0)))]) hX 1 rfl (by omega) (by omega) rfl dX1_becomeEmpty_27 ?_
        refine j_iinc (pc := 28) (q := 3) (v := nI (k + 1)) (lv' := [(3, .int (nI (k + 1))), (0, .ref g), (1, .int (nI w)), (2, .int (nI h))]) hX dX1_becomeEmpty_28 rfl (nI_inc _ 1) (by decide) rfl ?_
        refine j_goto (pc := 31) (tgt := 12) hX dX1_becomeEmpty_31 (by decide) ?_
        refine j_lv [1, 2, 3, 0] (lv' := [(0, .ref g), (1, .int (nI w)), (2, .int (nI h)), (3, .int (nI (k + 1)))]) rfl ?_
        exact ih12 (k + 1) (upd g2 k (nI 0)) (by omega) (upd_fill (f := fun _ => 0) hg) (by omega)
  refine j_lv [1, 2, 3, 0] (lv' := [(0, .ref g), (1, .int (nI w)), (2, .int (nI h)), (3, .int (nI 0))]) rfl ?_
  exact L12 ((16 - 0) + 1) 0 f (by omega) (fun z hz => absurd hz (Nat.not_lt_zero _)) (Nat.lt_succ_self _)
set_option maxHeartbeats 4000000 in
set_option maxRecDepth 100000 in
theorem c_X1_copyOf (G : GT) (g W H : Nat) (t : Int32) (b : Nat) (f : Nat → Int32) (o W2 H2 : Nat) (t2 : Int32) (ob : Nat) (f2 : Nat → Int32)  (l : Launch) : CT l G yX1_copyOf cX1_copyOf 2 none { frames := 1, cells := 0, slots := 0, locals := 22 } [.ref g, .ref o] [(g, .inr (1, [.int (nI W), .int (nI H), .int t, .ref b])), (b, ia G 16 f), (o, .inr (1, [.int (nI W2), .int (nI H2), .int t2, .ref ob])), (ob, ia G 16 f2)] (fun vv ww => vv = none ∧ ww = [(g, .inr (1, [.int (nI W2), .int (nI H2), .int t2, .ref b])), (b, ia G 16 f2), (o, .inr (1, [.int (nI W2), .int (nI H2), .int t2, .ref ob])), (ob, ia G 16 f2)]) := by
  refine CT.of (lv := [(0, .ref g), (1, .ref o)]) RX1 "copyOf" rfl rfl (by decide +kernel) (Nat.le_of_ble_eq_true rfl) rfl (fun X hX hR => ?_)
  refine j_aload_n (pc := 0) hX dX1_copyOf_0 0 rfl ?_
  refine j_aload_n (pc := 1) hX dX1_copyOf_1 1 rfl ?_
  refine j_get (pc := 2) hX f_RX1_9 2 rfl rfl dX1_copyOf_2 ?_
  refine j_put (pc := 5) (ws' := [(g, .inr (1, [.int (nI W2), .int (nI H), .int t, .ref b])), (b, ia G 16 f), (o, .inr (1, [.int (nI W2), .int (nI H2), .int t2, .ref ob])), (ob, ia G 16 f2)]) hX f_RX1_9 0 rfl rfl rfl (Nat.le_of_ble_eq_true rfl) rfl dX1_copyOf_5 ?_
  refine j_aload_n (pc := 8) hX dX1_copyOf_8 0 rfl ?_
  refine j_aload_n (pc := 9) hX dX1_copyOf_9 1 rfl ?_
  refine j_get (pc := 10) hX f_RX1_15 2 rfl rfl dX1_copyOf_10 ?_
  refine j_put (pc := 13) (ws' := [(g, .inr (1, [.int (nI W2), .int (nI H2), .int t, .ref b])), (b, ia G 16 f), (o, .inr (1, [.int (nI W2), .int (nI H2), .int t2, .ref ob])), (ob, ia G 16 f2)]) hX f_RX1_15 0 rfl rfl rfl (Nat.le_of_ble_eq_true rfl) rfl dX1_copyOf_13 ?_
  refine j_aload_n (pc := 16) hX dX1_copyOf_16 0 rfl ?_
  refine j_aload_n (pc := 17) hX dX1_copyOf_17 1 rfl ?_
  refine j_get (pc := 18) hX f_RX1_18 2 rfl rfl dX1_copyOf_18 ?_
  refine j_put (pc := 21) (ws' := [(g, .inr (1, [.int (nI W2), .int (nI H2), .int t2, .ref b])), (b, ia G 16 f), (o, .inr (1, [.int (nI W2), .int (nI H2), .int t2, .ref ob])), (ob, ia G 16 f2)]) hX f_RX1_18 0 rfl rfl rfl (Nat.le_of_ble_eq_true rfl) rfl dX1_copyOf_21 ?_
  refine j_aload_n (pc := 24) hX dX1_copyOf_24 1 rfl ?_
  refine j_get (pc := 25) hX f_RX1_21 2 rfl rfl dX1_copyOf_25 ?_
  refine j_aload_n (pc := 28) hX dX1_copyOf_28 0 rfl ?_
  refine j_get (pc := 29) hX f_RX1_21 0 rfl rfl dX1_copyOf_29 ?_
  refine j_callSN (pc := 32) hX kX8_copy kSX8_copy l_RX1_44 (fun l => c_X8_copy G ob b 16 f2 f (by omega) l) [3, 1] [0, 2] [] rfl rfl rfl rfl ⟨rfl, rfl, by decide⟩ rfl rfl (Nat.le_of_ble_eq_true rfl) dX1_copyOf_32 (fun v w hq => ?_)
  obtain ⟨rfl, rfl⟩ := hq
  refine j_ws [0, 3, 1, 2] (ws' := [(g, .inr (1, [.int (nI W2), .int (nI H2), .int t2, .ref b])), (b, ia G 16 f2), (o, .inr (1, [.int (nI W2), .int (nI H2), .int t2, .ref ob])), (ob, ia G 16 f2)]) rfl rfl ?_
  exact j_vret (pc := 35) hX hR dX1_copyOf_35 ⟨rfl, rfl⟩
set_option maxHeartbeats 4000000 in
set_option maxRecDepth 100000 in
theorem c_X1_rowAt_any (G : GT) (g W H : Nat) (t : Int32) (b : Nat) (f : Nat → Int32) (y : Nat) (hy : y < 16) (l : Launch) : CT l G yX1_rowAt cX1_rowAt 2 (some .int) { frames := 1, cells := 0, slots := 0, locals := 21 } [.ref g, .int (nI y)] [(g, .inr (1, [.int (nI W), .int (nI H), .int t, .ref b])), (b, ia G 16 f)] (fun vv ww => vv = some (.int (f y)) ∧ ww = [(g, .inr (1, [.int (nI W), .int (nI H), .int t, .ref b])), (b, ia G 16 f)]) := by
  refine CT.of (lv := [(0, .ref g), (1, .int (nI y))]) RX1 "rowAt" rfl rfl (by decide +kernel) (Nat.le_of_ble_eq_true rfl) rfl (fun X hX hR => ?_)
  refine j_aload_n (pc := 0) hX dX1_rowAt_0 0 rfl ?_
  refine j_get (pc := 1) hX f_RX1_21 0 rfl rfl dX1_rowAt_1 ?_
  refine j_iload_n (pc := 4) hX dX1_rowAt_4 1 rfl ?_
  refine j_callSN (pc := 5) hX kX8_at kSX8_at l_RX1_25 (fun l => c_X8_at G b 16 f y (by omega) (by omega) l) [1] [0] [] rfl rfl rfl rfl ⟨rfl, rfl, by decide⟩ rfl rfl (Nat.le_of_ble_eq_true rfl) dX1_rowAt_5 (fun v w hq => ?_)
  obtain ⟨rfl, rfl⟩ := hq
  refine j_ws [0, 1] (ws' := [(g, .inr (1, [.int (nI W), .int (nI H), .int t, .ref b])), (b, ia G 16 f)]) rfl rfl ?_
  exact j_iret (pc := 8) hX hR dX1_rowAt_8 ⟨rfl, rfl⟩
set_option maxHeartbeats 4000000 in
set_option maxRecDepth 100000 in
theorem c_X1_isShifted (G : GT) (g W H : Nat) (t : Int32) (b : Nat) (f : Nat → Int32) (o W2 H2 : Nat) (t2 : Int32) (ob : Nat) (f2 : Nat → Int32) (dx dy : Nat) (hW1 : 2 ≤ W) (hW2 : W ≤ 16) (hH1 : 2 ≤ H) (hH2 : H ≤ 16) (hdx : dx ≤ W) (hdy : dy ≤ H) (l : Launch) : CT l G yX1_isShifted cX1_isShifted 7 (some .boolean) { frames := 2, cells := 0, slots := 0, locals := 42 } [.ref g, .ref o, .int (nI dx), .int (nI dy)] [(g, .inr (1, [.int (nI W), .int (nI H), .int t, .ref b])), (b, ia G 16 f), (o, .inr (1, [.int (nI W2), .int (nI H2), .int t2, .ref ob])), (ob, ia G 16 f2)] (fun vv ww => vv = some (.int (bI (shB W H f f2 dx dy))) ∧ ww = [(g, .inr (1, [.int (nI W), .int (nI H), .int t, .ref b])), (b, ia G 16 f), (o, .inr (1, [.int (nI W2), .int (nI H2), .int t2, .ref ob])), (ob, ia G 16 f2)]) := by
  refine CT.of (lv := [(0, .ref g), (1, .ref o), (2, .int (nI dx)), (3, .int (nI dy))]) RX1 "isShifted" rfl rfl (by decide +kernel) (Nat.le_of_ble_eq_true rfl) rfl (fun X hX hR => ?_)
  refine j_iconstN (pc := 0) (j := 0) hX dX1_isShifted_0 rfl ?_
  refine j_istore (pc := 1) (lv' := [(4, .int (nI 0)), (0, .ref g), (1, .ref o), (2, .int (nI dx)), (3, .int (nI dy))]) hX dX1_isShifted_1 (by decide) rfl ?_
  have L3 : ∀ (m3 : Nat) (k : Nat) (hk : k ≤ H) (hall : ∀ z, z < k → f (wr (z + dy) H) = rot W dx (f2 z)), H - k < m3 → J X G 7 0 0 [(g, .inr (1, [.int (nI W), .int (nI H), .int t, .ref b])), (b, ia G 16 f), (o, .inr (1, [.int (nI W2), .int (nI H2), .int t2, .ref ob])), (ob, ia G 16 f2)] [(0, .ref g), (1, .ref o), (2, .int (nI dx)), (3, .int (nI dy)), (4, .int (nI k))] 3 [] := by
    intro m3
    induction m3 with
    | zero => intro k hk hall hm3; exact absurd hm3 (Nat.not_lt_zero _)
    | succ m3 ih3 =>
      intro k hk hall hm3
      refine j_iload (pc := 3) hX dX1_isShifted_3 4 rfl ?_
      refine j_aload_n (pc := 5) hX dX1_isShifted_5 0 rfl ?_
      refine j_get (pc := 6) hX f_RX1_15 0 rfl rfl dX1_isShifted_6 ?_
      refine j_icmp_ge (pc := 9) (tgt := 76) hX dX1_isShifted_9 (by decide) (nI_toInt (n := k) (by omega)) (nI_toInt (n := H) (by omega)) (fun c9 => ?_) (fun c9 => ?_)
      · skip
        refine j_iconstN (pc := 76) (j := 1) hX dX1_isShifted_76 rfl ?_
        exact j_zret (pc := 77) hX hR (by decide) dX1_isShifted_77 ⟨congrArg some (show Value.int (nI 1) = Value.int (bI (shB W H f f2 dx dy)) from bI_tt (allB_t (fun z hz => decide_eq_true (hall z (by omega))))), rfl⟩
      · skip
        refine j_aload_n (pc := 12) hX dX1_isShifted_12 1 rfl ?_
        refine j_iload (pc := 13) hX dX1_isShifted_13 4 rfl ?_
        refine j_callV (pc := 15) hX kX1_rowAt kVX1_rowAt l_RX1_52 (fun l => c_X1_rowAt_any G o W2 H2 t2 ob f2 k (by omega) l) [2, 3] [0, 1] [] rfl 0 1 rfl rfl rfl rfl rfl rfl ⟨rfl, rfl, by decide⟩ rfl rfl (Nat.le_of_ble_eq_true rfl) dX1_isShifted_15 (fun v w hq => ?_)
        obtain ⟨rfl, rfl⟩ := hq
        refine j_ws [0, 1, 2, 3] (ws' := [(g, .inr (1, [.int (nI W), .int (nI H), .int t, .ref b])), (b, ia G 16 f), (o, .inr (1, [.int (nI W2), .int (nI H2), .int t2, .ref ob])), (ob, ia G 16 f2)]) rfl rfl ?_
        refine j_istore (pc := 18) (lv' := [(5, .int (f2 k)), (0, .ref g), (1, .ref o), (2, .int (nI dx)), (3, .int (nI dy)), (4, .int (nI k))]) hX dX1_isShifted_18 (by decide) rfl ?_
        refine j_iload (pc := 20) hX dX1_isShifted_20 0 rfl ?_
        refine j_iload_n (pc := 22) hX dX1_isShifted_22 3 rfl ?_
        refine j_ishl (pc := 23) hX dX1_isShifted_23 ?_
        refine j_iload (pc := 24) hX dX1_isShifted_24 0 rfl ?_
        refine j_aload_n (pc := 26) hX dX1_isShifted_26 1 rfl ?_
        refine j_get (pc := 27) hX f_RX1_9 0 rfl rfl dX1_isShifted_27 ?_
        refine j_iload_n (pc := 30) hX dX1_isShifted_30 3 rfl ?_
        refine j_isub (pc := 31) hX dX1_isShifted_31 ?_
        refine j_topi (y := nI (W - dx)) (pk_sub (by omega)) ?_
        refine j_ishr (pc := 32) hX dX1_isShifted_32 ?_
        refine j_ior (pc := 33) hX dX1_isShifted_33 ?_
        refine j_iconstN (pc := 34) (j := 1) hX dX1_isShifted_34 rfl ?_
        refine j_aload_n (pc := 35) hX dX1_isShifted_35 1 rfl ?_
        refine j_get (pc := 36) hX f_RX1_9 0 rfl rfl dX1_isShifted_36 ?_
        refine j_ishl (pc := 39) hX dX1_isShifted_39 ?_
        refine j_iconstN (pc := 40) (j := 1) hX dX1_isShifted_40 rfl ?_
        refine j_isub (pc := 41) hX dX1_isShifted_41 ?_
        refine j_iand (pc := 42) hX dX1_isShifted_42 ?_
        refine j_topi (y := rot W dx (f2 k)) (rfl) ?_
        refine j_istore (pc := 43) (lv' := [(6, .int (rot W dx (f2 k))), (5, .int (f2 k)), (0, .ref g), (1, .ref o), (2, .int (nI dx)), (3, .int (nI dy)), (4, .int (nI k))]) hX dX1_isShifted_43 (by decide) rfl ?_
        refine j_aload_n (pc := 45) hX dX1_isShifted_45 2 rfl ?_
        refine j_get (pc := 46) hX f_RX1_21 0 rfl rfl dX1_isShifted_46 ?_
        refine j_iload (pc := 49) hX dX1_isShifted_49 6 rfl ?_
        refine j_iload_n (pc := 51) hX dX1_isShifted_51 5 rfl ?_
        refine j_iadd (pc := 52) hX dX1_isShifted_52 ?_
        refine j_topi (y := nI (k + dy)) (nI_add _ _) ?_
        refine j_aload_n (pc := 53) hX dX1_isShifted_53 2 rfl ?_
        have hwr := wr_lt (k := k + dy) (n := H) (by omega)
        refine j_get (pc := 54) hX f_RX1_15 0 rfl rfl dX1_isShifted_54 ?_
        refine j_callSN (pc := 57) hX kX8_closedRound kSX8_closedRound l_RX1_55 (fun l => c_X8_closedRound G (k + dy) H (by omega) (by omega) l) [] [0, 1, 2, 3] [.ref b] rfl rfl rfl rfl ⟨rfl, rfl, by decide⟩ rfl rfl (Nat.le_of_ble_eq_true rfl) dX1_isShifted_57 (fun v w hq => ?_)
        obtain ⟨rfl, rfl⟩ := hq
        refine j_ws [0, 1, 2, 3] (ws' := [(g, .inr (1, [.int (nI W), .int (nI H), .int t, .ref b])), (b, ia G 16 f), (o, .inr (1, [.int (nI W2), .int (nI H2), .int t2, .ref ob])), (ob, ia G 16 f2)]) rfl rfl ?_
        refine j_callSN (pc := 60) hX kX8_at kSX8_at l_RX1_25 (fun l => c_X8_at G b 16 f (wr (k + dy) H) (by omega) (by omega) l) [1] [0, 2, 3] [] rfl rfl rfl rfl ⟨rfl, rfl, by decide⟩ rfl rfl (Nat.le_of_ble_eq_true rfl) dX1_isShifted_60 (fun v w hq => ?_)
        obtain ⟨rfl, rfl⟩ := hq
        refine j_ws [0, 3, 1, 2] (ws' := [(g, .inr (1, [.int (nI W), .int (nI H), .int t, .ref b])), (b, ia G 16 f), (o, .inr (1, [.int (nI W2), .int (nI H2), .int t2, .ref ob])), (ob, ia G 16 f2)]) rfl rfl ?_
        refine j_iload (pc := 63) hX dX1_isShifted_63 0 rfl ?_
        refine j_icmp_eq (pc := 65) (tgt := 70) hX dX1_isShifted_65 (by decide) rfl rfl (fun c65 => ?_) (fun c65 => ?_)
        · skip
          refine j_iinc (pc := 70) (q := 6) (v := nI (k + 1)) (lv' := [(4, .int (nI (k + 1))), (6, .int (rot W dx (f2 k))), (5, .int (f2 k)), (0, .ref g), (1, .ref o), (2, .int (nI dx)), (3, .int (nI dy))]) hX dX1_isShifted_70 rfl (nI_inc _ 1) (by decide) rfl ?_
          refine j_goto (pc := 73) (tgt := 3) hX dX1_isShifted_73 (by decide) ?_
          refine j_lv [3, 4, 5, 6, 0] (lv' := [(0, .ref g), (1, .ref o), (2, .int (nI dx)), (3, .int (nI dy)), (4, .int (nI (k + 1)))]) rfl ?_
          exact ih3 (k + 1) (by omega) (lt_s hall (Int32.toInt_inj.mp c65)) (by omega)
        · skip
          refine j_iconstN (pc := 68) (j := 0) hX dX1_isShifted_68 rfl ?_
          exact j_zret (pc := 69) hX hR (by decide) dX1_isShifted_69 ⟨congrArg some (show Value.int (nI 0) = Value.int (bI (shB W H f f2 dx dy)) from bI_ff (allB_f (z := k) (by omega) (decide_eq_false (fun h => c65 (by rw [h]))))), rfl⟩
  refine j_lv [1, 2, 3, 4, 0] (lv' := [(0, .ref g), (1, .ref o), (2, .int (nI dx)), (3, .int (nI dy)), (4, .int (nI 0))]) rfl ?_
  exact L3 ((H - 0) + 1) 0 (by omega) (fun z hz => absurd hz (Nat.not_lt_zero _)) (Nat.lt_succ_self _)
set_option maxHeartbeats 4000000 in
set_option maxRecDepth 100000 in
theorem c_X1_hasCellsOf (G : GT) (g W H : Nat) (t : Int32) (b : Nat) (f : Nat → Int32) (o W2 H2 : Nat) (t2 : Int32) (ob : Nat) (f2 : Nat → Int32) (hW1 : 2 ≤ W) (hW2 : W ≤ 16) (hH1 : 2 ≤ H) (hH2 : H ≤ 16) (l : Launch) : CT l G yX1_hasCellsOf cX1_hasCellsOf 2 (some .boolean) { frames := 3, cells := 0, slots := 0, locals := 68 } [.ref g, .ref o] [(g, .inr (1, [.int (nI W), .int (nI H), .int t, .ref b])), (b, ia G 16 f), (o, .inr (1, [.int (nI W2), .int (nI H2), .int t2, .ref ob])), (ob, ia G 16 f2)] (fun vv ww => vv = some (.int (bI (shB W H f f2 0 0))) ∧ ww = [(g, .inr (1, [.int (nI W), .int (nI H), .int t, .ref b])), (b, ia G 16 f), (o, .inr (1, [.int (nI W2), .int (nI H2), .int t2, .ref ob])), (ob, ia G 16 f2)]) := by
  refine CT.of (lv := [(0, .ref g), (1, .ref o)]) RX1 "hasCellsOf" rfl rfl (by decide +kernel) (Nat.le_of_ble_eq_true rfl) rfl (fun X hX hR => ?_)
  refine j_aload_n (pc := 0) hX dX1_hasCellsOf_0 0 rfl ?_
  refine j_aload_n (pc := 1) hX dX1_hasCellsOf_1 1 rfl ?_
  refine j_iconstN (pc := 2) (j := 0) hX dX1_hasCellsOf_2 rfl ?_
  refine j_iconstN (pc := 3) (j := 0) hX dX1_hasCellsOf_3 rfl ?_
  refine j_callV (pc := 4) hX kX1_isShifted kVX1_isShifted l_RX1_48 (fun l => c_X1_isShifted G g W H t b f o W2 H2 t2 ob f2 0 0 (by omega) (by omega) (by omega) (by omega) (by omega) (by omega) l) [0, 1, 2, 3] [] [] rfl 0 1 rfl rfl rfl rfl rfl rfl ⟨rfl, rfl, by decide⟩ rfl rfl (Nat.le_of_ble_eq_true rfl) dX1_hasCellsOf_4 (fun v w hq => ?_)
  obtain ⟨rfl, rfl⟩ := hq
  refine j_ws [0, 1, 2, 3] (ws' := [(g, .inr (1, [.int (nI W), .int (nI H), .int t, .ref b])), (b, ia G 16 f), (o, .inr (1, [.int (nI W2), .int (nI H2), .int t2, .ref ob])), (ob, ia G 16 f2)]) rfl rfl ?_
  exact j_zret (pc := 7) hX hR (bI_nar _) dX1_hasCellsOf_7 ⟨rfl, rfl⟩
set_option maxHeartbeats 4000000 in
set_option maxRecDepth 100000 in
theorem c_X1_pairOf (G : GT) (row : Int32) (x y : Nat) (hx : x < 32) (hy : y < 32) (l : Launch) : CT l G yX1_pairOf cX1_pairOf 3 (some .int) { frames := 0, cells := 0, slots := 0, locals := 0 } [.int row, .int (nI x), .int (nI y)] [] (fun vv ww => vv = some (.int (nI (prN row x y))) ∧ ww = []) := by
  refine CT.of (lv := [(0, .int row), (1, .int (nI x)), (2, .int (nI y))]) RX1 "pairOf" rfl rfl (by decide +kernel) (Nat.le_of_ble_eq_true rfl) rfl (fun X hX hR => ?_)
  refine j_iload_n (pc := 0) hX dX1_pairOf_0 0 rfl ?_
  refine j_iload_n (pc := 1) hX dX1_pairOf_1 1 rfl ?_
  refine j_ishr (pc := 2) hX dX1_pairOf_2 ?_
  refine j_iconstN (pc := 3) (j := 1) hX dX1_pairOf_3 rfl ?_
  refine j_iand (pc := 4) hX dX1_pairOf_4 ?_
  refine j_topi (y := bI (bt row x)) (bt_raw _ (by omega)) ?_
  refine j_iload_n (pc := 5) hX dX1_pairOf_5 0 rfl ?_
  refine j_iload_n (pc := 6) hX dX1_pairOf_6 2 rfl ?_
  refine j_ishr (pc := 7) hX dX1_pairOf_7 ?_
  refine j_iconstN (pc := 8) (j := 1) hX dX1_pairOf_8 rfl ?_
  refine j_iand (pc := 9) hX dX1_pairOf_9 ?_
  refine j_topi (y := bI (bt row y)) (bt_raw _ (by omega)) ?_
  refine j_iconstN (pc := 10) (j := 1) hX dX1_pairOf_10 rfl ?_
  refine j_ishl (pc := 11) hX dX1_pairOf_11 ?_
  refine j_ior (pc := 12) hX dX1_pairOf_12 ?_
  exact j_iret (pc := 13) hX hR dX1_pairOf_13 ⟨congrArg some (show Value.int ((bI (bt row x)) ||| ((bI (bt row y)) <<< ((nI 1) &&& 31))) = Value.int (nI (prN row x y)) from by unfold prN; generalize bt row x = p1; generalize bt row y = p2; cases p1 <;> cases p2 <;> rfl), rfl⟩
set_option maxHeartbeats 4000000 in
set_option maxRecDepth 100000 in
theorem c_X1_withPair (G : GT) (row : Int32) (x y : Nat) (p : Int32)  (l : Launch) : CT l G yX1_withPair cX1_withPair 5 (some .int) { frames := 0, cells := 0, slots := 0, locals := 0 } [.int row, .int (nI x), .int (nI y), .int p] [] (fun vv ww => vv = some (.int (wpr row x y p)) ∧ ww = []) := by
  refine CT.of (lv := [(0, .int row), (1, .int (nI x)), (2, .int (nI y)), (3, .int p)]) RX1 "withPair" rfl rfl (by decide +kernel) (Nat.le_of_ble_eq_true rfl) rfl (fun X hX hR => ?_)
  refine j_iload_n (pc := 0) hX dX1_withPair_0 0 rfl ?_
  refine j_iconstN (pc := 1) (j := 1) hX dX1_withPair_1 rfl ?_
  refine j_iload_n (pc := 2) hX dX1_withPair_2 1 rfl ?_
  refine j_ishl (pc := 3) hX dX1_withPair_3 ?_
  refine j_iconstN (pc := 4) (j := 1) hX dX1_withPair_4 rfl ?_
  refine j_iload_n (pc := 5) hX dX1_withPair_5 2 rfl ?_
  refine j_ishl (pc := 6) hX dX1_withPair_6 ?_
  refine j_ior (pc := 7) hX dX1_withPair_7 ?_
  refine j_iconst (pc := 8) (v := (-1)) hX dX1_withPair_8 (by decide) ?_
  refine j_ixor (pc := 9) hX dX1_withPair_9 ?_
  refine j_iand (pc := 10) hX dX1_withPair_10 ?_
  refine j_istore (pc := 11) (lv' := [(4, .int (row &&& ((((nI 1) <<< ((nI x) &&& 31)) ||| ((nI 1) <<< ((nI y) &&& 31))) ^^^ (-1)))), (0, .int row), (1, .int (nI x)), (2, .int (nI y)), (3, .int p)]) hX dX1_withPair_11 (by decide) rfl ?_
  refine j_iload (pc := 13) hX dX1_withPair_13 0 rfl ?_
  refine j_iload_n (pc := 15) hX dX1_withPair_15 4 rfl ?_
  refine j_iconstN (pc := 16) (j := 1) hX dX1_withPair_16 rfl ?_
  refine j_iand (pc := 17) hX dX1_withPair_17 ?_
  refine j_iload_n (pc := 18) hX dX1_withPair_18 2 rfl ?_
  refine j_ishl (pc := 19) hX dX1_withPair_19 ?_
  refine j_ior (pc := 20) hX dX1_withPair_20 ?_
  refine j_iload_n (pc := 21) hX dX1_withPair_21 4 rfl ?_
  refine j_iconstN (pc := 22) (j := 1) hX dX1_withPair_22 rfl ?_
  refine j_ishr (pc := 23) hX dX1_withPair_23 ?_
  refine j_iconstN (pc := 24) (j := 1) hX dX1_withPair_24 rfl ?_
  refine j_iand (pc := 25) hX dX1_withPair_25 ?_
  refine j_iload_n (pc := 26) hX dX1_withPair_26 3 rfl ?_
  refine j_ishl (pc := 27) hX dX1_withPair_27 ?_
  refine j_ior (pc := 28) hX dX1_withPair_28 ?_
  exact j_iret (pc := 29) hX hR dX1_withPair_29 ⟨congrArg some (show Value.int (((row &&& ((((nI 1) <<< ((nI x) &&& 31)) ||| ((nI 1) <<< ((nI y) &&& 31))) ^^^ (-1))) ||| ((p &&& (nI 1)) <<< ((nI x) &&& 31))) ||| (((p >>> ((nI 1) &&& 31)) &&& (nI 1)) <<< ((nI y) &&& 31))) = Value.int (wpr row x y p) from by rfl), rfl⟩
set_option maxHeartbeats 4000000 in
set_option maxRecDepth 100000 in
theorem c_X1_stateOf (G : GT) (g W H : Nat) (t : Int32) (b : Nat) (f : Nat → Int32) (x y : Nat) (hW1 : 2 ≤ W) (hW2 : W ≤ 16) (hH1 : 2 ≤ H) (hH2 : H ≤ 16) (hx : x < W) (hy : y < H) (l : Launch) : CT l G yX1_stateOf cX1_stateOf 6 (some .int) { frames := 1, cells := 0, slots := 0, locals := 22 } [.ref g, .int (nI x), .int (nI y)] [(g, .inr (1, [.int (nI W), .int (nI H), .int t, .ref b])), (b, ia G 16 f)] (fun vv ww => vv = some (.int (nI (stA W H f x y))) ∧ ww = [(g, .inr (1, [.int (nI W), .int (nI H), .int t, .ref b])), (b, ia G 16 f)]) := by
  refine CT.of (lv := [(0, .ref g), (1, .int (nI x)), (2, .int (nI y))]) RX1 "stateOf" rfl rfl (by decide +kernel) (Nat.le_of_ble_eq_true rfl) rfl (fun X hX hR => ?_)
  have hx2 := wr_lt (k := x + 1) (n := W) (by omega)
  have hy2 := wr_lt (k := y + 1) (n := H) (by omega)
  refine j_iload_n (pc := 0) hX dX1_stateOf_0 1 rfl ?_
  refine j_iconstN (pc := 1) (j := 1) hX dX1_stateOf_1 rfl ?_
  refine j_iadd (pc := 2) hX dX1_stateOf_2 ?_
  refine j_topi (y := nI (x + 1)) (nI_add _ _) ?_
  refine j_aload_n (pc := 3) hX dX1_stateOf_3 0 rfl ?_
  refine j_get (pc := 4) hX f_RX1_9 0 rfl rfl dX1_stateOf_4 ?_
  refine j_callSN (pc := 7) hX kX8_closedRound kSX8_closedRound l_RX1_55 (fun l => c_X8_closedRound G (x + 1) W (by omega) (by omega) l) [] [0, 1] [] rfl rfl rfl rfl ⟨rfl, rfl, by decide⟩ rfl rfl (Nat.le_of_ble_eq_true rfl) dX1_stateOf_7 (fun v w hq => ?_)
  obtain ⟨rfl, rfl⟩ := hq
  refine j_ws [0, 1] (ws' := [(g, .inr (1, [.int (nI W), .int (nI H), .int t, .ref b])), (b, ia G 16 f)]) rfl rfl ?_
  refine j_istore_n (pc := 10) (lv' := [(3, .int (nI (wr (x + 1) W))), (0, .ref g), (1, .int (nI x)), (2, .int (nI y))]) hX dX1_stateOf_10 (by decide) rfl ?_
  refine j_aload_n (pc := 11) hX dX1_stateOf_11 1 rfl ?_
  refine j_get (pc := 12) hX f_RX1_21 0 rfl rfl dX1_stateOf_12 ?_
  refine j_iload_n (pc := 15) hX dX1_stateOf_15 3 rfl ?_
  refine j_callSN (pc := 16) hX kX8_at kSX8_at l_RX1_25 (fun l => c_X8_at G b 16 f y (by omega) (by omega) l) [1] [0] [] rfl rfl rfl rfl ⟨rfl, rfl, by decide⟩ rfl rfl (Nat.le_of_ble_eq_true rfl) dX1_stateOf_16 (fun v w hq => ?_)
  obtain ⟨rfl, rfl⟩ := hq
  refine j_ws [0, 1] (ws' := [(g, .inr (1, [.int (nI W), .int (nI H), .int t, .ref b])), (b, ia G 16 f)]) rfl rfl ?_
  refine j_istore (pc := 19) (lv' := [(4, .int (f y)), (3, .int (nI (wr (x + 1) W))), (0, .ref g), (1, .int (nI x)), (2, .int (nI y))]) hX dX1_stateOf_19 (by decide) rfl ?_
  refine j_aload_n (pc := 21) hX dX1_stateOf_21 2 rfl ?_
  refine j_get (pc := 22) hX f_RX1_21 0 rfl rfl dX1_stateOf_22 ?_
  refine j_iload_n (pc := 25) hX dX1_stateOf_25 4 rfl ?_
  refine j_iconstN (pc := 26) (j := 1) hX dX1_stateOf_26 rfl ?_
  refine j_iadd (pc := 27) hX dX1_stateOf_27 ?_
  refine j_topi (y := nI (y + 1)) (nI_add _ _) ?_
  refine j_aload_n (pc := 28) hX dX1_stateOf_28 2 rfl ?_
  refine j_get (pc := 29) hX f_RX1_15 0 rfl rfl dX1_stateOf_29 ?_
  refine j_callSN (pc := 32) hX kX8_closedRound kSX8_closedRound l_RX1_55 (fun l => c_X8_closedRound G (y + 1) H (by omega) (by omega) l) [] [0, 1] [.ref b] rfl rfl rfl rfl ⟨rfl, rfl, by decide⟩ rfl rfl (Nat.le_of_ble_eq_true rfl) dX1_stateOf_32 (fun v w hq => ?_)
  obtain ⟨rfl, rfl⟩ := hq
  refine j_ws [0, 1] (ws' := [(g, .inr (1, [.int (nI W), .int (nI H), .int t, .ref b])), (b, ia G 16 f)]) rfl rfl ?_
  refine j_callSN (pc := 35) hX kX8_at kSX8_at l_RX1_25 (fun l => c_X8_at G b 16 f (wr (y + 1) H) (by omega) (by omega) l) [1] [0] [] rfl rfl rfl rfl ⟨rfl, rfl, by decide⟩ rfl rfl (Nat.le_of_ble_eq_true rfl) dX1_stateOf_35 (fun v w hq => ?_)
  obtain ⟨rfl, rfl⟩ := hq
  refine j_ws [0, 1] (ws' := [(g, .inr (1, [.int (nI W), .int (nI H), .int t, .ref b])), (b, ia G 16 f)]) rfl rfl ?_
  refine j_istore (pc := 38) (lv' := [(5, .int (f (wr (y + 1) H))), (4, .int (f y)), (3, .int (nI (wr (x + 1) W))), (0, .ref g), (1, .int (nI x)), (2, .int (nI y))]) hX dX1_stateOf_38 (by decide) rfl ?_
  refine j_iload (pc := 40) hX dX1_stateOf_40 1 rfl ?_
  refine j_iload_n (pc := 42) hX dX1_stateOf_42 4 rfl ?_
  refine j_iload_n (pc := 43) hX dX1_stateOf_43 2 rfl ?_
  refine j_callS (pc := 44) hX kX1_pairOf kSX1_pairOf l_RX1_66 (fun l => c_X1_pairOf G (f y) x (wr (x + 1) W) (by omega) (by omega) l) [] [0, 1] [] rfl rfl rfl rfl ⟨rfl, rfl, by decide⟩ rfl rfl (Nat.le_of_ble_eq_true rfl) dX1_stateOf_44 (fun v w hq => ?_)
  obtain ⟨rfl, rfl⟩ := hq
  refine j_ws [0, 1] (ws' := [(g, .inr (1, [.int (nI W), .int (nI H), .int t, .ref b])), (b, ia G 16 f)]) rfl rfl ?_
  refine j_iload (pc := 47) hX dX1_stateOf_47 0 rfl ?_
  refine j_iload_n (pc := 49) hX dX1_stateOf_49 4 rfl ?_
  refine j_iload_n (pc := 50) hX dX1_stateOf_50 2 rfl ?_
  refine j_callS (pc := 51) hX kX1_pairOf kSX1_pairOf l_RX1_66 (fun l => c_X1_pairOf G (f (wr (y + 1) H)) x (wr (x + 1) W) (by omega) (by omega) l) [] [0, 1] [.int (nI (prN (f y) x (wr (x + 1) W)))] rfl rfl rfl rfl ⟨rfl, rfl, by decide⟩ rfl rfl (Nat.le_of_ble_eq_true rfl) dX1_stateOf_51 (fun v w hq => ?_)
  obtain ⟨rfl, rfl⟩ := hq
  refine j_ws [0, 1] (ws' := [(g, .inr (1, [.int (nI W), .int (nI H), .int t, .ref b])), (b, ia G 16 f)]) rfl rfl ?_
  have hp2 := prN_lt (f (wr (y + 1) H)) x (wr (x + 1) W)
  refine j_iconstN (pc := 54) (j := 2) hX dX1_stateOf_54 rfl ?_
  refine j_ishl (pc := 55) hX dX1_stateOf_55 ?_
  refine j_topi (y := nI ((prN (f (wr (y + 1) H)) x (wr (x + 1) W)) * 4)) (pk_shlN _ 2 (by decide) (by omega)) ?_
  refine j_ior (pc := 56) hX dX1_stateOf_56 ?_
  refine j_topi (y := nI ((prN (f y) x (wr (x + 1) W)) ||| ((prN (f (wr (y + 1) H)) x (wr (x + 1) W)) * 4))) (nx_or _ _) ?_
  exact j_iret (pc := 57) hX hR dX1_stateOf_57 ⟨congrArg some (show Value.int (nI ((prN (f y) x (wr (x + 1) W)) ||| ((prN (f (wr (y + 1) H)) x (wr (x + 1) W)) * 4))) = Value.int (nI (stA W H f x y)) from rfl), rfl⟩
set_option maxHeartbeats 4000000 in
set_option maxRecDepth 100000 in
theorem c_X1_putState (G : GT) (g W H : Nat) (t : Int32) (b : Nat) (f : Nat → Int32) (x y : Nat) (s : Int32) (hW1 : 2 ≤ W) (hW2 : W ≤ 16) (hH1 : 2 ≤ H) (hH2 : H ≤ 16) (hx : x < W) (hy : y < H) (l : Launch) : CT l G yX1_putState cX1_putState 6 none { frames := 1, cells := 0, slots := 0, locals := 24 } [.ref g, .int (nI x), .int (nI y), .int s] [(g, .inr (1, [.int (nI W), .int (nI H), .int t, .ref b])), (b, ia G 16 f)] (fun vv ww => vv = none ∧ ww = [(g, .inr (1, [.int (nI W), .int (nI H), .int t, .ref b])), (b, ia G 16 (ptA W H f x y s))]) := by
  refine CT.of (lv := [(0, .ref g), (1, .int (nI x)), (2, .int (nI y)), (3, .int s)]) RX1 "putState" rfl rfl (by decide +kernel) (Nat.le_of_ble_eq_true rfl) rfl (fun X hX hR => ?_)
  have hx2 := wr_lt (k := x + 1) (n := W) (by omega)
  have hy2 := wr_lt (k := y + 1) (n := H) (by omega)
  refine j_iload_n (pc := 0) hX dX1_putState_0 1 rfl ?_
  refine j_iconstN (pc := 1) (j := 1) hX dX1_putState_1 rfl ?_
  refine j_iadd (pc := 2) hX dX1_putState_2 ?_
  refine j_topi (y := nI (x + 1)) (nI_add _ _) ?_
  refine j_aload_n (pc := 3) hX dX1_putState_3 0 rfl ?_
  refine j_get (pc := 4) hX f_RX1_9 0 rfl rfl dX1_putState_4 ?_
  refine j_callSN (pc := 7) hX kX8_closedRound kSX8_closedRound l_RX1_55 (fun l => c_X8_closedRound G (x + 1) W (by omega) (by omega) l) [] [0, 1] [] rfl rfl rfl rfl ⟨rfl, rfl, by decide⟩ rfl rfl (Nat.le_of_ble_eq_true rfl) dX1_putState_7 (fun v w hq => ?_)
  obtain ⟨rfl, rfl⟩ := hq
  refine j_ws [0, 1] (ws' := [(g, .inr (1, [.int (nI W), .int (nI H), .int t, .ref b])), (b, ia G 16 f)]) rfl rfl ?_
  refine j_istore (pc := 10) (lv' := [(4, .int (nI (wr (x + 1) W))), (0, .ref g), (1, .int (nI x)), (2, .int (nI y)), (3, .int s)]) hX dX1_putState_10 (by decide) rfl ?_
  refine j_iload_n (pc := 12) hX dX1_putState_12 3 rfl ?_
  refine j_iconstN (pc := 13) (j := 1) hX dX1_putState_13 rfl ?_
  refine j_iadd (pc := 14) hX dX1_putState_14 ?_
  refine j_topi (y := nI (y + 1)) (nI_add _ _) ?_
  refine j_aload_n (pc := 15) hX dX1_putState_15 1 rfl ?_
  refine j_get (pc := 16) hX f_RX1_15 0 rfl rfl dX1_putState_16 ?_
  refine j_callSN (pc := 19) hX kX8_closedRound kSX8_closedRound l_RX1_55 (fun l => c_X8_closedRound G (y + 1) H (by omega) (by omega) l) [] [0, 1] [] rfl rfl rfl rfl ⟨rfl, rfl, by decide⟩ rfl rfl (Nat.le_of_ble_eq_true rfl) dX1_putState_19 (fun v w hq => ?_)
  obtain ⟨rfl, rfl⟩ := hq
  refine j_ws [0, 1] (ws' := [(g, .inr (1, [.int (nI W), .int (nI H), .int t, .ref b])), (b, ia G 16 f)]) rfl rfl ?_
  refine j_istore (pc := 22) (lv' := [(5, .int (nI (wr (y + 1) H))), (4, .int (nI (wr (x + 1) W))), (0, .ref g), (1, .int (nI x)), (2, .int (nI y)), (3, .int s)]) hX dX1_putState_22 (by decide) rfl ?_
  refine j_aload_n (pc := 24) hX dX1_putState_24 2 rfl ?_
  refine j_get (pc := 25) hX f_RX1_21 0 rfl rfl dX1_putState_25 ?_
  refine j_iload_n (pc := 28) hX dX1_putState_28 4 rfl ?_
  refine j_aload_n (pc := 29) hX dX1_putState_29 2 rfl ?_
  refine j_get (pc := 30) hX f_RX1_21 0 rfl rfl dX1_putState_30 ?_
  refine j_iload_n (pc := 33) hX dX1_putState_33 4 rfl ?_
  refine j_callSN (pc := 34) hX kX8_at kSX8_at l_RX1_25 (fun l => c_X8_at G b 16 f y (by omega) (by omega) l) [1] [0] [.int (nI y), .ref b] rfl rfl rfl rfl ⟨rfl, rfl, by decide⟩ rfl rfl (Nat.le_of_ble_eq_true rfl) dX1_putState_34 (fun v w hq => ?_)
  obtain ⟨rfl, rfl⟩ := hq
  refine j_ws [0, 1] (ws' := [(g, .inr (1, [.int (nI W), .int (nI H), .int t, .ref b])), (b, ia G 16 f)]) rfl rfl ?_
  refine j_iload_n (pc := 37) hX dX1_putState_37 3 rfl ?_
  refine j_iload (pc := 38) hX dX1_putState_38 1 rfl ?_
  refine j_iload_n (pc := 40) hX dX1_putState_40 5 rfl ?_
  refine j_callS (pc := 41) hX kX1_withPair kSX1_withPair l_RX1_70 (fun l => c_X1_withPair G (f y) x (wr (x + 1) W) s  l) [] [0, 1] [.int (nI y), .ref b] rfl rfl rfl rfl ⟨rfl, rfl, by decide⟩ rfl rfl (Nat.le_of_ble_eq_true rfl) dX1_putState_41 (fun v w hq => ?_)
  obtain ⟨rfl, rfl⟩ := hq
  refine j_ws [0, 1] (ws' := [(g, .inr (1, [.int (nI W), .int (nI H), .int t, .ref b])), (b, ia G 16 f)]) rfl rfl ?_
  refine j_callSN (pc := 44) hX kX8_put kSX8_put l_RX1_29 (fun l => c_X8_put G b 16 f y (wpr (f y) x (wr (x + 1) W) s) (by omega) (by omega) l) [1] [0] [] rfl rfl rfl rfl ⟨rfl, rfl, by decide⟩ rfl rfl (Nat.le_of_ble_eq_true rfl) dX1_putState_44 (fun v w hq => ?_)
  obtain ⟨rfl, rfl⟩ := hq
  refine j_ws [0, 1] (ws' := [(g, .inr (1, [.int (nI W), .int (nI H), .int t, .ref b])), (b, ia G 16 (upd f y (wpr (f y) x (wr (x + 1) W) s)))]) rfl rfl ?_
  refine j_aload_n (pc := 47) hX dX1_putState_47 2 rfl ?_
  refine j_get (pc := 48) hX f_RX1_21 0 rfl rfl dX1_putState_48 ?_
  refine j_iload (pc := 51) hX dX1_putState_51 0 rfl ?_
  refine j_aload_n (pc := 53) hX dX1_putState_53 2 rfl ?_
  refine j_get (pc := 54) hX f_RX1_21 0 rfl rfl dX1_putState_54 ?_
  refine j_iload (pc := 57) hX dX1_putState_57 0 rfl ?_
  refine j_callSN (pc := 59) hX kX8_at kSX8_at l_RX1_25 (fun l => c_X8_at G b 16 (upd f y (wpr (f y) x (wr (x + 1) W) s)) (wr (y + 1) H) (by omega) (by omega) l) [1] [0] [.int (nI (wr (y + 1) H)), .ref b] rfl rfl rfl rfl ⟨rfl, rfl, by decide⟩ rfl rfl (Nat.le_of_ble_eq_true rfl) dX1_putState_59 (fun v w hq => ?_)
  obtain ⟨rfl, rfl⟩ := hq
  refine j_ws [0, 1] (ws' := [(g, .inr (1, [.int (nI W), .int (nI H), .int t, .ref b])), (b, ia G 16 (upd f y (wpr (f y) x (wr (x + 1) W) s)))]) rfl rfl ?_
  refine j_iload_n (pc := 62) hX dX1_putState_62 3 rfl ?_
  refine j_iload (pc := 63) hX dX1_putState_63 1 rfl ?_
  refine j_iload_n (pc := 65) hX dX1_putState_65 5 rfl ?_
  refine j_iconstN (pc := 66) (j := 2) hX dX1_putState_66 rfl ?_
  refine j_ishr (pc := 67) hX dX1_putState_67 ?_
  refine j_callS (pc := 68) hX kX1_withPair kSX1_withPair l_RX1_70 (fun l => c_X1_withPair G ((upd f y (wpr (f y) x (wr (x + 1) W) s)) (wr (y + 1) H)) x (wr (x + 1) W) (s >>> ((nI 2) &&& 31))  l) [] [0, 1] [.int (nI (wr (y + 1) H)), .ref b] rfl rfl rfl rfl ⟨rfl, rfl, by decide⟩ rfl rfl (Nat.le_of_ble_eq_true rfl) dX1_putState_68 (fun v w hq => ?_)
  obtain ⟨rfl, rfl⟩ := hq
  refine j_ws [0, 1] (ws' := [(g, .inr (1, [.int (nI W), .int (nI H), .int t, .ref b])), (b, ia G 16 (upd f y (wpr (f y) x (wr (x + 1) W) s)))]) rfl rfl ?_
  refine j_callSN (pc := 71) hX kX8_put kSX8_put l_RX1_29 (fun l => c_X8_put G b 16 (upd f y (wpr (f y) x (wr (x + 1) W) s)) (wr (y + 1) H) (wpr ((upd f y (wpr (f y) x (wr (x + 1) W) s)) (wr (y + 1) H)) x (wr (x + 1) W) (s >>> ((nI 2) &&& 31))) (by omega) (by omega) l) [1] [0] [] rfl rfl rfl rfl ⟨rfl, rfl, by decide⟩ rfl rfl (Nat.le_of_ble_eq_true rfl) dX1_putState_71 (fun v w hq => ?_)
  obtain ⟨rfl, rfl⟩ := hq
  refine j_ws [0, 1] (ws' := [(g, .inr (1, [.int (nI W), .int (nI H), .int t, .ref b])), (b, ia G 16 (upd (upd f y (wpr (f y) x (wr (x + 1) W) s)) (wr (y + 1) H) (wpr ((upd f y (wpr (f y) x (wr (x + 1) W) s)) (wr (y + 1) H)) x (wr (x + 1) W) (s >>> ((nI 2) &&& 31)))))]) rfl rfl ?_
  refine j_ia (q0 := 1) (f := upd (upd f y (wpr (f y) x (wr (x + 1) W) s)) (wr (y + 1) H) (wpr ((upd f y (wpr (f y) x (wr (x + 1) W) s)) (wr (y + 1) H)) x (wr (x + 1) W) (s >>> ((nI 2) &&& 31)))) (g := ptA W H f x y s) rfl (fun z hz => by rfl) (ws' := [(g, .inr (1, [.int (nI W), .int (nI H), .int t, .ref b])), (b, ia G 16 (ptA W H f x y s))]) rfl ?_
  exact j_vret (pc := 74) hX hR dX1_putState_74 ⟨rfl, rfl⟩
set_option maxHeartbeats 4000000 in
set_option maxRecDepth 100000 in
theorem c_X1_stateAround (G : GT) (g W H : Nat) (t : Int32) (b : Nat) (f : Nat → Int32) (x y : Nat) (hW1 : 2 ≤ W) (hW2 : W ≤ 16) (hH1 : 2 ≤ H) (hH2 : H ≤ 16) (hx : x < W) (hy : y < H) (l : Launch) : CT l G yX1_stateAround cX1_stateAround 5 (some .int) { frames := 2, cells := 0, slots := 0, locals := 47 } [.ref g, .int (nI x), .int (nI y)] [(g, .inr (1, [.int (nI W), .int (nI H), .int t, .ref b])), (b, ia G 16 f)] (fun vv ww => vv = some (.int (nI (stA W H f (lfA x (ph t) W) (lfA y (ph t) H)))) ∧ ww = [(g, .inr (1, [.int (nI W), .int (nI H), .int t, .ref b])), (b, ia G 16 f)]) := by
  refine CT.of (lv := [(0, .ref g), (1, .int (nI x)), (2, .int (nI y))]) RX1 "stateAround" rfl rfl (by decide +kernel) (Nat.le_of_ble_eq_true rfl) rfl (fun X hX hR => ?_)
  have hp := ph_lt t
  have hx2 := lfA_lt (x := x) (p := ph t) hx hW1
  have hy2 := lfA_lt (x := y) (p := ph t) hy hH1
  refine j_iload_n (pc := 0) hX dX1_stateAround_0 1 rfl ?_
  refine j_iload_n (pc := 1) hX dX1_stateAround_1 1 rfl ?_
  refine j_aload_n (pc := 2) hX dX1_stateAround_2 0 rfl ?_
  refine j_callV (pc := 3) hX kX1_phase kVX1_phase l_RX1_59 (fun l => c_X1_phase G g W H t b f (by omega) (by omega) (by omega) (by omega) l) [0, 1] [] [.int (nI x), .int (nI x)] rfl 0 1 rfl rfl rfl rfl rfl rfl ⟨rfl, rfl, by decide⟩ rfl rfl (Nat.le_of_ble_eq_true rfl) dX1_stateAround_3 (fun v w hq => ?_)
  obtain ⟨rfl, rfl⟩ := hq
  refine j_ws [0, 1] (ws' := [(g, .inr (1, [.int (nI W), .int (nI H), .int t, .ref b])), (b, ia G 16 f)]) rfl rfl ?_
  refine j_ixor (pc := 6) hX dX1_stateAround_6 ?_
  refine j_iconstN (pc := 7) (j := 1) hX dX1_stateAround_7 rfl ?_
  refine j_iand (pc := 8) hX dX1_stateAround_8 ?_
  refine j_topi (y := nI ((x + ph t) % 2)) (xor1 _ _) ?_
  refine j_isub (pc := 9) hX dX1_stateAround_9 ?_
  refine j_aload_n (pc := 10) hX dX1_stateAround_10 0 rfl ?_
  refine j_get (pc := 11) hX f_RX1_9 0 rfl rfl dX1_stateAround_11 ?_
  refine j_callSN (pc := 14) hX kX8_closedRound kSX8_closedRound l_RX1_55 (fun l => c_X8_closedRound_i G ((nI x) - (nI ((x + ph t) % 2))) W ((x : Int) - ((x + ph t) % 2 : Nat)) (pk_sub_toInt (by omega) (by omega)) (by omega) (by omega) l) [] [0, 1] [] rfl rfl rfl rfl ⟨rfl, rfl, by decide⟩ rfl rfl (Nat.le_of_ble_eq_true rfl) dX1_stateAround_14 (fun v w hq => ?_)
  obtain ⟨rfl, rfl⟩ := hq
  refine j_ws [0, 1] (ws' := [(g, .inr (1, [.int (nI W), .int (nI H), .int t, .ref b])), (b, ia G 16 f)]) rfl rfl ?_
  refine j_topi (y := nI (lfA x (ph t) W)) (rfl) ?_
  refine j_istore_n (pc := 17) (lv' := [(3, .int (nI (lfA x (ph t) W))), (0, .ref g), (1, .int (nI x)), (2, .int (nI y))]) hX dX1_stateAround_17 (by decide) rfl ?_
  refine j_iload_n (pc := 18) hX dX1_stateAround_18 3 rfl ?_
  refine j_iload_n (pc := 19) hX dX1_stateAround_19 3 rfl ?_
  refine j_aload_n (pc := 20) hX dX1_stateAround_20 1 rfl ?_
  refine j_callV (pc := 21) hX kX1_phase kVX1_phase l_RX1_59 (fun l => c_X1_phase G g W H t b f (by omega) (by omega) (by omega) (by omega) l) [0, 1] [] [.int (nI y), .int (nI y)] rfl 0 1 rfl rfl rfl rfl rfl rfl ⟨rfl, rfl, by decide⟩ rfl rfl (Nat.le_of_ble_eq_true rfl) dX1_stateAround_21 (fun v w hq => ?_)
  obtain ⟨rfl, rfl⟩ := hq
  refine j_ws [0, 1] (ws' := [(g, .inr (1, [.int (nI W), .int (nI H), .int t, .ref b])), (b, ia G 16 f)]) rfl rfl ?_
  refine j_ixor (pc := 24) hX dX1_stateAround_24 ?_
  refine j_iconstN (pc := 25) (j := 1) hX dX1_stateAround_25 rfl ?_
  refine j_iand (pc := 26) hX dX1_stateAround_26 ?_
  refine j_topi (y := nI ((y + ph t) % 2)) (xor1 _ _) ?_
  refine j_isub (pc := 27) hX dX1_stateAround_27 ?_
  refine j_aload_n (pc := 28) hX dX1_stateAround_28 1 rfl ?_
  refine j_get (pc := 29) hX f_RX1_15 0 rfl rfl dX1_stateAround_29 ?_
  refine j_callSN (pc := 32) hX kX8_closedRound kSX8_closedRound l_RX1_55 (fun l => c_X8_closedRound_i G ((nI y) - (nI ((y + ph t) % 2))) H ((y : Int) - ((y + ph t) % 2 : Nat)) (pk_sub_toInt (by omega) (by omega)) (by omega) (by omega) l) [] [0, 1] [] rfl rfl rfl rfl ⟨rfl, rfl, by decide⟩ rfl rfl (Nat.le_of_ble_eq_true rfl) dX1_stateAround_32 (fun v w hq => ?_)
  obtain ⟨rfl, rfl⟩ := hq
  refine j_ws [0, 1] (ws' := [(g, .inr (1, [.int (nI W), .int (nI H), .int t, .ref b])), (b, ia G 16 f)]) rfl rfl ?_
  refine j_topi (y := nI (lfA y (ph t) H)) (rfl) ?_
  refine j_istore (pc := 35) (lv' := [(4, .int (nI (lfA y (ph t) H))), (3, .int (nI (lfA x (ph t) W))), (0, .ref g), (1, .int (nI x)), (2, .int (nI y))]) hX dX1_stateAround_35 (by decide) rfl ?_
  refine j_aload_n (pc := 37) hX dX1_stateAround_37 2 rfl ?_
  refine j_iload_n (pc := 38) hX dX1_stateAround_38 1 rfl ?_
  refine j_iload (pc := 39) hX dX1_stateAround_39 0 rfl ?_
  refine j_callV (pc := 41) hX kX1_stateOf kVX1_stateOf l_RX1_63 (fun l => c_X1_stateOf G g W H t b f (lfA x (ph t) W) (lfA y (ph t) H) (by omega) (by omega) (by omega) (by omega) (by omega) (by omega) l) [0, 1] [] [] rfl 0 1 rfl rfl rfl rfl rfl rfl ⟨rfl, rfl, by decide⟩ rfl rfl (Nat.le_of_ble_eq_true rfl) dX1_stateAround_41 (fun v w hq => ?_)
  obtain ⟨rfl, rfl⟩ := hq
  refine j_ws [0, 1] (ws' := [(g, .inr (1, [.int (nI W), .int (nI H), .int t, .ref b])), (b, ia G 16 f)]) rfl rfl ?_
  exact j_iret (pc := 44) hX hR dX1_stateAround_44 ⟨rfl, rfl⟩
set_option maxHeartbeats 4000000 in
set_option maxRecDepth 100000 in
theorem c_X3_next (G : GT) (ru rn rf : Nat) (p q : Nat → Nat) (u : Nat) (hu : u < 16) (l : Launch) : CT l G yX3_next cX3_next 2 (some .int) { frames := 1, cells := 0, slots := 0, locals := 21 } [.ref ru, .int (nI u)] [(ru, .inr (3, [.ref rn, .ref rf])), (rn, ia G 16 (fun ι => nI (p ι))), (rf, ia G 16 (fun ι => nI (q ι)))] (fun vv ww => vv = some (.int (nI (p u))) ∧ ww = [(ru, .inr (3, [.ref rn, .ref rf])), (rn, ia G 16 (fun ι => nI (p ι))), (rf, ia G 16 (fun ι => nI (q ι)))]) := by
  refine CT.of (lv := [(0, .ref ru), (1, .int (nI u))]) RX3 "next" rfl rfl (by decide +kernel) (Nat.le_of_ble_eq_true rfl) rfl (fun X hX hR => ?_)
  refine j_aload_n (pc := 0) hX dX3_next_0 0 rfl ?_
  refine j_get (pc := 1) hX f_RX3_9 0 rfl rfl dX3_next_1 ?_
  refine j_iload_n (pc := 4) hX dX3_next_4 1 rfl ?_
  refine j_callSN (pc := 5) hX kX8_at kSX8_at l_RX3_22 (fun l => c_X8_at G rn 16 (fun ι => nI (p ι)) u (by omega) (by omega) l) [1] [0, 2] [] rfl rfl rfl rfl ⟨rfl, rfl, by decide⟩ rfl rfl (Nat.le_of_ble_eq_true rfl) dX3_next_5 (fun v w hq => ?_)
  obtain ⟨rfl, rfl⟩ := hq
  refine j_ws [0, 2, 1] (ws' := [(ru, .inr (3, [.ref rn, .ref rf])), (rn, ia G 16 (fun ι => nI (p ι))), (rf, ia G 16 (fun ι => nI (q ι)))]) rfl rfl ?_
  exact j_iret (pc := 8) hX hR dX3_next_8 ⟨rfl, rfl⟩
set_option maxHeartbeats 4000000 in
set_option maxRecDepth 100000 in
theorem c_X3_former (G : GT) (ru rn rf : Nat) (p q : Nat → Nat) (u : Nat) (hu : u < 16) (l : Launch) : CT l G yX3_former cX3_former 2 (some .int) { frames := 1, cells := 0, slots := 0, locals := 21 } [.ref ru, .int (nI u)] [(ru, .inr (3, [.ref rn, .ref rf])), (rn, ia G 16 (fun ι => nI (p ι))), (rf, ia G 16 (fun ι => nI (q ι)))] (fun vv ww => vv = some (.int (nI (q u))) ∧ ww = [(ru, .inr (3, [.ref rn, .ref rf])), (rn, ia G 16 (fun ι => nI (p ι))), (rf, ia G 16 (fun ι => nI (q ι)))]) := by
  refine CT.of (lv := [(0, .ref ru), (1, .int (nI u))]) RX3 "former" rfl rfl (by decide +kernel) (Nat.le_of_ble_eq_true rfl) rfl (fun X hX hR => ?_)
  refine j_aload_n (pc := 0) hX dX3_former_0 0 rfl ?_
  refine j_get (pc := 1) hX f_RX3_15 0 rfl rfl dX3_former_1 ?_
  refine j_iload_n (pc := 4) hX dX3_former_4 1 rfl ?_
  refine j_callSN (pc := 5) hX kX8_at kSX8_at l_RX3_22 (fun l => c_X8_at G rf 16 (fun ι => nI (q ι)) u (by omega) (by omega) l) [2] [0, 1] [] rfl rfl rfl rfl ⟨rfl, rfl, by decide⟩ rfl rfl (Nat.le_of_ble_eq_true rfl) dX3_former_5 (fun v w hq => ?_)
  obtain ⟨rfl, rfl⟩ := hq
  refine j_ws [0, 1, 2] (ws' := [(ru, .inr (3, [.ref rn, .ref rf])), (rn, ia G 16 (fun ι => nI (p ι))), (rf, ia G 16 (fun ι => nI (q ι)))]) rfl rfl ?_
  exact j_iret (pc := 8) hX hR dX3_former_8 ⟨rfl, rfl⟩
set_option maxHeartbeats 4000000 in
set_option maxRecDepth 100000 in
theorem c_X3_join (G : GT) (ru rn rf : Nat) (p : Nat → Nat) (fm : Nat → Int32) (u j : Nat) (hu : u < 16) (hj : j < 16) (l : Launch) : CT l G yX3_join cX3_join 3 none { frames := 1, cells := 0, slots := 0, locals := 22 } [.ref ru, .int (nI u), .int (nI j)] [(ru, .inr (3, [.ref rn, .ref rf])), (rn, ia G 16 (fun ι => nI (p ι))), (rf, ia G 16 fm)] (fun vv ww => vv = none ∧ ww = [(ru, .inr (3, [.ref rn, .ref rf])), (rn, ia G 16 (fun ι => nI (updN p u j ι))), (rf, ia G 16 (upd fm j (nI u)))]) := by
  refine CT.of (lv := [(0, .ref ru), (1, .int (nI u)), (2, .int (nI j))]) RX3 "join" rfl rfl (by decide +kernel) (Nat.le_of_ble_eq_true rfl) rfl (fun X hX hR => ?_)
  refine j_aload_n (pc := 0) hX dX3_join_0 0 rfl ?_
  refine j_get (pc := 1) hX f_RX3_9 0 rfl rfl dX3_join_1 ?_
  refine j_iload_n (pc := 4) hX dX3_join_4 1 rfl ?_
  refine j_iload_n (pc := 5) hX dX3_join_5 2 rfl ?_
  refine j_callSN (pc := 6) hX kX8_put kSX8_put l_RX3_26 (fun l => c_X8_put G rn 16 (fun ι => nI (p ι)) u (nI j) (by omega) (by omega) l) [1] [0, 2] [] rfl rfl rfl rfl ⟨rfl, rfl, by decide⟩ rfl rfl (Nat.le_of_ble_eq_true rfl) dX3_join_6 (fun v w hq => ?_)
  obtain ⟨rfl, rfl⟩ := hq
  refine j_ws [0, 2, 1] (ws' := [(ru, .inr (3, [.ref rn, .ref rf])), (rn, ia G 16 (upd (fun ι => nI (p ι)) u (nI j))), (rf, ia G 16 fm)]) rfl rfl ?_
  refine j_aload_n (pc := 9) hX dX3_join_9 0 rfl ?_
  refine j_get (pc := 10) hX f_RX3_15 0 rfl rfl dX3_join_10 ?_
  refine j_iload_n (pc := 13) hX dX3_join_13 2 rfl ?_
  refine j_iload_n (pc := 14) hX dX3_join_14 1 rfl ?_
  refine j_callSN (pc := 15) hX kX8_put kSX8_put l_RX3_26 (fun l => c_X8_put G rf 16 fm j (nI u) (by omega) (by omega) l) [2] [0, 1] [] rfl rfl rfl rfl ⟨rfl, rfl, by decide⟩ rfl rfl (Nat.le_of_ble_eq_true rfl) dX3_join_15 (fun v w hq => ?_)
  obtain ⟨rfl, rfl⟩ := hq
  refine j_ws [0, 1, 2] (ws' := [(ru, .inr (3, [.ref rn, .ref rf])), (rn, ia G 16 (upd (fun ι => nI (p ι)) u (nI j))), (rf, ia G 16 (upd fm j (nI u)))]) rfl rfl ?_
  refine j_ia (q0 := 1) (f := upd (fun ι => nI (p ι)) u (nI j)) (g := fun ι => nI (updN p u j ι)) rfl (fun z hz => by exact updNI) (ws' := [(ru, .inr (3, [.ref rn, .ref rf])), (rn, ia G 16 (fun ι => nI (updN p u j ι))), (rf, ia G 16 (upd fm j (nI u)))]) rfl ?_
  exact j_vret (pc := 18) hX hR dX3_join_18 ⟨rfl, rfl⟩
set_option maxHeartbeats 4000000 in
set_option maxRecDepth 100000 in
theorem c_X3_byBall (G : GT) (s : Nat) (hs : s < 16) (l : Launch) : CT l G yX3_byBall cX3_byBall 1 (some .int) { frames := 0, cells := 0, slots := 0, locals := 0 } [.int (nI s)] [] (fun vv ww => vv = some (.int (nI (wrd 4 s))) ∧ ww = []) := by
  refine CT.of (lv := [(0, .int (nI s))]) RX3 "byBall" rfl rfl (by decide +kernel) (Nat.le_of_ble_eq_true rfl) rfl (fun X hX hR => ?_)
  refine j_iload_n (pc := 0) hX dX3_byBall_0 0 rfl ?_
  rcases (show (nI s).toInt = 1 ∨ (nI s).toInt = 2 ∨ (nI s).toInt = 3 ∨ (nI s).toInt = 4 ∨ (nI s).toInt = 5 ∨ (nI s).toInt = 6 ∨ (nI s).toInt = 7 ∨ (nI s).toInt = 8 ∨ (nI s).toInt = 9 ∨ ((nI s).toInt < 1 ∨ 9 < (nI s).toInt) from by omega) with s1 | s1 | s1 | s1 | s1 | s1 | s1 | s1 | s1 | s1
  · skip
    refine j_tsIn (pc := 1) (off := 51) (tgt := 52) hX dX3_byBall_1 (1) s1 (by decide) (by decide) rfl (by decide) ?_
    have hs1 : s = 1 := by rw [nI_toInt (by omega)] at s1; omega
    refine j_bipush (pc := 52) (v := nI 8) hX dX3_byBall_52 (by decide) ?_
    exact j_iret (pc := 54) hX hR dX3_byBall_54 ⟨congrArg some (show Value.int (nI 8) = Value.int (nI (wrd 4 s)) from by first | (subst hs1; rfl) | (rcases (show s = 0 ∨ s = 10 ∨ s = 11 ∨ s = 12 ∨ s = 13 ∨ s = 14 ∨ s = 15 from by omega) with e | e | e | e | e | e | e <;> subst e <;> rfl)), rfl⟩
  · skip
    refine j_tsIn (pc := 1) (off := 54) (tgt := 55) hX dX3_byBall_1 (2) s1 (by decide) (by decide) rfl (by decide) ?_
    have hs1 : s = 2 := by rw [nI_toInt (by omega)] at s1; omega
    refine j_iconstN (pc := 55) (j := 4) hX dX3_byBall_55 rfl ?_
    exact j_iret (pc := 56) hX hR dX3_byBall_56 ⟨congrArg some (show Value.int (nI 4) = Value.int (nI (wrd 4 s)) from by first | (subst hs1; rfl) | (rcases (show s = 0 ∨ s = 10 ∨ s = 11 ∨ s = 12 ∨ s = 13 ∨ s = 14 ∨ s = 15 from by omega) with e | e | e | e | e | e | e <;> subst e <;> rfl)), rfl⟩
  · skip
    refine j_tsIn (pc := 1) (off := 66) (tgt := 67) hX dX3_byBall_1 (3) s1 (by decide) (by decide) rfl (by decide) ?_
    have hs1 : s = 3 := by rw [nI_toInt (by omega)] at s1; omega
    refine j_iload_n (pc := 67) hX dX3_byBall_67 0 rfl ?_
    exact j_iret (pc := 68) hX hR dX3_byBall_68 ⟨congrArg some (show Value.int (nI s) = Value.int (nI (wrd 4 s)) from by first | (subst hs1; rfl) | (rcases (show s = 0 ∨ s = 10 ∨ s = 11 ∨ s = 12 ∨ s = 13 ∨ s = 14 ∨ s = 15 from by omega) with e | e | e | e | e | e | e <;> subst e <;> rfl)), rfl⟩
  · skip
    refine j_tsIn (pc := 1) (off := 56) (tgt := 57) hX dX3_byBall_1 (4) s1 (by decide) (by decide) rfl (by decide) ?_
    have hs1 : s = 4 := by rw [nI_toInt (by omega)] at s1; omega
    refine j_iconstN (pc := 57) (j := 2) hX dX3_byBall_57 rfl ?_
    exact j_iret (pc := 58) hX hR dX3_byBall_58 ⟨congrArg some (show Value.int (nI 2) = Value.int (nI (wrd 4 s)) from by first | (subst hs1; rfl) | (rcases (show s = 0 ∨ s = 10 ∨ s = 11 ∨ s = 12 ∨ s = 13 ∨ s = 14 ∨ s = 15 from by omega) with e | e | e | e | e | e | e <;> subst e <;> rfl)), rfl⟩
  · skip
    refine j_tsIn (pc := 1) (off := 66) (tgt := 67) hX dX3_byBall_1 (5) s1 (by decide) (by decide) rfl (by decide) ?_
    have hs1 : s = 5 := by rw [nI_toInt (by omega)] at s1; omega
    refine j_iload_n (pc := 67) hX dX3_byBall_67 0 rfl ?_
    exact j_iret (pc := 68) hX hR dX3_byBall_68 ⟨congrArg some (show Value.int (nI s) = Value.int (nI (wrd 4 s)) from by first | (subst hs1; rfl) | (rcases (show s = 0 ∨ s = 10 ∨ s = 11 ∨ s = 12 ∨ s = 13 ∨ s = 14 ∨ s = 15 from by omega) with e | e | e | e | e | e | e <;> subst e <;> rfl)), rfl⟩
  · skip
    refine j_tsIn (pc := 1) (off := 58) (tgt := 59) hX dX3_byBall_1 (6) s1 (by decide) (by decide) rfl (by decide) ?_
    have hs1 : s = 6 := by rw [nI_toInt (by omega)] at s1; omega
    refine j_bipush (pc := 59) (v := nI 9) hX dX3_byBall_59 (by decide) ?_
    exact j_iret (pc := 61) hX hR dX3_byBall_61 ⟨congrArg some (show Value.int (nI 9) = Value.int (nI (wrd 4 s)) from by first | (subst hs1; rfl) | (rcases (show s = 0 ∨ s = 10 ∨ s = 11 ∨ s = 12 ∨ s = 13 ∨ s = 14 ∨ s = 15 from by omega) with e | e | e | e | e | e | e <;> subst e <;> rfl)), rfl⟩
  · skip
    refine j_tsIn (pc := 1) (off := 66) (tgt := 67) hX dX3_byBall_1 (7) s1 (by decide) (by decide) rfl (by decide) ?_
    have hs1 : s = 7 := by rw [nI_toInt (by omega)] at s1; omega
    refine j_iload_n (pc := 67) hX dX3_byBall_67 0 rfl ?_
    exact j_iret (pc := 68) hX hR dX3_byBall_68 ⟨congrArg some (show Value.int (nI s) = Value.int (nI (wrd 4 s)) from by first | (subst hs1; rfl) | (rcases (show s = 0 ∨ s = 10 ∨ s = 11 ∨ s = 12 ∨ s = 13 ∨ s = 14 ∨ s = 15 from by omega) with e | e | e | e | e | e | e <;> subst e <;> rfl)), rfl⟩
  · skip
    refine j_tsIn (pc := 1) (off := 61) (tgt := 62) hX dX3_byBall_1 (8) s1 (by decide) (by decide) rfl (by decide) ?_
    have hs1 : s = 8 := by rw [nI_toInt (by omega)] at s1; omega
    refine j_iconstN (pc := 62) (j := 1) hX dX3_byBall_62 rfl ?_
    exact j_iret (pc := 63) hX hR dX3_byBall_63 ⟨congrArg some (show Value.int (nI 1) = Value.int (nI (wrd 4 s)) from by first | (subst hs1; rfl) | (rcases (show s = 0 ∨ s = 10 ∨ s = 11 ∨ s = 12 ∨ s = 13 ∨ s = 14 ∨ s = 15 from by omega) with e | e | e | e | e | e | e <;> subst e <;> rfl)), rfl⟩
  · skip
    refine j_tsIn (pc := 1) (off := 63) (tgt := 64) hX dX3_byBall_1 (9) s1 (by decide) (by decide) rfl (by decide) ?_
    have hs1 : s = 9 := by rw [nI_toInt (by omega)] at s1; omega
    refine j_bipush (pc := 64) (v := nI 6) hX dX3_byBall_64 (by decide) ?_
    exact j_iret (pc := 66) hX hR dX3_byBall_66 ⟨congrArg some (show Value.int (nI 6) = Value.int (nI (wrd 4 s)) from by first | (subst hs1; rfl) | (rcases (show s = 0 ∨ s = 10 ∨ s = 11 ∨ s = 12 ∨ s = 13 ∨ s = 14 ∨ s = 15 from by omega) with e | e | e | e | e | e | e <;> subst e <;> rfl)), rfl⟩
  · skip
    refine j_tsOut (pc := 1) (tgt := 67) hX dX3_byBall_1 s1 (by decide) ?_
    rw [nI_toInt (by omega)] at s1
    refine j_iload_n (pc := 67) hX dX3_byBall_67 0 rfl ?_
    exact j_iret (pc := 68) hX hR dX3_byBall_68 ⟨congrArg some (show Value.int (nI s) = Value.int (nI (wrd 4 s)) from by first | (subst hs1; rfl) | (rcases (show s = 0 ∨ s = 10 ∨ s = 11 ∨ s = 12 ∨ s = 13 ∨ s = 14 ∨ s = 15 from by omega) with e | e | e | e | e | e | e <;> subst e <;> rfl)), rfl⟩
set_option maxHeartbeats 4000000 in
set_option maxRecDepth 100000 in
theorem c_X3_byWord (G : GT) (w s : Nat) (hw : w < 5) (hs : s < 16) (l : Launch) : CT l G yX3_byWord cX3_byWord 2 (some .int) { frames := 1, cells := 0, slots := 0, locals := 20 } [.int (nI w), .int (nI s)] [] (fun vv ww => vv = some (.int (nI (wrd w s))) ∧ ww = []) := by
  refine CT.of (lv := [(0, .int (nI w)), (1, .int (nI s))]) RX3 "byWord" rfl rfl (by decide +kernel) (Nat.le_of_ble_eq_true rfl) rfl (fun X hX hR => ?_)
  refine j_iload_n (pc := 0) hX dX3_byWord_0 0 rfl ?_
  rcases (show (nI w).toInt = 1 ∨ (nI w).toInt = 2 ∨ (nI w).toInt = 3 ∨ (nI w).toInt = 4 ∨ ((nI w).toInt < 1 ∨ 4 < (nI w).toInt) from by omega) with s1 | s1 | s1 | s1 | s1
  · skip
    refine j_tsIn (pc := 1) (off := 31) (tgt := 32) hX dX3_byWord_1 (1) s1 (by decide) (by decide) rfl (by decide) ?_
    have hw1 : w = 1 := by rw [nI_toInt (by omega)] at s1; omega
    refine j_iload_n (pc := 32) hX dX3_byWord_32 1 rfl ?_
    refine j_iconstN (pc := 33) (j := 1) hX dX3_byWord_33 rfl ?_
    refine j_iand (pc := 34) hX dX3_byWord_34 ?_
    refine j_iconstN (pc := 35) (j := 1) hX dX3_byWord_35 rfl ?_
    refine j_ishl (pc := 36) hX dX3_byWord_36 ?_
    refine j_iload_n (pc := 37) hX dX3_byWord_37 1 rfl ?_
    refine j_iconstN (pc := 38) (j := 2) hX dX3_byWord_38 rfl ?_
    refine j_iand (pc := 39) hX dX3_byWord_39 ?_
    refine j_iconstN (pc := 40) (j := 2) hX dX3_byWord_40 rfl ?_
    refine j_ishl (pc := 41) hX dX3_byWord_41 ?_
    refine j_ior (pc := 42) hX dX3_byWord_42 ?_
    refine j_iload_n (pc := 43) hX dX3_byWord_43 1 rfl ?_
    refine j_iconstN (pc := 44) (j := 4) hX dX3_byWord_44 rfl ?_
    refine j_iand (pc := 45) hX dX3_byWord_45 ?_
    refine j_iconstN (pc := 46) (j := 2) hX dX3_byWord_46 rfl ?_
    refine j_ishr (pc := 47) hX dX3_byWord_47 ?_
    refine j_ior (pc := 48) hX dX3_byWord_48 ?_
    refine j_iload_n (pc := 49) hX dX3_byWord_49 1 rfl ?_
    refine j_bipush (pc := 50) (v := nI 8) hX dX3_byWord_50 (by decide) ?_
    refine j_iand (pc := 52) hX dX3_byWord_52 ?_
    refine j_iconstN (pc := 53) (j := 1) hX dX3_byWord_53 rfl ?_
    refine j_ishr (pc := 54) hX dX3_byWord_54 ?_
    refine j_ior (pc := 55) hX dX3_byWord_55 ?_
    exact j_iret (pc := 56) hX hR dX3_byWord_56 ⟨congrArg some (show Value.int ((((((nI s) &&& (nI 1)) <<< ((nI 1) &&& 31)) ||| (((nI s) &&& (nI 2)) <<< ((nI 2) &&& 31))) ||| (((nI s) &&& (nI 4)) >>> ((nI 2) &&& 31))) ||| (((nI s) &&& (nI 8)) >>> ((nI 1) &&& 31))) = Value.int (nI (wrd w s)) from by rw [hw1]; exact congrArg Value.int ((show ∀ s, s < 16 → (((((nI s) &&& (nI 1)) <<< ((nI 1) &&& 31)) ||| (((nI s) &&& (nI 2)) <<< ((nI 2) &&& 31))) ||| (((nI s) &&& (nI 4)) >>> ((nI 2) &&& 31))) ||| (((nI s) &&& (nI 8)) >>> ((nI 1) &&& 31)) = nI (wrd 1 s) from by decide +kernel) s hs)), rfl⟩
  · skip
    refine j_tsIn (pc := 1) (off := 56) (tgt := 57) hX dX3_byWord_1 (2) s1 (by decide) (by decide) rfl (by decide) ?_
    have hw1 : w = 2 := by rw [nI_toInt (by omega)] at s1; omega
    refine j_iload_n (pc := 57) hX dX3_byWord_57 1 rfl ?_
    refine j_iconstN (pc := 58) (j := 1) hX dX3_byWord_58 rfl ?_
    refine j_iand (pc := 59) hX dX3_byWord_59 ?_
    refine j_iconstN (pc := 60) (j := 2) hX dX3_byWord_60 rfl ?_
    refine j_ishl (pc := 61) hX dX3_byWord_61 ?_
    refine j_iload_n (pc := 62) hX dX3_byWord_62 1 rfl ?_
    refine j_iconstN (pc := 63) (j := 2) hX dX3_byWord_63 rfl ?_
    refine j_iand (pc := 64) hX dX3_byWord_64 ?_
    refine j_iconstN (pc := 65) (j := 1) hX dX3_byWord_65 rfl ?_
    refine j_ishr (pc := 66) hX dX3_byWord_66 ?_
    refine j_ior (pc := 67) hX dX3_byWord_67 ?_
    refine j_iload_n (pc := 68) hX dX3_byWord_68 1 rfl ?_
    refine j_iconstN (pc := 69) (j := 4) hX dX3_byWord_69 rfl ?_
    refine j_iand (pc := 70) hX dX3_byWord_70 ?_
    refine j_iconstN (pc := 71) (j := 1) hX dX3_byWord_71 rfl ?_
    refine j_ishl (pc := 72) hX dX3_byWord_72 ?_
    refine j_ior (pc := 73) hX dX3_byWord_73 ?_
    refine j_iload_n (pc := 74) hX dX3_byWord_74 1 rfl ?_
    refine j_bipush (pc := 75) (v := nI 8) hX dX3_byWord_75 (by decide) ?_
    refine j_iand (pc := 77) hX dX3_byWord_77 ?_
    refine j_iconstN (pc := 78) (j := 2) hX dX3_byWord_78 rfl ?_
    refine j_ishr (pc := 79) hX dX3_byWord_79 ?_
    refine j_ior (pc := 80) hX dX3_byWord_80 ?_
    exact j_iret (pc := 81) hX hR dX3_byWord_81 ⟨congrArg some (show Value.int ((((((nI s) &&& (nI 1)) <<< ((nI 2) &&& 31)) ||| (((nI s) &&& (nI 2)) >>> ((nI 1) &&& 31))) ||| (((nI s) &&& (nI 4)) <<< ((nI 1) &&& 31))) ||| (((nI s) &&& (nI 8)) >>> ((nI 2) &&& 31))) = Value.int (nI (wrd w s)) from by rw [hw1]; exact congrArg Value.int ((show ∀ s, s < 16 → (((((nI s) &&& (nI 1)) <<< ((nI 2) &&& 31)) ||| (((nI s) &&& (nI 2)) >>> ((nI 1) &&& 31))) ||| (((nI s) &&& (nI 4)) <<< ((nI 1) &&& 31))) ||| (((nI s) &&& (nI 8)) >>> ((nI 2) &&& 31)) = nI (wrd 2 s) from by decide +kernel) s hs)), rfl⟩
  · skip
    refine j_tsIn (pc := 1) (off := 81) (tgt := 82) hX dX3_byWord_1 (3) s1 (by decide) (by decide) rfl (by decide) ?_
    have hw1 : w = 3 := by rw [nI_toInt (by omega)] at s1; omega
    refine j_iload_n (pc := 82) hX dX3_byWord_82 1 rfl ?_
    refine j_bipush (pc := 83) (v := nI 15) hX dX3_byWord_83 (by decide) ?_
    refine j_ixor (pc := 85) hX dX3_byWord_85 ?_
    exact j_iret (pc := 86) hX hR dX3_byWord_86 ⟨congrArg some (show Value.int ((nI s) ^^^ (nI 15)) = Value.int (nI (wrd w s)) from by rw [hw1]; exact congrArg Value.int ((show ∀ s, s < 16 → (nI s) ^^^ (nI 15) = nI (wrd 3 s) from by decide +kernel) s hs)), rfl⟩
  · skip
    refine j_tsIn (pc := 1) (off := 86) (tgt := 87) hX dX3_byWord_1 (4) s1 (by decide) (by decide) rfl (by decide) ?_
    have hw1 : w = 4 := by rw [nI_toInt (by omega)] at s1; omega
    refine j_iload_n (pc := 87) hX dX3_byWord_87 1 rfl ?_
    refine j_callS (pc := 88) hX kX3_byBall kSX3_byBall l_RX3_50 (fun l => c_X3_byBall G s (by omega) l) [] [] [] rfl rfl rfl rfl ⟨rfl, rfl, by decide⟩ rfl rfl (Nat.le_of_ble_eq_true rfl) dX3_byWord_88 (fun v w hq => ?_)
    obtain ⟨rfl, rfl⟩ := hq
    refine j_ws [] (ws' := []) rfl rfl ?_
    exact j_iret (pc := 91) hX hR dX3_byWord_91 ⟨congrArg some (show Value.int (nI (wrd 4 s)) = Value.int (nI (wrd w s)) from by rw [hw1]), rfl⟩
  · skip
    refine j_tsOut (pc := 1) (tgt := 92) hX dX3_byWord_1 s1 (by decide) ?_
    have hw1 : w = 0 := by rw [nI_toInt (by omega)] at s1; omega
    refine j_iload_n (pc := 92) hX dX3_byWord_92 1 rfl ?_
    exact j_iret (pc := 93) hX hR dX3_byWord_93 ⟨congrArg some (show Value.int (nI s) = Value.int (nI (wrd w s)) from by rw [hw1]; exact congrArg Value.int ((show ∀ s, s < 16 → nI s = nI (wrd 0 s) from by decide +kernel) s hs)), rfl⟩
set_option maxHeartbeats 4000000 in
set_option maxRecDepth 100000 in
theorem c_X3_becomeWord (G : GT) (ru rn rf : Nat) (p : Nat → Nat) (fm : Nat → Int32) (w : Nat) (hw : w < 5) (hp : ∀ s, s < 16 → p s < 16) (l : Launch) : CT l G yX3_becomeWord cX3_becomeWord 5 (some .boolean) { frames := 2, cells := 0, slots := 0, locals := 44 } [.ref ru, .int (nI w)] [(ru, .inr (3, [.ref rn, .ref rf])), (rn, ia G 16 (fun ι => nI (p ι))), (rf, ia G 16 fm)] (fun vv ww => vv = some (.int (bI (otherB w p))) ∧ ww = [(ru, .inr (3, [.ref rn, .ref rf])), (rn, ia G 16 (fun ι => nI (wrd w ι))), (rf, ia G 16 (fun ι => nI (wrdI w ι)))]) := by
  refine CT.of (lv := [(0, .ref ru), (1, .int (nI w))]) RX3 "becomeWord" rfl rfl (by decide +kernel) (Nat.le_of_ble_eq_true rfl) rfl (fun X hX hR => ?_)
  refine j_iconstN (pc := 0) (j := 0) hX dX3_becomeWord_0 rfl ?_
  refine j_istore_n (pc := 1) (lv' := [(2, .int (nI 0)), (0, .ref ru), (1, .int (nI w))]) hX dX3_becomeWord_1 (by decide) rfl ?_
  refine j_iconstN (pc := 2) (j := 0) hX dX3_becomeWord_2 rfl ?_
  refine j_istore_n (pc := 3) (lv' := [(3, .int (nI 0)), (2, .int (nI 0)), (0, .ref ru), (1, .int (nI w))]) hX dX3_becomeWord_3 (by decide) rfl ?_
  have L4 : ∀ (m4 : Nat) (k : Nat) (o : Bool) (p2 : Nat → Nat) (q2 : Nat → Int32) (hk : k ≤ 16) (ho : o = anyB k (fun s => decide (wrd w s ≠ p s))) (h1 : ∀ s, s < k → p2 s = wrd w s) (h2 : ∀ s, k ≤ s → p2 s = p s) (h3 : ∀ s, s < k → q2 (wrd w s) = nI s), 16 - k < m4 → J X G 5 0 0 [(ru, .inr (3, [.ref rn, .ref rf])), (rn, ia G 16 (fun ι => nI (p2 ι))), (rf, ia G 16 q2)] [(0, .ref ru), (1, .int (nI w)), (2, .int (bI o)), (3, .int (nI k))] 4 [] := by
    intro m4
    induction m4 with
    | zero => intro k o p2 q2 hk ho h1 h2 h3 hm4; exact absurd hm4 (Nat.not_lt_zero _)
    | succ m4 ih4 =>
      intro k o p2 q2 hk ho h1 h2 h3 hm4
      refine j_iload_n (pc := 4) hX dX3_becomeWord_4 3 rfl ?_
      refine j_bipush (pc := 5) (v := nI 16) hX dX3_becomeWord_5 (by decide) ?_
      refine j_icmp_ge (pc := 7) (tgt := 45) hX dX3_becomeWord_7 (by decide) (nI_toInt (n := k) (by omega)) (nI_toInt (n := 16) (by decide)) (fun c7 => ?_) (fun c7 => ?_)
      · skip
        refine j_iload_n (pc := 45) hX dX3_becomeWord_45 2 rfl ?_
        refine j_ia (q0 := 1) (f := fun ι => nI (p2 ι)) (g := fun ι => nI (wrd w ι)) rfl (fun z hz => by show nI (p2 z) = nI (wrd w z); rw [h1 z (by omega)]) (ws' := [(ru, .inr (3, [.ref rn, .ref rf])), (rn, ia G 16 (fun ι => nI (wrd w ι))), (rf, ia G 16 q2)]) rfl ?_
        refine j_ia (q0 := 2) (f := q2) (g := fun ι => nI (wrdI w ι)) rfl (fun z hz => by exact inv_last hw (fun s hs => h3 s (by omega)) hz) (ws' := [(ru, .inr (3, [.ref rn, .ref rf])), (rn, ia G 16 (fun ι => nI (wrd w ι))), (rf, ia G 16 (fun ι => nI (wrdI w ι)))]) rfl ?_
        exact j_zret (pc := 46) hX hR (bI_nar _) dX3_becomeWord_46 ⟨congrArg some (show Value.int (bI o) = Value.int (bI (otherB w p)) from by rw [ho, show k = 16 from by omega]; rfl), rfl⟩
      · skip
        refine j_iload_n (pc := 10) hX dX3_becomeWord_10 1 rfl ?_
        refine j_iload_n (pc := 11) hX dX3_becomeWord_11 3 rfl ?_
        refine j_callS (pc := 12) hX kX3_byWord kSX3_byWord l_RX3_30 (fun l => c_X3_byWord G w k (by omega) (by omega) l) [] [0, 1, 2] [] rfl rfl rfl rfl ⟨rfl, rfl, by decide⟩ rfl rfl (Nat.le_of_ble_eq_true rfl) dX3_becomeWord_12 (fun v w hq => ?_)
        obtain ⟨rfl, rfl⟩ := hq
        refine j_ws [0, 1, 2] (ws' := [(ru, .inr (3, [.ref rn, .ref rf])), (rn, ia G 16 (fun ι => nI (p2 ι))), (rf, ia G 16 q2)]) rfl rfl ?_
        refine j_istore (pc := 15) (lv' := [(4, .int (nI (wrd w k))), (0, .ref ru), (1, .int (nI w)), (2, .int (bI o)), (3, .int (nI k))]) hX dX3_becomeWord_15 (by decide) rfl ?_
        have b1 := (wrd_all w hw k (by omega)).1
        have b2 : p2 k < 16 := by rw [h2 k (Nat.le_refl k)]; exact hp k (by omega)
        refine j_iload (pc := 17) hX dX3_becomeWord_17 0 rfl ?_
        refine j_aload_n (pc := 19) hX dX3_becomeWord_19 1 rfl ?_
        refine j_get (pc := 20) hX f_RX3_9 0 rfl rfl dX3_becomeWord_20 ?_
        refine j_iload_n (pc := 23) hX dX3_becomeWord_23 4 rfl ?_
        refine j_callSN (pc := 24) hX kX8_at kSX8_at l_RX3_22 (fun l => c_X8_at G rn 16 (fun ι => nI (p2 ι)) k (by omega) (by omega) l) [1] [0, 2] [.int (nI (wrd w k))] rfl rfl rfl rfl ⟨rfl, rfl, by decide⟩ rfl rfl (Nat.le_of_ble_eq_true rfl) dX3_becomeWord_24 (fun v w hq => ?_)
        obtain ⟨rfl, rfl⟩ := hq
        refine j_ws [0, 2, 1] (ws' := [(ru, .inr (3, [.ref rn, .ref rf])), (rn, ia G 16 (fun ι => nI (p2 ι))), (rf, ia G 16 q2)]) rfl rfl ?_
        refine j_icmp_eq (pc := 27) (tgt := 32) hX dX3_becomeWord_27 (by decide) (nI_toInt (n := wrd w k) (by omega)) (nI_toInt (n := p2 k) (by omega)) (fun c27 => ?_) (fun c27 => ?_)
        · skip
          refine j_aload_n (pc := 32) hX dX3_becomeWord_32 1 rfl ?_
          refine j_iload_n (pc := 33) hX dX3_becomeWord_33 4 rfl ?_
          refine j_iload (pc := 34) hX dX3_becomeWord_34 0 rfl ?_
          refine j_callV (pc := 36) hX kX3_join kVX3_join l_RX3_34 (fun l => c_X3_join G ru rn rf p2 q2 k (wrd w k) (by omega) (by omega) l) [0, 1, 2] [] [] rfl 0 3 rfl rfl rfl rfl rfl rfl ⟨rfl, rfl, by decide⟩ rfl rfl (Nat.le_of_ble_eq_true rfl) dX3_becomeWord_36 (fun v w hq => ?_)
          obtain ⟨rfl, rfl⟩ := hq
          refine j_ws [0, 1, 2] (ws' := [(ru, .inr (3, [.ref rn, .ref rf])), (rn, ia G 16 (fun ι => nI (updN p2 k (wrd w k) ι))), (rf, ia G 16 (upd q2 (wrd w k) (nI k)))]) rfl rfl ?_
          refine j_iinc (pc := 39) (q := 4) (v := nI (k + 1)) (lv' := [(3, .int (nI (k + 1))), (4, .int (nI (wrd w k))), (0, .ref ru), (1, .int (nI w)), (2, .int (bI o))]) hX dX3_becomeWord_39 rfl (nI_inc _ 1) (by decide) rfl ?_
          refine j_goto (pc := 42) (tgt := 4) hX dX3_becomeWord_42 (by decide) ?_
          refine j_ia (q0 := 1) (f := fun ι => nI (updN p2 k (wrd w k) ι)) (g := fun ι => nI ((updN p2 k (wrd w k)) ι)) rfl (fun z hz => by rfl) (ws' := [(ru, .inr (3, [.ref rn, .ref rf])), (rn, ia G 16 (fun ι => nI ((updN p2 k (wrd w k)) ι))), (rf, ia G 16 (upd q2 (wrd w k) (nI k)))]) rfl ?_
          refine j_lv [2, 3, 4, 0] (lv' := [(0, .ref ru), (1, .int (nI w)), (2, .int (bI o)), (3, .int (nI (k + 1)))]) rfl ?_
          exact ih4 (k + 1) o (updN p2 k (wrd w k)) (upd q2 (wrd w k) (nI k)) (by omega) (by first | (rw [anyB, ← ho, decide_eq_false (fun hh => hh (by have := h2 k (Nat.le_refl k); omega)), Bool.or_false]; done) | (rw [anyB, decide_eq_true (by have := h2 k (Nat.le_refl k); omega), Bool.or_true]; done)) (updN_lt h1) (updN_ge h2) (inv_next hw (by omega) h3) (by omega)
        · skip
          refine j_iconstN (pc := 30) (j := 1) hX dX3_becomeWord_30 rfl ?_
          refine j_istore_n (pc := 31) (lv' := [(2, .int (nI 1)), (4, .int (nI (wrd w k))), (0, .ref ru), (1, .int (nI w)), (3, .int (nI k))]) hX dX3_becomeWord_31 (by decide) rfl ?_
          refine j_aload_n (pc := 32) hX dX3_becomeWord_32 2 rfl ?_
          refine j_iload_n (pc := 33) hX dX3_becomeWord_33 4 rfl ?_
          refine j_iload (pc := 34) hX dX3_becomeWord_34 1 rfl ?_
          refine j_callV (pc := 36) hX kX3_join kVX3_join l_RX3_34 (fun l => c_X3_join G ru rn rf p2 q2 k (wrd w k) (by omega) (by omega) l) [0, 1, 2] [] [] rfl 0 3 rfl rfl rfl rfl rfl rfl ⟨rfl, rfl, by decide⟩ rfl rfl (Nat.le_of_ble_eq_true rfl) dX3_becomeWord_36 (fun v w hq => ?_)
          obtain ⟨rfl, rfl⟩ := hq
          refine j_ws [0, 1, 2] (ws' := [(ru, .inr (3, [.ref rn, .ref rf])), (rn, ia G 16 (fun ι => nI (updN p2 k (wrd w k) ι))), (rf, ia G 16 (upd q2 (wrd w k) (nI k)))]) rfl rfl ?_
          refine j_iinc (pc := 39) (q := 4) (v := nI (k + 1)) (lv' := [(3, .int (nI (k + 1))), (2, .int (nI 1)), (4, .int (nI (wrd w k))), (0, .ref ru), (1, .int (nI w))]) hX dX3_becomeWord_39 rfl (nI_inc _ 1) (by decide) rfl ?_
          refine j_goto (pc := 42) (tgt := 4) hX dX3_becomeWord_42 (by decide) ?_
          refine j_ia (q0 := 1) (f := fun ι => nI (updN p2 k (wrd w k) ι)) (g := fun ι => nI ((updN p2 k (wrd w k)) ι)) rfl (fun z hz => by rfl) (ws' := [(ru, .inr (3, [.ref rn, .ref rf])), (rn, ia G 16 (fun ι => nI ((updN p2 k (wrd w k)) ι))), (rf, ia G 16 (upd q2 (wrd w k) (nI k)))]) rfl ?_
          refine j_lv [3, 4, 1, 0] (lv' := [(0, .ref ru), (1, .int (nI w)), (2, .int (bI true)), (3, .int (nI (k + 1)))]) rfl ?_
          exact ih4 (k + 1) true (updN p2 k (wrd w k)) (upd q2 (wrd w k) (nI k)) (by omega) (by first | (rw [anyB, ← ho, decide_eq_false (fun hh => hh (by have := h2 k (Nat.le_refl k); omega)), Bool.or_false]; done) | (rw [anyB, decide_eq_true (by have := h2 k (Nat.le_refl k); omega), Bool.or_true]; done)) (updN_lt h1) (updN_ge h2) (inv_next hw (by omega) h3) (by omega)
  refine j_lv [2, 3, 1, 0] (lv' := [(0, .ref ru), (1, .int (nI w)), (2, .int (bI false)), (3, .int (nI 0))]) rfl ?_
  exact L4 ((16 - 0) + 1) 0 false p fm (by omega) (rfl) (fun z hz => absurd hz (Nat.not_lt_zero _)) (fun _ _ => rfl) (fun z hz => absurd hz (Nat.not_lt_zero _)) (Nat.lt_succ_self _)
set_option maxHeartbeats 4000000 in
set_option maxRecDepth 100000 in
theorem c_X3_exchange (G : GT) (ru rn rf : Nat) (p q : Nat → Nat) (i j : Nat) (hi : i < 16) (hj : j < 16) (hp : ∀ s, s < 16 → p s < 16) (l : Launch) : CT l G yX3_exchange cX3_exchange 4 none { frames := 2, cells := 0, slots := 0, locals := 44 } [.ref ru, .int (nI i), .int (nI j)] [(ru, .inr (3, [.ref rn, .ref rf])), (rn, ia G 16 (fun ι => nI (p ι))), (rf, ia G 16 (fun ι => nI (q ι)))] (fun vv ww => vv = none ∧ ww = [(ru, .inr (3, [.ref rn, .ref rf])), (rn, ia G 16 (fun ι => nI (updN (updN p i (p j)) j (p i) ι))), (rf, ia G 16 (fun ι => nI (updN (updN q (p j) i) (p i) j ι)))]) := by
  refine CT.of (lv := [(0, .ref ru), (1, .int (nI i)), (2, .int (nI j))]) RX3 "exchange" rfl rfl (by decide +kernel) (Nat.le_of_ble_eq_true rfl) rfl (fun X hX hR => ?_)
  have b1 := hp i hi
  have b2 := hp j hj
  refine j_aload_n (pc := 0) hX dX3_exchange_0 0 rfl ?_
  refine j_iload_n (pc := 1) hX dX3_exchange_1 1 rfl ?_
  refine j_callV (pc := 2) hX kX3_next kVX3_next l_RX3_38 (fun l => c_X3_next G ru rn rf p q i (by omega) l) [0, 1, 2] [] [] rfl 0 3 rfl rfl rfl rfl rfl rfl ⟨rfl, rfl, by decide⟩ rfl rfl (Nat.le_of_ble_eq_true rfl) dX3_exchange_2 (fun v w hq => ?_)
  obtain ⟨rfl, rfl⟩ := hq
  refine j_ws [0, 1, 2] (ws' := [(ru, .inr (3, [.ref rn, .ref rf])), (rn, ia G 16 (fun ι => nI (p ι))), (rf, ia G 16 (fun ι => nI (q ι)))]) rfl rfl ?_
  refine j_istore_n (pc := 5) (lv' := [(3, .int (nI (p i))), (0, .ref ru), (1, .int (nI i)), (2, .int (nI j))]) hX dX3_exchange_5 (by decide) rfl ?_
  refine j_aload_n (pc := 6) hX dX3_exchange_6 1 rfl ?_
  refine j_iload_n (pc := 7) hX dX3_exchange_7 2 rfl ?_
  refine j_aload_n (pc := 8) hX dX3_exchange_8 1 rfl ?_
  refine j_iload_n (pc := 9) hX dX3_exchange_9 3 rfl ?_
  refine j_callV (pc := 10) hX kX3_next kVX3_next l_RX3_38 (fun l => c_X3_next G ru rn rf p q j (by omega) l) [0, 1, 2] [] [.int (nI i), .ref ru] rfl 0 3 rfl rfl rfl rfl rfl rfl ⟨rfl, rfl, by decide⟩ rfl rfl (Nat.le_of_ble_eq_true rfl) dX3_exchange_10 (fun v w hq => ?_)
  obtain ⟨rfl, rfl⟩ := hq
  refine j_ws [0, 1, 2] (ws' := [(ru, .inr (3, [.ref rn, .ref rf])), (rn, ia G 16 (fun ι => nI (p ι))), (rf, ia G 16 (fun ι => nI (q ι)))]) rfl rfl ?_
  refine j_callV (pc := 13) hX kX3_join kVX3_join l_RX3_34 (fun l => c_X3_join G ru rn rf p (fun ι => nI (q ι)) i (p j) (by omega) (by omega) l) [0, 1, 2] [] [] rfl 0 3 rfl rfl rfl rfl rfl rfl ⟨rfl, rfl, by decide⟩ rfl rfl (Nat.le_of_ble_eq_true rfl) dX3_exchange_13 (fun v w hq => ?_)
  obtain ⟨rfl, rfl⟩ := hq
  refine j_ws [0, 1, 2] (ws' := [(ru, .inr (3, [.ref rn, .ref rf])), (rn, ia G 16 (fun ι => nI (updN p i (p j) ι))), (rf, ia G 16 (upd (fun ι => nI (q ι)) (p j) (nI i)))]) rfl rfl ?_
  refine j_aload_n (pc := 16) hX dX3_exchange_16 1 rfl ?_
  refine j_iload_n (pc := 17) hX dX3_exchange_17 3 rfl ?_
  refine j_iload_n (pc := 18) hX dX3_exchange_18 0 rfl ?_
  refine j_callV (pc := 19) hX kX3_join kVX3_join l_RX3_34 (fun l => c_X3_join G ru rn rf (updN p i (p j)) (upd (fun ι => nI (q ι)) (p j) (nI i)) j (p i) (by omega) (by omega) l) [0, 1, 2] [] [] rfl 0 3 rfl rfl rfl rfl rfl rfl ⟨rfl, rfl, by decide⟩ rfl rfl (Nat.le_of_ble_eq_true rfl) dX3_exchange_19 (fun v w hq => ?_)
  obtain ⟨rfl, rfl⟩ := hq
  refine j_ws [0, 1, 2] (ws' := [(ru, .inr (3, [.ref rn, .ref rf])), (rn, ia G 16 (fun ι => nI (updN (updN p i (p j)) j (p i) ι))), (rf, ia G 16 (upd (upd (fun ι => nI (q ι)) (p j) (nI i)) (p i) (nI j)))]) rfl rfl ?_
  refine j_ia (q0 := 2) (f := upd (upd (fun ι => nI (q ι)) (p j) (nI i)) (p i) (nI j)) (g := fun ι => nI (updN (updN q (p j) i) (p i) j ι)) rfl (fun z hz => by (rw [show (upd (fun s => nI (q s)) (p j) (nI i)) = (fun s => nI (updN q (p j) i s)) from funext fun _ => updNI]; exact updNI)) (ws' := [(ru, .inr (3, [.ref rn, .ref rf])), (rn, ia G 16 (fun ι => nI (updN (updN p i (p j)) j (p i) ι))), (rf, ia G 16 (fun ι => nI (updN (updN q (p j) i) (p i) j ι)))]) rfl ?_
  exact j_vret (pc := 22) hX hR dX3_exchange_22 ⟨rfl, rfl⟩
set_option maxHeartbeats 4000000 in
set_option maxRecDepth 100000 in
theorem c_X3_copyOf (G : GT) (ru rn rf : Nat) (p q : Nat → Nat) (o on of_ : Nat) (p2 q2 : Nat → Nat)  (l : Launch) : CT l G yX3_copyOf cX3_copyOf 2 none { frames := 1, cells := 0, slots := 0, locals := 22 } [.ref ru, .ref o] [(ru, .inr (3, [.ref rn, .ref rf])), (rn, ia G 16 (fun ι => nI (p ι))), (rf, ia G 16 (fun ι => nI (q ι))), (o, .inr (3, [.ref on, .ref of_])), (on, ia G 16 (fun ι => nI (p2 ι))), (of_, ia G 16 (fun ι => nI (q2 ι)))] (fun vv ww => vv = none ∧ ww = [(ru, .inr (3, [.ref rn, .ref rf])), (rn, ia G 16 (fun ι => nI (p2 ι))), (rf, ia G 16 (fun ι => nI (q2 ι))), (o, .inr (3, [.ref on, .ref of_])), (on, ia G 16 (fun ι => nI (p2 ι))), (of_, ia G 16 (fun ι => nI (q2 ι)))]) := by
  refine CT.of (lv := [(0, .ref ru), (1, .ref o)]) RX3 "copyOf" rfl rfl (by decide +kernel) (Nat.le_of_ble_eq_true rfl) rfl (fun X hX hR => ?_)
  refine j_aload_n (pc := 0) hX dX3_copyOf_0 1 rfl ?_
  refine j_get (pc := 1) hX f_RX3_9 3 rfl rfl dX3_copyOf_1 ?_
  refine j_aload_n (pc := 4) hX dX3_copyOf_4 0 rfl ?_
  refine j_get (pc := 5) hX f_RX3_9 0 rfl rfl dX3_copyOf_5 ?_
  refine j_callSN (pc := 8) hX kX8_copy kSX8_copy l_RX3_42 (fun l => c_X8_copy G on rn 16 (fun ι => nI (p2 ι)) (fun ι => nI (p ι)) (by omega) l) [4, 1] [0, 2, 3, 5] [] rfl rfl rfl rfl ⟨rfl, rfl, by decide⟩ rfl rfl (Nat.le_of_ble_eq_true rfl) dX3_copyOf_8 (fun v w hq => ?_)
  obtain ⟨rfl, rfl⟩ := hq
  refine j_ws [0, 5, 1, 2, 4, 3] (ws' := [(ru, .inr (3, [.ref rn, .ref rf])), (rn, ia G 16 (fun ι => nI (p2 ι))), (rf, ia G 16 (fun ι => nI (q ι))), (o, .inr (3, [.ref on, .ref of_])), (on, ia G 16 (fun ι => nI (p2 ι))), (of_, ia G 16 (fun ι => nI (q2 ι)))]) rfl rfl ?_
  refine j_aload_n (pc := 11) hX dX3_copyOf_11 1 rfl ?_
  refine j_get (pc := 12) hX f_RX3_15 3 rfl rfl dX3_copyOf_12 ?_
  refine j_aload_n (pc := 15) hX dX3_copyOf_15 0 rfl ?_
  refine j_get (pc := 16) hX f_RX3_15 0 rfl rfl dX3_copyOf_16 ?_
  refine j_callSN (pc := 19) hX kX8_copy kSX8_copy l_RX3_42 (fun l => c_X8_copy G of_ rf 16 (fun ι => nI (q2 ι)) (fun ι => nI (q ι)) (by omega) l) [5, 2] [0, 1, 3, 4] [] rfl rfl rfl rfl ⟨rfl, rfl, by decide⟩ rfl rfl (Nat.le_of_ble_eq_true rfl) dX3_copyOf_19 (fun v w hq => ?_)
  obtain ⟨rfl, rfl⟩ := hq
  refine j_ws [0, 1, 5, 2, 3, 4] (ws' := [(ru, .inr (3, [.ref rn, .ref rf])), (rn, ia G 16 (fun ι => nI (p2 ι))), (rf, ia G 16 (fun ι => nI (q2 ι))), (o, .inr (3, [.ref on, .ref of_])), (on, ia G 16 (fun ι => nI (p2 ι))), (of_, ia G 16 (fun ι => nI (q2 ι)))]) rfl rfl ?_
  exact j_vret (pc := 22) hX hR dX3_copyOf_22 ⟨rfl, rfl⟩
set_option maxHeartbeats 4000000 in
set_option maxRecDepth 100000 in
theorem c_X3_weightOf (G : GT) (s : Nat) (a b c d : Int32) (hs : s < 16) (l : Launch) : CT l G yX3_weightOf cX3_weightOf 5 (some .int) { frames := 0, cells := 0, slots := 0, locals := 0 } [.int (nI s), .int a, .int b, .int c, .int d] [] (fun vv ww => vv = some (.int (wgt s a b c d)) ∧ ww = []) := by
  refine CT.of (lv := [(0, .int (nI s)), (1, .int a), (2, .int b), (3, .int c), (4, .int d)]) RX3 "weightOf" rfl rfl (by decide +kernel) (Nat.le_of_ble_eq_true rfl) rfl (fun X hX hR => ?_)
  refine j_iload_n (pc := 0) hX dX3_weightOf_0 0 rfl ?_
  refine j_iconstN (pc := 1) (j := 1) hX dX3_weightOf_1 rfl ?_
  refine j_iand (pc := 2) hX dX3_weightOf_2 ?_
  refine j_topi (y := nI (s % 2)) (pk_andN (by omega) 1 (by decide)) ?_
  refine j_iload_n (pc := 3) hX dX3_weightOf_3 1 rfl ?_
  refine j_imul (pc := 4) hX dX3_weightOf_4 ?_
  refine j_iload_n (pc := 5) hX dX3_weightOf_5 0 rfl ?_
  refine j_iconstN (pc := 6) (j := 1) hX dX3_weightOf_6 rfl ?_
  refine j_ishr (pc := 7) hX dX3_weightOf_7 ?_
  refine j_topi (y := nI (s / 2)) (pk_shrN (by omega) _ 1 (by decide)) ?_
  refine j_iconstN (pc := 8) (j := 1) hX dX3_weightOf_8 rfl ?_
  refine j_iand (pc := 9) hX dX3_weightOf_9 ?_
  refine j_topi (y := nI ((s / 2) % 2)) (pk_andN (by omega) 1 (by decide)) ?_
  refine j_iload_n (pc := 10) hX dX3_weightOf_10 2 rfl ?_
  refine j_imul (pc := 11) hX dX3_weightOf_11 ?_
  refine j_iadd (pc := 12) hX dX3_weightOf_12 ?_
  refine j_iload_n (pc := 13) hX dX3_weightOf_13 0 rfl ?_
  refine j_iconstN (pc := 14) (j := 2) hX dX3_weightOf_14 rfl ?_
  refine j_ishr (pc := 15) hX dX3_weightOf_15 ?_
  refine j_topi (y := nI (s / 4)) (pk_shrN (by omega) _ 2 (by decide)) ?_
  refine j_iconstN (pc := 16) (j := 1) hX dX3_weightOf_16 rfl ?_
  refine j_iand (pc := 17) hX dX3_weightOf_17 ?_
  refine j_topi (y := nI ((s / 4) % 2)) (pk_andN (by omega) 1 (by decide)) ?_
  refine j_iload_n (pc := 18) hX dX3_weightOf_18 3 rfl ?_
  refine j_imul (pc := 19) hX dX3_weightOf_19 ?_
  refine j_iadd (pc := 20) hX dX3_weightOf_20 ?_
  refine j_iload_n (pc := 21) hX dX3_weightOf_21 0 rfl ?_
  refine j_iconstN (pc := 22) (j := 3) hX dX3_weightOf_22 rfl ?_
  refine j_ishr (pc := 23) hX dX3_weightOf_23 ?_
  refine j_topi (y := nI (s / 8)) (pk_shrN (by omega) _ 3 (by decide)) ?_
  refine j_iconstN (pc := 24) (j := 1) hX dX3_weightOf_24 rfl ?_
  refine j_iand (pc := 25) hX dX3_weightOf_25 ?_
  refine j_topi (y := nI ((s / 8) % 2)) (pk_andN (by omega) 1 (by decide)) ?_
  refine j_iload (pc := 26) hX dX3_weightOf_26 4 rfl ?_
  refine j_imul (pc := 28) hX dX3_weightOf_28 ?_
  refine j_iadd (pc := 29) hX dX3_weightOf_29 ?_
  exact j_iret (pc := 30) hX hR dX3_weightOf_30 ⟨congrArg some (show Value.int (((((nI (s % 2)) * a) + ((nI ((s / 2) % 2)) * b)) + ((nI ((s / 4) % 2)) * c)) + ((nI ((s / 8) % 2)) * d)) = Value.int (wgt s a b c d) from by rfl), rfl⟩
set_option maxHeartbeats 4000000 in
set_option maxRecDepth 100000 in
theorem c_X3_keepsSum (G : GT) (ru rn rf : Nat) (p q : Nat → Nat) (a b c d : Int32) (hp : ∀ s, s < 16 → p s < 16) (l : Launch) : CT l G yX3_keepsSum cX3_keepsSum 7 (some .boolean) { frames := 2, cells := 0, slots := 0, locals := 42 } [.ref ru, .int a, .int b, .int c, .int d] [(ru, .inr (3, [.ref rn, .ref rf])), (rn, ia G 16 (fun ι => nI (p ι))), (rf, ia G 16 (fun ι => nI (q ι)))] (fun vv ww => vv = some (.int (bI (keptB a b c d p))) ∧ ww = [(ru, .inr (3, [.ref rn, .ref rf])), (rn, ia G 16 (fun ι => nI (p ι))), (rf, ia G 16 (fun ι => nI (q ι)))]) := by
  refine CT.of (lv := [(0, .ref ru), (1, .int a), (2, .int b), (3, .int c), (4, .int d)]) RX3 "keepsSum" rfl rfl (by decide +kernel) (Nat.le_of_ble_eq_true rfl) rfl (fun X hX hR => ?_)
  refine j_iconstN (pc := 0) (j := 0) hX dX3_keepsSum_0 rfl ?_
  refine j_istore (pc := 1) (lv' := [(5, .int (nI 0)), (0, .ref ru), (1, .int a), (2, .int b), (3, .int c), (4, .int d)]) hX dX3_keepsSum_1 (by decide) rfl ?_
  have L3 : ∀ (m3 : Nat) (k : Nat) (hk : k ≤ 16) (hall : ∀ z, z < k → wgt z a b c d = wgt (p z) a b c d ∧ wgt z d c b a = wgt (p z) d c b a), 16 - k < m3 → J X G 7 0 0 [(ru, .inr (3, [.ref rn, .ref rf])), (rn, ia G 16 (fun ι => nI (p ι))), (rf, ia G 16 (fun ι => nI (q ι)))] [(0, .ref ru), (1, .int a), (2, .int b), (3, .int c), (4, .int d), (5, .int (nI k))] 3 [] := by
    intro m3
    induction m3 with
    | zero => intro k hk hall hm3; exact absurd hm3 (Nat.not_lt_zero _)
    | succ m3 ih3 =>
      intro k hk hall hm3
      refine j_iload (pc := 3) hX dX3_keepsSum_3 5 rfl ?_
      refine j_bipush (pc := 5) (v := nI 16) hX dX3_keepsSum_5 (by decide) ?_
      refine j_icmp_ge (pc := 7) (tgt := 74) hX dX3_keepsSum_7 (by decide) (nI_toInt (n := k) (by omega)) (nI_toInt (n := 16) (by decide)) (fun c7 => ?_) (fun c7 => ?_)
      · skip
        refine j_iconstN (pc := 74) (j := 1) hX dX3_keepsSum_74 rfl ?_
        exact j_zret (pc := 75) hX hR (by decide) dX3_keepsSum_75 ⟨congrArg some (show Value.int (nI 1) = Value.int (bI (keptB a b c d p)) from bI_tt (allB_t (fun z hz => decide_eq_true (hall z (by omega))))), rfl⟩
      · skip
        have b1 := hp k (by omega)
        refine j_aload_n (pc := 10) hX dX3_keepsSum_10 0 rfl ?_
        refine j_iload (pc := 11) hX dX3_keepsSum_11 5 rfl ?_
        refine j_callV (pc := 13) hX kX3_next kVX3_next l_RX3_38 (fun l => c_X3_next G ru rn rf p q k (by omega) l) [0, 1, 2] [] [] rfl 0 3 rfl rfl rfl rfl rfl rfl ⟨rfl, rfl, by decide⟩ rfl rfl (Nat.le_of_ble_eq_true rfl) dX3_keepsSum_13 (fun v w hq => ?_)
        obtain ⟨rfl, rfl⟩ := hq
        refine j_ws [0, 1, 2] (ws' := [(ru, .inr (3, [.ref rn, .ref rf])), (rn, ia G 16 (fun ι => nI (p ι))), (rf, ia G 16 (fun ι => nI (q ι)))]) rfl rfl ?_
        refine j_istore (pc := 16) (lv' := [(6, .int (nI (p k))), (0, .ref ru), (1, .int a), (2, .int b), (3, .int c), (4, .int d), (5, .int (nI k))]) hX dX3_keepsSum_16 (by decide) rfl ?_
        refine j_iload (pc := 18) hX dX3_keepsSum_18 6 rfl ?_
        refine j_iload_n (pc := 20) hX dX3_keepsSum_20 2 rfl ?_
        refine j_iload_n (pc := 21) hX dX3_keepsSum_21 3 rfl ?_
        refine j_iload_n (pc := 22) hX dX3_keepsSum_22 4 rfl ?_
        refine j_iload (pc := 23) hX dX3_keepsSum_23 5 rfl ?_
        refine j_callS (pc := 25) hX kX3_weightOf kSX3_weightOf l_RX3_46 (fun l => c_X3_weightOf G k a b c d (by omega) l) [] [0, 1, 2] [] rfl rfl rfl rfl ⟨rfl, rfl, by decide⟩ rfl rfl (Nat.le_of_ble_eq_true rfl) dX3_keepsSum_25 (fun v w hq => ?_)
        obtain ⟨rfl, rfl⟩ := hq
        refine j_ws [0, 1, 2] (ws' := [(ru, .inr (3, [.ref rn, .ref rf])), (rn, ia G 16 (fun ι => nI (p ι))), (rf, ia G 16 (fun ι => nI (q ι)))]) rfl rfl ?_
        refine j_iload (pc := 28) hX dX3_keepsSum_28 0 rfl ?_
        refine j_iload_n (pc := 30) hX dX3_keepsSum_30 2 rfl ?_
        refine j_iload_n (pc := 31) hX dX3_keepsSum_31 3 rfl ?_
        refine j_iload_n (pc := 32) hX dX3_keepsSum_32 4 rfl ?_
        refine j_iload (pc := 33) hX dX3_keepsSum_33 5 rfl ?_
        refine j_callS (pc := 35) hX kX3_weightOf kSX3_weightOf l_RX3_46 (fun l => c_X3_weightOf G (p k) a b c d (by omega) l) [] [0, 1, 2] [.int (wgt k a b c d)] rfl rfl rfl rfl ⟨rfl, rfl, by decide⟩ rfl rfl (Nat.le_of_ble_eq_true rfl) dX3_keepsSum_35 (fun v w hq => ?_)
        obtain ⟨rfl, rfl⟩ := hq
        refine j_ws [0, 1, 2] (ws' := [(ru, .inr (3, [.ref rn, .ref rf])), (rn, ia G 16 (fun ι => nI (p ι))), (rf, ia G 16 (fun ι => nI (q ι)))]) rfl rfl ?_
        refine j_icmp_eq (pc := 38) (tgt := 43) hX dX3_keepsSum_38 (by decide) rfl rfl (fun c38 => ?_) (fun c38 => ?_)
        · skip
          refine j_iload (pc := 43) hX dX3_keepsSum_43 6 rfl ?_
          refine j_iload (pc := 45) hX dX3_keepsSum_45 5 rfl ?_
          refine j_iload_n (pc := 47) hX dX3_keepsSum_47 4 rfl ?_
          refine j_iload_n (pc := 48) hX dX3_keepsSum_48 3 rfl ?_
          refine j_iload_n (pc := 49) hX dX3_keepsSum_49 2 rfl ?_
          refine j_callS (pc := 50) hX kX3_weightOf kSX3_weightOf l_RX3_46 (fun l => c_X3_weightOf G k d c b a (by omega) l) [] [0, 1, 2] [] rfl rfl rfl rfl ⟨rfl, rfl, by decide⟩ rfl rfl (Nat.le_of_ble_eq_true rfl) dX3_keepsSum_50 (fun v w hq => ?_)
          obtain ⟨rfl, rfl⟩ := hq
          refine j_ws [0, 1, 2] (ws' := [(ru, .inr (3, [.ref rn, .ref rf])), (rn, ia G 16 (fun ι => nI (p ι))), (rf, ia G 16 (fun ι => nI (q ι)))]) rfl rfl ?_
          refine j_iload (pc := 53) hX dX3_keepsSum_53 0 rfl ?_
          refine j_iload (pc := 55) hX dX3_keepsSum_55 5 rfl ?_
          refine j_iload_n (pc := 57) hX dX3_keepsSum_57 4 rfl ?_
          refine j_iload_n (pc := 58) hX dX3_keepsSum_58 3 rfl ?_
          refine j_iload_n (pc := 59) hX dX3_keepsSum_59 2 rfl ?_
          refine j_callS (pc := 60) hX kX3_weightOf kSX3_weightOf l_RX3_46 (fun l => c_X3_weightOf G (p k) d c b a (by omega) l) [] [0, 1, 2] [.int (wgt k d c b a)] rfl rfl rfl rfl ⟨rfl, rfl, by decide⟩ rfl rfl (Nat.le_of_ble_eq_true rfl) dX3_keepsSum_60 (fun v w hq => ?_)
          obtain ⟨rfl, rfl⟩ := hq
          refine j_ws [0, 1, 2] (ws' := [(ru, .inr (3, [.ref rn, .ref rf])), (rn, ia G 16 (fun ι => nI (p ι))), (rf, ia G 16 (fun ι => nI (q ι)))]) rfl rfl ?_
          refine j_icmp_eq (pc := 63) (tgt := 68) hX dX3_keepsSum_63 (by decide) rfl rfl (fun c63 => ?_) (fun c63 => ?_)
          · skip
            refine j_iinc (pc := 68) (q := 6) (v := nI (k + 1)) (lv' := [(5, .int (nI (k + 1))), (6, .int (nI (p k))), (0, .ref ru), (1, .int a), (2, .int b), (3, .int c), (4, .int d)]) hX dX3_keepsSum_68 rfl (nI_inc _ 1) (by decide) rfl ?_
            refine j_goto (pc := 71) (tgt := 3) hX dX3_keepsSum_71 (by decide) ?_
            refine j_lv [2, 3, 4, 5, 6, 0] (lv' := [(0, .ref ru), (1, .int a), (2, .int b), (3, .int c), (4, .int d), (5, .int (nI (k + 1)))]) rfl ?_
            exact ih3 (k + 1) (by omega) (lt_s hall ⟨Int32.toInt_inj.mp c38, Int32.toInt_inj.mp c63⟩) (by omega)
          · skip
            refine j_iconstN (pc := 66) (j := 0) hX dX3_keepsSum_66 rfl ?_
            exact j_zret (pc := 67) hX hR (by decide) dX3_keepsSum_67 ⟨congrArg some (show Value.int (nI 0) = Value.int (bI (keptB a b c d p)) from bI_ff (allB_f (z := k) (by omega) (decide_eq_false (fun h => c63 (by rw [h.2]))))), rfl⟩
        · skip
          refine j_iconstN (pc := 41) (j := 0) hX dX3_keepsSum_41 rfl ?_
          exact j_zret (pc := 42) hX hR (by decide) dX3_keepsSum_42 ⟨congrArg some (show Value.int (nI 0) = Value.int (bI (keptB a b c d p)) from bI_ff (allB_f (z := k) (by omega) (decide_eq_false (fun h => c38 (by rw [h.1]))))), rfl⟩
  refine j_lv [1, 2, 3, 4, 5, 0] (lv' := [(0, .ref ru), (1, .int a), (2, .int b), (3, .int c), (4, .int d), (5, .int (nI 0))]) rfl ?_
  exact L3 ((16 - 0) + 1) 0 (by omega) (fun z hz => absurd hz (Nat.not_lt_zero _)) (Nat.lt_succ_self _)
set_option maxHeartbeats 4000000 in
set_option maxRecDepth 100000 in
theorem c_X1_turnBlocks_f (G : GT) (g W H : Nat) (t : Int32) (b : Nat) (f : Nat → Int32) (ru rn rf : Nat) (p q : Nat → Nat) (hW1 : 2 ≤ W) (hW2 : W ≤ 16) (hH1 : 2 ≤ H) (hH2 : H ≤ 16) (hW3 : W % 2 = 0) (hH3 : H % 2 = 0) (l : Launch) : CT l G yX1_turnBlocks cX1_turnBlocks 6 none { frames := 2, cells := 0, slots := 0, locals := 49 } [.ref g, .ref ru, .int (nI 0)] [(g, .inr (1, [.int (nI W), .int (nI H), .int t, .ref b])), (b, ia G 16 f), (ru, .inr (3, [.ref rn, .ref rf])), (rn, ia G 16 (fun ι => nI (p ι))), (rf, ia G 16 (fun ι => nI (q ι)))] (fun vv ww => vv = none ∧ ww = [(g, .inr (1, [.int (nI W), .int (nI H), .int t, .ref b])), (b, ia G 16 (turn W H p (ph t) f)), (ru, .inr (3, [.ref rn, .ref rf])), (rn, ia G 16 (fun ι => nI (p ι))), (rf, ia G 16 (fun ι => nI (q ι)))]) := by
  refine CT.of (lv := [(0, .ref g), (1, .ref ru), (2, .int (nI 0))]) RX1 "turnBlocks" rfl rfl (by decide +kernel) (Nat.le_of_ble_eq_true rfl) rfl (fun X hX hR => ?_)
  have hp := ph_lt t
  refine j_aload_n (pc := 0) hX dX1_turnBlocks_0 0 rfl ?_
  refine j_callV (pc := 1) hX kX1_phase kVX1_phase l_RX1_59 (fun l => c_X1_phase G g W H t b f (by omega) (by omega) (by omega) (by omega) l) [0, 1] [2, 3, 4] [] rfl 0 1 rfl rfl rfl rfl rfl rfl ⟨rfl, rfl, by decide⟩ rfl rfl (Nat.le_of_ble_eq_true rfl) dX1_turnBlocks_1 (fun v w hq => ?_)
  obtain ⟨rfl, rfl⟩ := hq
  refine j_ws [3, 4, 0, 1, 2] (ws' := [(g, .inr (1, [.int (nI W), .int (nI H), .int t, .ref b])), (b, ia G 16 f), (ru, .inr (3, [.ref rn, .ref rf])), (rn, ia G 16 (fun ι => nI (p ι))), (rf, ia G 16 (fun ι => nI (q ι)))]) rfl rfl ?_
  refine j_istore_n (pc := 4) (lv' := [(3, .int (nI (ph t))), (0, .ref g), (1, .ref ru), (2, .int (nI 0))]) hX dX1_turnBlocks_4 (by decide) rfl ?_
  have L5 : ∀ (m5 : Nat) (i y : Nat) (f3 : Nat → Int32) (hy : y = ph t + 2 * i) (hi : i ≤ H / 2) (h3 : f3 = tG W H p (ph t) i f), H - y < m5 → J X G 6 0 0 [(g, .inr (1, [.int (nI W), .int (nI H), .int t, .ref b])), (b, ia G 16 f3), (ru, .inr (3, [.ref rn, .ref rf])), (rn, ia G 16 (fun ι => nI (p ι))), (rf, ia G 16 (fun ι => nI (q ι)))] [(0, .ref g), (1, .ref ru), (2, .int (nI 0)), (3, .int (nI y))] 5 [] := by
    intro m5
    induction m5 with
    | zero => intro i y f3 hy hi h3 hm5; exact absurd hm5 (Nat.not_lt_zero _)
    | succ m5 ih5 =>
      intro i y f3 hy hi h3 hm5
      refine j_iload_n (pc := 5) hX dX1_turnBlocks_5 3 rfl ?_
      refine j_aload_n (pc := 6) hX dX1_turnBlocks_6 0 rfl ?_
      refine j_get (pc := 7) hX f_RX1_15 0 rfl rfl dX1_turnBlocks_7 ?_
      refine j_icmp_ge (pc := 10) (tgt := 75) hX dX1_turnBlocks_10 (by decide) (nI_toInt (n := y) (by omega)) (nI_toInt (n := H) (by omega)) (fun c10 => ?_) (fun c10 => ?_)
      · skip
        refine j_ia (q0 := 1) (f := f3) (g := turn W H p (ph t) f) rfl (fun z hz => by (rw [h3, show i = H / 2 from by omega]; rfl)) (ws' := [(g, .inr (1, [.int (nI W), .int (nI H), .int t, .ref b])), (b, ia G 16 (turn W H p (ph t) f)), (ru, .inr (3, [.ref rn, .ref rf])), (rn, ia G 16 (fun ι => nI (p ι))), (rf, ia G 16 (fun ι => nI (q ι)))]) rfl ?_
        exact j_vret (pc := 75) hX hR dX1_turnBlocks_75 ⟨rfl, rfl⟩
      · skip
        refine j_aload_n (pc := 13) hX dX1_turnBlocks_13 0 rfl ?_
        refine j_callV (pc := 14) hX kX1_phase kVX1_phase l_RX1_59 (fun l => c_X1_phase G g W H t b f3 (by omega) (by omega) (by omega) (by omega) l) [0, 1] [2, 3, 4] [] rfl 0 1 rfl rfl rfl rfl rfl rfl ⟨rfl, rfl, by decide⟩ rfl rfl (Nat.le_of_ble_eq_true rfl) dX1_turnBlocks_14 (fun v w hq => ?_)
        obtain ⟨rfl, rfl⟩ := hq
        refine j_ws [3, 4, 0, 1, 2] (ws' := [(g, .inr (1, [.int (nI W), .int (nI H), .int t, .ref b])), (b, ia G 16 f3), (ru, .inr (3, [.ref rn, .ref rf])), (rn, ia G 16 (fun ι => nI (p ι))), (rf, ia G 16 (fun ι => nI (q ι)))]) rfl rfl ?_
        refine j_istore (pc := 17) (lv' := [(4, .int (nI (ph t))), (0, .ref g), (1, .ref ru), (2, .int (nI 0)), (3, .int (nI y))]) hX dX1_turnBlocks_17 (by decide) rfl ?_
        have L19 : ∀ (m19 : Nat) (c x : Nat) (f4 : Nat → Int32) (hx : x = ph t + 2 * c) (hc : c ≤ W / 2) (h4 : f4 = tL W H p y (ph t) c f3), W - x < m19 → J X G 6 0 0 [(g, .inr (1, [.int (nI W), .int (nI H), .int t, .ref b])), (b, ia G 16 f4), (ru, .inr (3, [.ref rn, .ref rf])), (rn, ia G 16 (fun ι => nI (p ι))), (rf, ia G 16 (fun ι => nI (q ι)))] [(0, .ref g), (1, .ref ru), (2, .int (nI 0)), (3, .int (nI y)), (4, .int (nI x))] 19 [] := by
          intro m19
          induction m19 with
          | zero => intro c x f4 hx hc h4 hm19; exact absurd hm19 (Nat.not_lt_zero _)
          | succ m19 ih19 =>
            intro c x f4 hx hc h4 hm19
            refine j_iload (pc := 19) hX dX1_turnBlocks_19 4 rfl ?_
            refine j_aload_n (pc := 21) hX dX1_turnBlocks_21 0 rfl ?_
            refine j_get (pc := 22) hX f_RX1_9 0 rfl rfl dX1_turnBlocks_22 ?_
            refine j_icmp_ge (pc := 25) (tgt := 69) hX dX1_turnBlocks_25 (by decide) (nI_toInt (n := x) (by omega)) (nI_toInt (n := W) (by omega)) (fun c25 => ?_) (fun c25 => ?_)
            · skip
              refine j_iinc (pc := 69) (q := 3) (v := nI (y + 2)) (lv' := [(3, .int (nI (y + 2))), (0, .ref g), (1, .ref ru), (2, .int (nI 0)), (4, .int (nI x))]) hX dX1_turnBlocks_69 rfl (nI_inc _ 2) (by decide) rfl ?_
              refine j_goto (pc := 72) (tgt := 5) hX dX1_turnBlocks_72 (by decide) ?_
              refine j_lv [1, 2, 3, 0] (lv' := [(0, .ref g), (1, .ref ru), (2, .int (nI 0)), (3, .int (nI (y + 2)))]) rfl ?_
              exact ih5 (i + 1) (y + 2) f4 (by omega) (by omega) (by rw [h4, h3, hy, show c = W / 2 from by omega]; rfl) (by omega)
            · skip
              refine j_aload_n (pc := 28) hX dX1_turnBlocks_28 0 rfl ?_
              refine j_iload (pc := 29) hX dX1_turnBlocks_29 4 rfl ?_
              refine j_iload_n (pc := 31) hX dX1_turnBlocks_31 3 rfl ?_
              refine j_callV (pc := 32) hX kX1_stateOf kVX1_stateOf l_RX1_63 (fun l => c_X1_stateOf G g W H t b f4 x y (by omega) (by omega) (by omega) (by omega) (by omega) (by omega) l) [0, 1] [2, 3, 4] [] rfl 0 1 rfl rfl rfl rfl rfl rfl ⟨rfl, rfl, by decide⟩ rfl rfl (Nat.le_of_ble_eq_true rfl) dX1_turnBlocks_32 (fun v w hq => ?_)
              obtain ⟨rfl, rfl⟩ := hq
              refine j_ws [3, 4, 0, 1, 2] (ws' := [(g, .inr (1, [.int (nI W), .int (nI H), .int t, .ref b])), (b, ia G 16 f4), (ru, .inr (3, [.ref rn, .ref rf])), (rn, ia G 16 (fun ι => nI (p ι))), (rf, ia G 16 (fun ι => nI (q ι)))]) rfl rfl ?_
              refine j_istore (pc := 35) (lv' := [(5, .int (nI (stA W H f4 x y))), (0, .ref g), (1, .ref ru), (2, .int (nI 0)), (3, .int (nI y)), (4, .int (nI x))]) hX dX1_turnBlocks_35 (by decide) rfl ?_
              have hs := stA_lt W H f4 x y
              refine j_aload_n (pc := 37) hX dX1_turnBlocks_37 1 rfl ?_
              refine j_iload (pc := 38) hX dX1_turnBlocks_38 5 rfl ?_
              refine j_iload_n (pc := 40) hX dX1_turnBlocks_40 4 rfl ?_
              refine j_iload_n (pc := 41) hX dX1_turnBlocks_41 3 rfl ?_
              refine j_if_eq (pc := 42) (tgt := 54) hX dX1_turnBlocks_42 (by decide) (nI_toInt (n := 0) (by decide)) (fun c42 => ?_) (fun c42 => absurd c42 (by decide))
              refine j_aload_n (pc := 54) hX dX1_turnBlocks_54 2 rfl ?_
              refine j_iload (pc := 55) hX dX1_turnBlocks_55 0 rfl ?_
              refine j_callV (pc := 57) hX kX3_next kVX3_next l_RX1_79 (fun l => c_X3_next G ru rn rf p q (stA W H f4 x y) (by omega) l) [2, 3, 4] [0, 1] [.int (nI y), .int (nI x), .ref g] rfl 0 3 rfl rfl rfl rfl rfl rfl ⟨rfl, rfl, by decide⟩ rfl rfl (Nat.le_of_ble_eq_true rfl) dX1_turnBlocks_57 (fun v w hq => ?_)
              obtain ⟨rfl, rfl⟩ := hq
              refine j_ws [0, 1, 2, 3, 4] (ws' := [(g, .inr (1, [.int (nI W), .int (nI H), .int t, .ref b])), (b, ia G 16 f4), (ru, .inr (3, [.ref rn, .ref rf])), (rn, ia G 16 (fun ι => nI (p ι))), (rf, ia G 16 (fun ι => nI (q ι)))]) rfl rfl ?_
              refine j_callV (pc := 60) hX kX1_putState kVX1_putState l_RX1_82 (fun l => c_X1_putState G g W H t b f4 x y (nI (p (stA W H f4 x y))) (by omega) (by omega) (by omega) (by omega) (by omega) (by omega) l) [0, 1] [2, 3, 4] [] rfl 0 1 rfl rfl rfl rfl rfl rfl ⟨rfl, rfl, by decide⟩ rfl rfl (Nat.le_of_ble_eq_true rfl) dX1_turnBlocks_60 (fun v w hq => ?_)
              obtain ⟨rfl, rfl⟩ := hq
              refine j_ws [3, 4, 0, 1, 2] (ws' := [(g, .inr (1, [.int (nI W), .int (nI H), .int t, .ref b])), (b, ia G 16 (ptA W H f4 x y (nI (p (stA W H f4 x y))))), (ru, .inr (3, [.ref rn, .ref rf])), (rn, ia G 16 (fun ι => nI (p ι))), (rf, ia G 16 (fun ι => nI (q ι)))]) rfl rfl ?_
              refine j_iinc (pc := 63) (q := 5) (v := nI (x + 2)) (lv' := [(4, .int (nI (x + 2))), (5, .int (nI (stA W H f4 x y))), (0, .ref g), (1, .ref ru), (2, .int (nI 0)), (3, .int (nI y))]) hX dX1_turnBlocks_63 rfl (nI_inc _ 2) (by decide) rfl ?_
              refine j_goto (pc := 66) (tgt := 19) hX dX1_turnBlocks_66 (by decide) ?_
              refine j_lv [2, 3, 4, 5, 0] (lv' := [(0, .ref g), (1, .ref ru), (2, .int (nI 0)), (3, .int (nI y)), (4, .int (nI (x + 2)))]) rfl ?_
              exact ih19 (c + 1) (x + 2) (ptA W H f4 x y (nI (p (stA W H f4 x y)))) (by omega) (by omega) (by rw [h4, hx]; rfl) (by omega)
        refine j_lv [1, 2, 3, 4, 0] (lv' := [(0, .ref g), (1, .ref ru), (2, .int (nI 0)), (3, .int (nI y)), (4, .int (nI (ph t)))]) rfl ?_
        exact L19 ((W - (ph t)) + 1) 0 (ph t) f3 (by omega) (by omega) (rfl) (Nat.lt_succ_self _)
  refine j_lv [1, 2, 3, 0] (lv' := [(0, .ref g), (1, .ref ru), (2, .int (nI 0)), (3, .int (nI (ph t)))]) rfl ?_
  exact L5 ((H - (ph t)) + 1) 0 (ph t) f (by omega) (by omega) (rfl) (Nat.lt_succ_self _)
set_option maxHeartbeats 4000000 in
set_option maxRecDepth 100000 in
theorem c_X1_turnBlocks_t (G : GT) (g W H : Nat) (t : Int32) (b : Nat) (f : Nat → Int32) (ru rn rf : Nat) (p q : Nat → Nat) (hW1 : 2 ≤ W) (hW2 : W ≤ 16) (hH1 : 2 ≤ H) (hH2 : H ≤ 16) (hW3 : W % 2 = 0) (hH3 : H % 2 = 0) (l : Launch) : CT l G yX1_turnBlocks cX1_turnBlocks 6 none { frames := 2, cells := 0, slots := 0, locals := 49 } [.ref g, .ref ru, .int (nI 1)] [(g, .inr (1, [.int (nI W), .int (nI H), .int t, .ref b])), (b, ia G 16 f), (ru, .inr (3, [.ref rn, .ref rf])), (rn, ia G 16 (fun ι => nI (p ι))), (rf, ia G 16 (fun ι => nI (q ι)))] (fun vv ww => vv = none ∧ ww = [(g, .inr (1, [.int (nI W), .int (nI H), .int t, .ref b])), (b, ia G 16 (turn W H q (ph t) f)), (ru, .inr (3, [.ref rn, .ref rf])), (rn, ia G 16 (fun ι => nI (p ι))), (rf, ia G 16 (fun ι => nI (q ι)))]) := by
  refine CT.of (lv := [(0, .ref g), (1, .ref ru), (2, .int (nI 1))]) RX1 "turnBlocks" rfl rfl (by decide +kernel) (Nat.le_of_ble_eq_true rfl) rfl (fun X hX hR => ?_)
  have hp := ph_lt t
  refine j_aload_n (pc := 0) hX dX1_turnBlocks_0 0 rfl ?_
  refine j_callV (pc := 1) hX kX1_phase kVX1_phase l_RX1_59 (fun l => c_X1_phase G g W H t b f (by omega) (by omega) (by omega) (by omega) l) [0, 1] [2, 3, 4] [] rfl 0 1 rfl rfl rfl rfl rfl rfl ⟨rfl, rfl, by decide⟩ rfl rfl (Nat.le_of_ble_eq_true rfl) dX1_turnBlocks_1 (fun v w hq => ?_)
  obtain ⟨rfl, rfl⟩ := hq
  refine j_ws [3, 4, 0, 1, 2] (ws' := [(g, .inr (1, [.int (nI W), .int (nI H), .int t, .ref b])), (b, ia G 16 f), (ru, .inr (3, [.ref rn, .ref rf])), (rn, ia G 16 (fun ι => nI (p ι))), (rf, ia G 16 (fun ι => nI (q ι)))]) rfl rfl ?_
  refine j_istore_n (pc := 4) (lv' := [(3, .int (nI (ph t))), (0, .ref g), (1, .ref ru), (2, .int (nI 1))]) hX dX1_turnBlocks_4 (by decide) rfl ?_
  have L5 : ∀ (m5 : Nat) (i y : Nat) (f3 : Nat → Int32) (hy : y = ph t + 2 * i) (hi : i ≤ H / 2) (h3 : f3 = tG W H q (ph t) i f), H - y < m5 → J X G 6 0 0 [(g, .inr (1, [.int (nI W), .int (nI H), .int t, .ref b])), (b, ia G 16 f3), (ru, .inr (3, [.ref rn, .ref rf])), (rn, ia G 16 (fun ι => nI (p ι))), (rf, ia G 16 (fun ι => nI (q ι)))] [(0, .ref g), (1, .ref ru), (2, .int (nI 1)), (3, .int (nI y))] 5 [] := by
    intro m5
    induction m5 with
    | zero => intro i y f3 hy hi h3 hm5; exact absurd hm5 (Nat.not_lt_zero _)
    | succ m5 ih5 =>
      intro i y f3 hy hi h3 hm5
      refine j_iload_n (pc := 5) hX dX1_turnBlocks_5 3 rfl ?_
      refine j_aload_n (pc := 6) hX dX1_turnBlocks_6 0 rfl ?_
      refine j_get (pc := 7) hX f_RX1_15 0 rfl rfl dX1_turnBlocks_7 ?_
      refine j_icmp_ge (pc := 10) (tgt := 75) hX dX1_turnBlocks_10 (by decide) (nI_toInt (n := y) (by omega)) (nI_toInt (n := H) (by omega)) (fun c10 => ?_) (fun c10 => ?_)
      · skip
        refine j_ia (q0 := 1) (f := f3) (g := turn W H q (ph t) f) rfl (fun z hz => by (rw [h3, show i = H / 2 from by omega]; rfl)) (ws' := [(g, .inr (1, [.int (nI W), .int (nI H), .int t, .ref b])), (b, ia G 16 (turn W H q (ph t) f)), (ru, .inr (3, [.ref rn, .ref rf])), (rn, ia G 16 (fun ι => nI (p ι))), (rf, ia G 16 (fun ι => nI (q ι)))]) rfl ?_
        exact j_vret (pc := 75) hX hR dX1_turnBlocks_75 ⟨rfl, rfl⟩
      · skip
        refine j_aload_n (pc := 13) hX dX1_turnBlocks_13 0 rfl ?_
        refine j_callV (pc := 14) hX kX1_phase kVX1_phase l_RX1_59 (fun l => c_X1_phase G g W H t b f3 (by omega) (by omega) (by omega) (by omega) l) [0, 1] [2, 3, 4] [] rfl 0 1 rfl rfl rfl rfl rfl rfl ⟨rfl, rfl, by decide⟩ rfl rfl (Nat.le_of_ble_eq_true rfl) dX1_turnBlocks_14 (fun v w hq => ?_)
        obtain ⟨rfl, rfl⟩ := hq
        refine j_ws [3, 4, 0, 1, 2] (ws' := [(g, .inr (1, [.int (nI W), .int (nI H), .int t, .ref b])), (b, ia G 16 f3), (ru, .inr (3, [.ref rn, .ref rf])), (rn, ia G 16 (fun ι => nI (p ι))), (rf, ia G 16 (fun ι => nI (q ι)))]) rfl rfl ?_
        refine j_istore (pc := 17) (lv' := [(4, .int (nI (ph t))), (0, .ref g), (1, .ref ru), (2, .int (nI 1)), (3, .int (nI y))]) hX dX1_turnBlocks_17 (by decide) rfl ?_
        have L19 : ∀ (m19 : Nat) (c x : Nat) (f4 : Nat → Int32) (hx : x = ph t + 2 * c) (hc : c ≤ W / 2) (h4 : f4 = tL W H q y (ph t) c f3), W - x < m19 → J X G 6 0 0 [(g, .inr (1, [.int (nI W), .int (nI H), .int t, .ref b])), (b, ia G 16 f4), (ru, .inr (3, [.ref rn, .ref rf])), (rn, ia G 16 (fun ι => nI (p ι))), (rf, ia G 16 (fun ι => nI (q ι)))] [(0, .ref g), (1, .ref ru), (2, .int (nI 1)), (3, .int (nI y)), (4, .int (nI x))] 19 [] := by
          intro m19
          induction m19 with
          | zero => intro c x f4 hx hc h4 hm19; exact absurd hm19 (Nat.not_lt_zero _)
          | succ m19 ih19 =>
            intro c x f4 hx hc h4 hm19
            refine j_iload (pc := 19) hX dX1_turnBlocks_19 4 rfl ?_
            refine j_aload_n (pc := 21) hX dX1_turnBlocks_21 0 rfl ?_
            refine j_get (pc := 22) hX f_RX1_9 0 rfl rfl dX1_turnBlocks_22 ?_
            refine j_icmp_ge (pc := 25) (tgt := 69) hX dX1_turnBlocks_25 (by decide) (nI_toInt (n := x) (by omega)) (nI_toInt (n := W) (by omega)) (fun c25 => ?_) (fun c25 => ?_)
            · skip
              refine j_iinc (pc := 69) (q := 3) (v := nI (y + 2)) (lv' := [(3, .int (nI (y + 2))), (0, .ref g), (1, .ref ru), (2, .int (nI 1)), (4, .int (nI x))]) hX dX1_turnBlocks_69 rfl (nI_inc _ 2) (by decide) rfl ?_
              refine j_goto (pc := 72) (tgt := 5) hX dX1_turnBlocks_72 (by decide) ?_
              refine j_lv [1, 2, 3, 0] (lv' := [(0, .ref g), (1, .ref ru), (2, .int (nI 1)), (3, .int (nI (y + 2)))]) rfl ?_
              exact ih5 (i + 1) (y + 2) f4 (by omega) (by omega) (by rw [h4, h3, hy, show c = W / 2 from by omega]; rfl) (by omega)
            · skip
              refine j_aload_n (pc := 28) hX dX1_turnBlocks_28 0 rfl ?_
              refine j_iload (pc := 29) hX dX1_turnBlocks_29 4 rfl ?_
              refine j_iload_n (pc := 31) hX dX1_turnBlocks_31 3 rfl ?_
              refine j_callV (pc := 32) hX kX1_stateOf kVX1_stateOf l_RX1_63 (fun l => c_X1_stateOf G g W H t b f4 x y (by omega) (by omega) (by omega) (by omega) (by omega) (by omega) l) [0, 1] [2, 3, 4] [] rfl 0 1 rfl rfl rfl rfl rfl rfl ⟨rfl, rfl, by decide⟩ rfl rfl (Nat.le_of_ble_eq_true rfl) dX1_turnBlocks_32 (fun v w hq => ?_)
              obtain ⟨rfl, rfl⟩ := hq
              refine j_ws [3, 4, 0, 1, 2] (ws' := [(g, .inr (1, [.int (nI W), .int (nI H), .int t, .ref b])), (b, ia G 16 f4), (ru, .inr (3, [.ref rn, .ref rf])), (rn, ia G 16 (fun ι => nI (p ι))), (rf, ia G 16 (fun ι => nI (q ι)))]) rfl rfl ?_
              refine j_istore (pc := 35) (lv' := [(5, .int (nI (stA W H f4 x y))), (0, .ref g), (1, .ref ru), (2, .int (nI 1)), (3, .int (nI y)), (4, .int (nI x))]) hX dX1_turnBlocks_35 (by decide) rfl ?_
              have hs := stA_lt W H f4 x y
              refine j_aload_n (pc := 37) hX dX1_turnBlocks_37 1 rfl ?_
              refine j_iload (pc := 38) hX dX1_turnBlocks_38 5 rfl ?_
              refine j_iload_n (pc := 40) hX dX1_turnBlocks_40 4 rfl ?_
              refine j_iload_n (pc := 41) hX dX1_turnBlocks_41 3 rfl ?_
              refine j_if_eq (pc := 42) (tgt := 54) hX dX1_turnBlocks_42 (by decide) (nI_toInt (n := 1) (by decide)) (fun c42 => absurd c42 (by decide)) (fun c42 => ?_)
              refine j_aload_n (pc := 45) hX dX1_turnBlocks_45 2 rfl ?_
              refine j_iload (pc := 46) hX dX1_turnBlocks_46 0 rfl ?_
              refine j_callV (pc := 48) hX kX3_former kVX3_former l_RX1_74 (fun l => c_X3_former G ru rn rf p q (stA W H f4 x y) (by omega) l) [2, 3, 4] [0, 1] [.int (nI y), .int (nI x), .ref g] rfl 0 3 rfl rfl rfl rfl rfl rfl ⟨rfl, rfl, by decide⟩ rfl rfl (Nat.le_of_ble_eq_true rfl) dX1_turnBlocks_48 (fun v w hq => ?_)
              obtain ⟨rfl, rfl⟩ := hq
              refine j_ws [0, 1, 2, 3, 4] (ws' := [(g, .inr (1, [.int (nI W), .int (nI H), .int t, .ref b])), (b, ia G 16 f4), (ru, .inr (3, [.ref rn, .ref rf])), (rn, ia G 16 (fun ι => nI (p ι))), (rf, ia G 16 (fun ι => nI (q ι)))]) rfl rfl ?_
              refine j_goto (pc := 51) (tgt := 60) hX dX1_turnBlocks_51 (by decide) ?_
              refine j_callV (pc := 60) hX kX1_putState kVX1_putState l_RX1_82 (fun l => c_X1_putState G g W H t b f4 x y (nI (q (stA W H f4 x y))) (by omega) (by omega) (by omega) (by omega) (by omega) (by omega) l) [0, 1] [2, 3, 4] [] rfl 0 1 rfl rfl rfl rfl rfl rfl ⟨rfl, rfl, by decide⟩ rfl rfl (Nat.le_of_ble_eq_true rfl) dX1_turnBlocks_60 (fun v w hq => ?_)
              obtain ⟨rfl, rfl⟩ := hq
              refine j_ws [3, 4, 0, 1, 2] (ws' := [(g, .inr (1, [.int (nI W), .int (nI H), .int t, .ref b])), (b, ia G 16 (ptA W H f4 x y (nI (q (stA W H f4 x y))))), (ru, .inr (3, [.ref rn, .ref rf])), (rn, ia G 16 (fun ι => nI (p ι))), (rf, ia G 16 (fun ι => nI (q ι)))]) rfl rfl ?_
              refine j_iinc (pc := 63) (q := 5) (v := nI (x + 2)) (lv' := [(4, .int (nI (x + 2))), (5, .int (nI (stA W H f4 x y))), (0, .ref g), (1, .ref ru), (2, .int (nI 1)), (3, .int (nI y))]) hX dX1_turnBlocks_63 rfl (nI_inc _ 2) (by decide) rfl ?_
              refine j_goto (pc := 66) (tgt := 19) hX dX1_turnBlocks_66 (by decide) ?_
              refine j_lv [2, 3, 4, 5, 0] (lv' := [(0, .ref g), (1, .ref ru), (2, .int (nI 1)), (3, .int (nI y)), (4, .int (nI (x + 2)))]) rfl ?_
              exact ih19 (c + 1) (x + 2) (ptA W H f4 x y (nI (q (stA W H f4 x y)))) (by omega) (by omega) (by rw [h4, hx]; rfl) (by omega)
        refine j_lv [1, 2, 3, 4, 0] (lv' := [(0, .ref g), (1, .ref ru), (2, .int (nI 1)), (3, .int (nI y)), (4, .int (nI (ph t)))]) rfl ?_
        exact L19 ((W - (ph t)) + 1) 0 (ph t) f3 (by omega) (by omega) (rfl) (Nat.lt_succ_self _)
  refine j_lv [1, 2, 3, 0] (lv' := [(0, .ref g), (1, .ref ru), (2, .int (nI 1)), (3, .int (nI (ph t)))]) rfl ?_
  exact L5 ((H - (ph t)) + 1) 0 (ph t) f (by omega) (by omega) (rfl) (Nat.lt_succ_self _)
set_option maxHeartbeats 4000000 in
set_option maxRecDepth 100000 in
theorem c_X1_go (G : GT) (g W H : Nat) (t : Int32) (b : Nat) (f : Nat → Int32) (n : Int32) (ru rn rf : Nat) (p q : Nat → Nat) (hW1 : 2 ≤ W) (hW2 : W ≤ 16) (hH1 : 2 ≤ H) (hH2 : H ≤ 16) (hW3 : W % 2 = 0) (hH3 : H % 2 = 0) (hn : -200 ≤ n.toInt ∧ n.toInt ≤ 200) (l : Launch) : CT l G yX1_go cX1_go 4 none { frames := 3, cells := 0, slots := 0, locals := 74 } [.ref g, .int n, .ref ru] [(g, .inr (1, [.int (nI W), .int (nI H), .int t, .ref b])), (b, ia G 16 f), (ru, .inr (3, [.ref rn, .ref rf])), (rn, ia G 16 (fun ι => nI (p ι))), (rf, ia G 16 (fun ι => nI (q ι)))] (fun vv ww => vv = none ∧ ww = [(g, .inr (1, [.int (nI W), .int (nI H), .int (t + n), .ref b])), (b, ia G 16 (goF W H p q t n f)), (ru, .inr (3, [.ref rn, .ref rf])), (rn, ia G 16 (fun ι => nI (p ι))), (rf, ia G 16 (fun ι => nI (q ι)))]) := by
  refine CT.of (lv := [(0, .ref g), (1, .int n), (2, .ref ru)]) RX1 "go" rfl rfl (by decide +kernel) (Nat.le_of_ble_eq_true rfl) rfl (fun X hX hR => ?_)
  refine j_iconstN (pc := 0) (j := 0) hX dX1_go_0 rfl ?_
  refine j_istore_n (pc := 1) (lv' := [(3, .int (nI 0)), (0, .ref g), (1, .int n), (2, .ref ru)]) hX dX1_go_1 (by decide) rfl ?_
  have L2 : ∀ (m2 : Nat) (i : Nat) (t3 : Int32) (f3 : Nat → Int32) (hi : i = 0 ∨ (i : Int) ≤ n.toInt) (ht : t3 = t + nI i) (h3 : f3 = gF W H p t i f), (n.toInt - i).toNat < m2 → J X G 4 0 0 [(g, .inr (1, [.int (nI W), .int (nI H), .int t3, .ref b])), (b, ia G 16 f3), (ru, .inr (3, [.ref rn, .ref rf])), (rn, ia G 16 (fun ι => nI (p ι))), (rf, ia G 16 (fun ι => nI (q ι)))] [(0, .ref g), (1, .int n), (2, .ref ru), (3, .int (nI i))] 2 [] := by
    intro m2
    induction m2 with
    | zero => intro i t3 f3 hi ht h3 hm2; exact absurd hm2 (Nat.not_lt_zero _)
    | succ m2 ih2 =>
      intro i t3 f3 hi ht h3 hm2
      refine j_iload_n (pc := 2) hX dX1_go_2 3 rfl ?_
      refine j_iload_n (pc := 3) hX dX1_go_3 1 rfl ?_
      refine j_icmp_ge (pc := 4) (tgt := 29) hX dX1_go_4 (by decide) (nI_toInt (n := i) (by omega)) rfl (fun c4 => ?_) (fun c4 => ?_)
      · skip
        refine j_iconstN (pc := 29) (j := 0) hX dX1_go_29 rfl ?_
        refine j_istore_n (pc := 30) (lv' := [(3, .int (nI 0)), (0, .ref g), (1, .int n), (2, .ref ru)]) hX dX1_go_30 (by decide) rfl ?_
        have L31 : ∀ (m31 : Nat) (j : Nat) (z t4 : Int32) (f4 : Nat → Int32) (hj : j = 0 ∨ (j : Int) ≤ -n.toInt) (hz : z.toInt = -(j : Int)) (ht4 : t4 = t3 - nI j) (h4 : f4 = gB W H q t3 j f3), (-n.toInt - j).toNat < m31 → J X G 4 0 0 [(g, .inr (1, [.int (nI W), .int (nI H), .int t4, .ref b])), (b, ia G 16 f4), (ru, .inr (3, [.ref rn, .ref rf])), (rn, ia G 16 (fun ι => nI (p ι))), (rf, ia G 16 (fun ι => nI (q ι)))] [(0, .ref g), (1, .int n), (2, .ref ru), (3, .int z)] 31 [] := by
          intro m31
          induction m31 with
          | zero => intro j z t4 f4 hj hz ht4 h4 hm31; exact absurd hm31 (Nat.not_lt_zero _)
          | succ m31 ih31 =>
            intro j z t4 f4 hj hz ht4 h4 hm31
            refine j_iload_n (pc := 31) hX dX1_go_31 3 rfl ?_
            refine j_iload_n (pc := 32) hX dX1_go_32 1 rfl ?_
            refine j_icmp_le (pc := 33) (tgt := 58) hX dX1_go_33 (by decide) rfl rfl (fun c33 => ?_) (fun c33 => ?_)
            · skip
              have ei : i = n.toInt.toNat := by omega
              have ej : j = (-n.toInt).toNat := by omega
              refine j_ia (q0 := 1) (f := f4) (g := goF W H p q t n f) rfl (fun z hz => by (rw [h4, h3, ht, ei, ej]; rfl)) (ws' := [(g, .inr (1, [.int (nI W), .int (nI H), .int t4, .ref b])), (b, ia G 16 (goF W H p q t n f)), (ru, .inr (3, [.ref rn, .ref rf])), (rn, ia G 16 (fun ι => nI (p ι))), (rf, ia G 16 (fun ι => nI (q ι)))]) rfl ?_
              refine j_eqw (ws' := [(g, .inr (1, [.int (nI W), .int (nI H), .int (t + n), .ref b])), (b, ia G 16 (goF W H p q t n f)), (ru, .inr (3, [.ref rn, .ref rf])), (rn, ia G 16 (fun ι => nI (p ι))), (rf, ia G 16 (fun ι => nI (q ι)))]) (congrArg (fun ζ : Int32 => ([(g, .inr (1, [.int (nI W), .int (nI H), .int ζ, .ref b])), (b, ia G 16 (goF W H p q t n f)), (ru, .inr (3, [.ref rn, .ref rf])), (rn, ia G 16 (fun ι => nI (p ι))), (rf, ia G 16 (fun ι => nI (q ι)))] : va_W)) (show t4 = t + n from by rw [ht4, ht, ei, ej]; exact goT t n hn)) ?_
              exact j_vret (pc := 58) hX hR dX1_go_58 ⟨rfl, rfl⟩
            · skip
              refine j_aload_n (pc := 36) hX dX1_go_36 0 rfl ?_
              refine j_dup (pc := 37) hX dX1_go_37 rfl ?_
              refine j_get (pc := 38) hX f_RX1_18 0 rfl rfl dX1_go_38 ?_
              refine j_iconstN (pc := 41) (j := 1) hX dX1_go_41 rfl ?_
              refine j_isub (pc := 42) hX dX1_go_42 ?_
              refine j_topi (y := t3 - nI (j + 1)) (by rw [ht4]; exact subS t3 j) ?_
              refine j_put (pc := 43) (ws' := [(g, .inr (1, [.int (nI W), .int (nI H), .int (t3 - nI (j + 1)), .ref b])), (b, ia G 16 f4), (ru, .inr (3, [.ref rn, .ref rf])), (rn, ia G 16 (fun ι => nI (p ι))), (rf, ia G 16 (fun ι => nI (q ι)))]) hX f_RX1_18 0 rfl rfl rfl (Nat.le_of_ble_eq_true rfl) rfl dX1_go_43 ?_
              refine j_aload_n (pc := 46) hX dX1_go_46 0 rfl ?_
              refine j_aload_n (pc := 47) hX dX1_go_47 2 rfl ?_
              refine j_iconstN (pc := 48) (j := 1) hX dX1_go_48 rfl ?_
              refine j_callV (pc := 49) hX kX1_turnBlocks kVX1_turnBlocks l_RX1_86 (fun l => c_X1_turnBlocks_t G g W H (t3 - nI (j + 1)) b f4 ru rn rf p q (by omega) (by omega) (by omega) (by omega) (by omega) (by omega) l) [0, 1, 2, 3, 4] [] [] rfl 0 1 rfl rfl rfl rfl rfl rfl ⟨rfl, rfl, by decide⟩ rfl rfl (Nat.le_of_ble_eq_true rfl) dX1_go_49 (fun v w hq => ?_)
              obtain ⟨rfl, rfl⟩ := hq
              refine j_ws [0, 1, 2, 3, 4] (ws' := [(g, .inr (1, [.int (nI W), .int (nI H), .int (t3 - nI (j + 1)), .ref b])), (b, ia G 16 (turn W H q (ph (t3 - nI (j + 1))) f4)), (ru, .inr (3, [.ref rn, .ref rf])), (rn, ia G 16 (fun ι => nI (p ι))), (rf, ia G 16 (fun ι => nI (q ι)))]) rfl rfl ?_
              refine j_iinc (pc := 52) (q := 3) (v := z + (-1)) (lv' := [(3, .int (z + (-1))), (0, .ref g), (1, .int n), (2, .ref ru)]) hX dX1_go_52 rfl (rfl) (by decide) rfl ?_
              refine j_goto (pc := 55) (tgt := 31) hX dX1_go_55 (by decide) ?_
              refine j_lv [1, 2, 3, 0] (lv' := [(0, .ref g), (1, .int n), (2, .ref ru), (3, .int (z + (-1)))]) rfl ?_
              exact ih31 (j + 1) (z + (-1)) (t3 - nI (j + 1)) (turn W H q (ph (t3 - nI (j + 1))) f4) (by omega) (negS hz (by omega)) (rfl) (by rw [h4]; rfl) (by omega)
        refine j_lv [1, 2, 3, 0] (lv' := [(0, .ref g), (1, .int n), (2, .ref ru), (3, .int (nI 0))]) rfl ?_
        exact L31 (((-n.toInt - 0).toNat) + 1) 0 (nI 0) t3 f3 (by omega) (by rw [nI_toInt (by omega)]; rfl) (sub0 t3) (rfl) (Nat.lt_succ_self _)
      · skip
        refine j_aload_n (pc := 7) hX dX1_go_7 0 rfl ?_
        refine j_aload_n (pc := 8) hX dX1_go_8 2 rfl ?_
        refine j_iconstN (pc := 9) (j := 0) hX dX1_go_9 rfl ?_
        refine j_callV (pc := 10) hX kX1_turnBlocks kVX1_turnBlocks l_RX1_86 (fun l => c_X1_turnBlocks_f G g W H t3 b f3 ru rn rf p q (by omega) (by omega) (by omega) (by omega) (by omega) (by omega) l) [0, 1, 2, 3, 4] [] [] rfl 0 1 rfl rfl rfl rfl rfl rfl ⟨rfl, rfl, by decide⟩ rfl rfl (Nat.le_of_ble_eq_true rfl) dX1_go_10 (fun v w hq => ?_)
        obtain ⟨rfl, rfl⟩ := hq
        refine j_ws [0, 1, 2, 3, 4] (ws' := [(g, .inr (1, [.int (nI W), .int (nI H), .int t3, .ref b])), (b, ia G 16 (turn W H p (ph t3) f3)), (ru, .inr (3, [.ref rn, .ref rf])), (rn, ia G 16 (fun ι => nI (p ι))), (rf, ia G 16 (fun ι => nI (q ι)))]) rfl rfl ?_
        refine j_aload_n (pc := 13) hX dX1_go_13 0 rfl ?_
        refine j_dup (pc := 14) hX dX1_go_14 rfl ?_
        refine j_get (pc := 15) hX f_RX1_18 0 rfl rfl dX1_go_15 ?_
        refine j_iconstN (pc := 18) (j := 1) hX dX1_go_18 rfl ?_
        refine j_iadd (pc := 19) hX dX1_go_19 ?_
        refine j_put (pc := 20) (ws' := [(g, .inr (1, [.int (nI W), .int (nI H), .int (t3 + (nI 1)), .ref b])), (b, ia G 16 (turn W H p (ph t3) f3)), (ru, .inr (3, [.ref rn, .ref rf])), (rn, ia G 16 (fun ι => nI (p ι))), (rf, ia G 16 (fun ι => nI (q ι)))]) hX f_RX1_18 0 rfl rfl rfl (Nat.le_of_ble_eq_true rfl) rfl dX1_go_20 ?_
        refine j_iinc (pc := 23) (q := 3) (v := nI (i + 1)) (lv' := [(3, .int (nI (i + 1))), (0, .ref g), (1, .int n), (2, .ref ru)]) hX dX1_go_23 rfl (nI_inc _ 1) (by decide) rfl ?_
        refine j_goto (pc := 26) (tgt := 2) hX dX1_go_26 (by decide) ?_
        refine j_lv [1, 2, 3, 0] (lv' := [(0, .ref g), (1, .int n), (2, .ref ru), (3, .int (nI (i + 1)))]) rfl ?_
        exact ih2 (i + 1) (t3 + (nI 1)) (turn W H p (ph t3) f3) (by omega) (by rw [ht]; exact addS t i) (by rw [h3, ht]; rfl) (by omega)
  refine j_lv [1, 2, 3, 0] (lv' := [(0, .ref g), (1, .int n), (2, .ref ru), (3, .int (nI 0))]) rfl ?_
  exact L2 (((n.toInt - 0).toNat) + 1) 0 t f (by omega) (add0 t) (rfl) (Nat.lt_succ_self _)
set_option maxHeartbeats 4000000 in
set_option maxRecDepth 100000 in
theorem c_X4_isFull (G : GT) (tb nu cap m : Nat) (c0 c1 c2 : Nat → Int32) (hcap : cap ≤ 12) (hm : m ≤ cap) (l : Launch) : CT l G yX4_isFull cX4_isFull 1 (some .boolean) { frames := 0, cells := 0, slots := 0, locals := 0 } [.ref tb] [(tb, .inr (4, [.int (nI m), .ref nu])), (nu, ia G (3 * cap) (tab c0 c1 c2))] (fun vv ww => vv = some (.int (bI (decide (cap ≤ m)))) ∧ ww = [(tb, .inr (4, [.int (nI m), .ref nu])), (nu, ia G (3 * cap) (tab c0 c1 c2))]) := by
  refine CT.of (lv := [(0, .ref tb)]) RX4 "isFull" rfl rfl (by decide +kernel) (Nat.le_of_ble_eq_true rfl) rfl (fun X hX hR => ?_)
  refine j_iconstN (pc := 0) (j := 3) hX dX4_isFull_0 rfl ?_
  refine j_aload_n (pc := 1) hX dX4_isFull_1 0 rfl ?_
  refine j_get (pc := 2) hX f_RX4_7 0 rfl rfl dX4_isFull_2 ?_
  refine j_imul (pc := 5) hX dX4_isFull_5 ?_
  refine j_topi (y := nI (3 * m)) (pk_mul _ _) ?_
  refine j_aload_n (pc := 6) hX dX4_isFull_6 0 rfl ?_
  refine j_get (pc := 7) hX f_RX4_19 0 rfl rfl dX4_isFull_7 ?_
  refine j_len_i (pc := 10) hX 1 rfl dX4_isFull_10 ?_
  refine j_icmp_lt (pc := 11) (tgt := 18) hX dX4_isFull_11 (by decide) (nI_toInt (n := 3 * m) (by omega)) (nI_toInt (n := 3 * cap) (by omega)) (fun c11 => ?_) (fun c11 => ?_)
  · skip
    refine j_iconstN (pc := 18) (j := 0) hX dX4_isFull_18 rfl ?_
    exact j_zret (pc := 19) hX hR (by decide) dX4_isFull_19 ⟨congrArg some (show Value.int (nI 0) = Value.int (bI (decide (cap ≤ m))) from by first | exact bI_t (by omega) | exact bI_f (by omega)), rfl⟩
  · skip
    refine j_iconstN (pc := 14) (j := 1) hX dX4_isFull_14 rfl ?_
    refine j_goto (pc := 15) (tgt := 19) hX dX4_isFull_15 (by decide) ?_
    exact j_zret (pc := 19) hX hR (by decide) dX4_isFull_19 ⟨congrArg some (show Value.int (nI 1) = Value.int (bI (decide (cap ≤ m))) from by first | exact bI_t (by omega) | exact bI_f (by omega)), rfl⟩
set_option maxHeartbeats 4000000 in
set_option maxRecDepth 100000 in
theorem c_X4_add (G : GT) (tb nu cap m : Nat) (c0 c1 c2 : Nat → Int32) (x y w : Int32) (hcap : cap ≤ 12) (hm : m < cap) (l : Launch) : CT l G yX4_add cX4_add 4 none { frames := 1, cells := 0, slots := 0, locals := 22 } [.ref tb, .int x, .int y, .int w] [(tb, .inr (4, [.int (nI m), .ref nu])), (nu, ia G (3 * cap) (tab c0 c1 c2))] (fun vv ww => vv = none ∧ ww = [(tb, .inr (4, [.int (nI (m + 1)), .ref nu])), (nu, ia G (3 * cap) (tab (upd c0 m x) (upd c1 m y) (upd c2 m w)))]) := by
  refine CT.of (lv := [(0, .ref tb), (1, .int x), (2, .int y), (3, .int w)]) RX4 "add" rfl rfl (by decide +kernel) (Nat.le_of_ble_eq_true rfl) rfl (fun X hX hR => ?_)
  refine j_aload_n (pc := 0) hX dX4_add_0 0 rfl ?_
  refine j_callV (pc := 1) hX kX4_isFull kVX4_isFull l_RX4_23 (fun l => c_X4_isFull G tb nu cap m c0 c1 c2 (by omega) (by omega) l) [0, 1] [] [] rfl 0 4 rfl rfl rfl rfl rfl rfl ⟨rfl, rfl, by decide⟩ rfl rfl (Nat.le_of_ble_eq_true rfl) dX4_add_1 (fun v w hq => ?_)
  obtain ⟨rfl, rfl⟩ := hq
  refine j_ws [0, 1] (ws' := [(tb, .inr (4, [.int (nI m), .ref nu])), (nu, ia G (3 * cap) (tab c0 c1 c2))]) rfl rfl ?_
  refine j_ifB_eq (pc := 4) (tgt := 8) hX dX4_add_4 (by decide) (fun c4 => ?_) (fun c4 => by have := of_decide_eq_true c4; omega)
  refine j_aload_n (pc := 8) hX dX4_add_8 0 rfl ?_
  refine j_get (pc := 9) hX f_RX4_19 0 rfl rfl dX4_add_9 ?_
  refine j_iconstN (pc := 12) (j := 3) hX dX4_add_12 rfl ?_
  refine j_aload_n (pc := 13) hX dX4_add_13 0 rfl ?_
  refine j_get (pc := 14) hX f_RX4_7 0 rfl rfl dX4_add_14 ?_
  refine j_imul (pc := 17) hX dX4_add_17 ?_
  refine j_topi (y := nI (3 * m)) (pk_mul _ _) ?_
  refine j_iload_n (pc := 18) hX dX4_add_18 1 rfl ?_
  refine j_callSN (pc := 19) hX kX8_put kSX8_put l_RX4_27 (fun l => c_X8_put G nu (3 * cap) (tab c0 c1 c2) (3 * m) x (by omega) (by omega) l) [1] [0] [] rfl rfl rfl rfl ⟨rfl, rfl, by decide⟩ rfl rfl (Nat.le_of_ble_eq_true rfl) dX4_add_19 (fun v w hq => ?_)
  obtain ⟨rfl, rfl⟩ := hq
  refine j_ws [0, 1] (ws' := [(tb, .inr (4, [.int (nI m), .ref nu])), (nu, ia G (3 * cap) (upd (tab c0 c1 c2) (3 * m) x))]) rfl rfl ?_
  refine j_aload_n (pc := 22) hX dX4_add_22 0 rfl ?_
  refine j_get (pc := 23) hX f_RX4_19 0 rfl rfl dX4_add_23 ?_
  refine j_iconstN (pc := 26) (j := 3) hX dX4_add_26 rfl ?_
  refine j_aload_n (pc := 27) hX dX4_add_27 0 rfl ?_
  refine j_get (pc := 28) hX f_RX4_7 0 rfl rfl dX4_add_28 ?_
  refine j_imul (pc := 31) hX dX4_add_31 ?_
  refine j_topi (y := nI (3 * m)) (pk_mul _ _) ?_
  refine j_iconstN (pc := 32) (j := 1) hX dX4_add_32 rfl ?_
  refine j_iadd (pc := 33) hX dX4_add_33 ?_
  refine j_topi (y := nI (3 * m + 1)) (nI_add _ _) ?_
  refine j_iload_n (pc := 34) hX dX4_add_34 2 rfl ?_
  refine j_callSN (pc := 35) hX kX8_put kSX8_put l_RX4_27 (fun l => c_X8_put G nu (3 * cap) (upd (tab c0 c1 c2) (3 * m) x) (3 * m + 1) y (by omega) (by omega) l) [1] [0] [] rfl rfl rfl rfl ⟨rfl, rfl, by decide⟩ rfl rfl (Nat.le_of_ble_eq_true rfl) dX4_add_35 (fun v w hq => ?_)
  obtain ⟨rfl, rfl⟩ := hq
  refine j_ws [0, 1] (ws' := [(tb, .inr (4, [.int (nI m), .ref nu])), (nu, ia G (3 * cap) (upd (upd (tab c0 c1 c2) (3 * m) x) (3 * m + 1) y))]) rfl rfl ?_
  refine j_aload_n (pc := 38) hX dX4_add_38 0 rfl ?_
  refine j_get (pc := 39) hX f_RX4_19 0 rfl rfl dX4_add_39 ?_
  refine j_iconstN (pc := 42) (j := 3) hX dX4_add_42 rfl ?_
  refine j_aload_n (pc := 43) hX dX4_add_43 0 rfl ?_
  refine j_get (pc := 44) hX f_RX4_7 0 rfl rfl dX4_add_44 ?_
  refine j_imul (pc := 47) hX dX4_add_47 ?_
  refine j_topi (y := nI (3 * m)) (pk_mul _ _) ?_
  refine j_iconstN (pc := 48) (j := 2) hX dX4_add_48 rfl ?_
  refine j_iadd (pc := 49) hX dX4_add_49 ?_
  refine j_topi (y := nI (3 * m + 2)) (nI_add _ _) ?_
  refine j_iload_n (pc := 50) hX dX4_add_50 3 rfl ?_
  refine j_callSN (pc := 51) hX kX8_put kSX8_put l_RX4_27 (fun l => c_X8_put G nu (3 * cap) (upd (upd (tab c0 c1 c2) (3 * m) x) (3 * m + 1) y) (3 * m + 2) w (by omega) (by omega) l) [1] [0] [] rfl rfl rfl rfl ⟨rfl, rfl, by decide⟩ rfl rfl (Nat.le_of_ble_eq_true rfl) dX4_add_51 (fun v w hq => ?_)
  obtain ⟨rfl, rfl⟩ := hq
  refine j_ws [0, 1] (ws' := [(tb, .inr (4, [.int (nI m), .ref nu])), (nu, ia G (3 * cap) (upd (upd (upd (tab c0 c1 c2) (3 * m) x) (3 * m + 1) y) (3 * m + 2) w))]) rfl rfl ?_
  refine j_aload_n (pc := 54) hX dX4_add_54 0 rfl ?_
  refine j_dup (pc := 55) hX dX4_add_55 rfl ?_
  refine j_get (pc := 56) hX f_RX4_7 0 rfl rfl dX4_add_56 ?_
  refine j_iconstN (pc := 59) (j := 1) hX dX4_add_59 rfl ?_
  refine j_iadd (pc := 60) hX dX4_add_60 ?_
  refine j_topi (y := nI (m + 1)) (nI_add _ _) ?_
  refine j_put (pc := 61) (ws' := [(tb, .inr (4, [.int (nI (m + 1)), .ref nu])), (nu, ia G (3 * cap) (upd (upd (upd (tab c0 c1 c2) (3 * m) x) (3 * m + 1) y) (3 * m + 2) w))]) hX f_RX4_7 0 rfl rfl rfl (Nat.le_of_ble_eq_true rfl) rfl dX4_add_61 ?_
  refine j_ia (q0 := 1) (f := upd (upd (upd (tab c0 c1 c2) (3 * m) x) (3 * m + 1) y) (3 * m + 2) w) (g := tab (upd c0 m x) (upd c1 m y) (upd c2 m w)) rfl (fun z hz => by exact tab_add z) (ws' := [(tb, .inr (4, [.int (nI (m + 1)), .ref nu])), (nu, ia G (3 * cap) (tab (upd c0 m x) (upd c1 m y) (upd c2 m w)))]) rfl ?_
  exact j_vret (pc := 64) hX hR dX4_add_64 ⟨rfl, rfl⟩
set_option maxHeartbeats 4000000 in
set_option maxRecDepth 100000 in
theorem c_X4_first (G : GT) (tb nu cap m : Nat) (c0 c1 c2 : Nat → Int32) (i : Nat) (hcap : cap ≤ 12) (hi : i < cap) (l : Launch) : CT l G yX4_first cX4_first 2 (some .int) { frames := 1, cells := 0, slots := 0, locals := 21 } [.ref tb, .int (nI i)] [(tb, .inr (4, [.int (nI m), .ref nu])), (nu, ia G (3 * cap) (tab c0 c1 c2))] (fun vv ww => vv = some (.int (c0 i)) ∧ ww = [(tb, .inr (4, [.int (nI m), .ref nu])), (nu, ia G (3 * cap) (tab c0 c1 c2))]) := by
  refine CT.of (lv := [(0, .ref tb), (1, .int (nI i))]) RX4 "first" rfl rfl (by decide +kernel) (Nat.le_of_ble_eq_true rfl) rfl (fun X hX hR => ?_)
  refine j_aload_n (pc := 0) hX dX4_first_0 0 rfl ?_
  refine j_get (pc := 1) hX f_RX4_19 0 rfl rfl dX4_first_1 ?_
  refine j_iconstN (pc := 4) (j := 3) hX dX4_first_4 rfl ?_
  refine j_iload_n (pc := 5) hX dX4_first_5 1 rfl ?_
  refine j_imul (pc := 6) hX dX4_first_6 ?_
  refine j_topi (y := nI (3 * i)) (pk_mul _ _) ?_
  refine j_callSN (pc := 7) hX kX8_at kSX8_at l_RX4_33 (fun l => c_X8_at G nu (3 * cap) (tab c0 c1 c2) (3 * i) (by omega) (by omega) l) [1] [0] [] rfl rfl rfl rfl ⟨rfl, rfl, by decide⟩ rfl rfl (Nat.le_of_ble_eq_true rfl) dX4_first_7 (fun v w hq => ?_)
  obtain ⟨rfl, rfl⟩ := hq
  refine j_ws [0, 1] (ws' := [(tb, .inr (4, [.int (nI m), .ref nu])), (nu, ia G (3 * cap) (tab c0 c1 c2))]) rfl rfl ?_
  exact j_iret (pc := 10) hX hR dX4_first_10 ⟨congrArg some (show Value.int ((tab c0 c1 c2) (3 * i)) = Value.int (c0 i) from by rw [tab_0]), rfl⟩
set_option maxHeartbeats 4000000 in
set_option maxRecDepth 100000 in
theorem c_X4_second (G : GT) (tb nu cap m : Nat) (c0 c1 c2 : Nat → Int32) (i : Nat) (hcap : cap ≤ 12) (hi : i < cap) (l : Launch) : CT l G yX4_second cX4_second 2 (some .int) { frames := 1, cells := 0, slots := 0, locals := 21 } [.ref tb, .int (nI i)] [(tb, .inr (4, [.int (nI m), .ref nu])), (nu, ia G (3 * cap) (tab c0 c1 c2))] (fun vv ww => vv = some (.int (c1 i)) ∧ ww = [(tb, .inr (4, [.int (nI m), .ref nu])), (nu, ia G (3 * cap) (tab c0 c1 c2))]) := by
  refine CT.of (lv := [(0, .ref tb), (1, .int (nI i))]) RX4 "second" rfl rfl (by decide +kernel) (Nat.le_of_ble_eq_true rfl) rfl (fun X hX hR => ?_)
  refine j_aload_n (pc := 0) hX dX4_second_0 0 rfl ?_
  refine j_get (pc := 1) hX f_RX4_19 0 rfl rfl dX4_second_1 ?_
  refine j_iconstN (pc := 4) (j := 3) hX dX4_second_4 rfl ?_
  refine j_iload_n (pc := 5) hX dX4_second_5 1 rfl ?_
  refine j_imul (pc := 6) hX dX4_second_6 ?_
  refine j_topi (y := nI (3 * i)) (pk_mul _ _) ?_
  refine j_iconstN (pc := 7) (j := 1) hX dX4_second_7 rfl ?_
  refine j_iadd (pc := 8) hX dX4_second_8 ?_
  refine j_topi (y := nI (3 * i + 1)) (nI_add _ _) ?_
  refine j_callSN (pc := 9) hX kX8_at kSX8_at l_RX4_33 (fun l => c_X8_at G nu (3 * cap) (tab c0 c1 c2) (3 * i + 1) (by omega) (by omega) l) [1] [0] [] rfl rfl rfl rfl ⟨rfl, rfl, by decide⟩ rfl rfl (Nat.le_of_ble_eq_true rfl) dX4_second_9 (fun v w hq => ?_)
  obtain ⟨rfl, rfl⟩ := hq
  refine j_ws [0, 1] (ws' := [(tb, .inr (4, [.int (nI m), .ref nu])), (nu, ia G (3 * cap) (tab c0 c1 c2))]) rfl rfl ?_
  exact j_iret (pc := 12) hX hR dX4_second_12 ⟨congrArg some (show Value.int ((tab c0 c1 c2) (3 * i + 1)) = Value.int (c1 i) from by rw [tab_1]), rfl⟩
set_option maxHeartbeats 4000000 in
set_option maxRecDepth 100000 in
theorem c_X4_third (G : GT) (tb nu cap m : Nat) (c0 c1 c2 : Nat → Int32) (i : Nat) (hcap : cap ≤ 12) (hi : i < cap) (l : Launch) : CT l G yX4_third cX4_third 2 (some .int) { frames := 1, cells := 0, slots := 0, locals := 21 } [.ref tb, .int (nI i)] [(tb, .inr (4, [.int (nI m), .ref nu])), (nu, ia G (3 * cap) (tab c0 c1 c2))] (fun vv ww => vv = some (.int (c2 i)) ∧ ww = [(tb, .inr (4, [.int (nI m), .ref nu])), (nu, ia G (3 * cap) (tab c0 c1 c2))]) := by
  refine CT.of (lv := [(0, .ref tb), (1, .int (nI i))]) RX4 "third" rfl rfl (by decide +kernel) (Nat.le_of_ble_eq_true rfl) rfl (fun X hX hR => ?_)
  refine j_aload_n (pc := 0) hX dX4_third_0 0 rfl ?_
  refine j_get (pc := 1) hX f_RX4_19 0 rfl rfl dX4_third_1 ?_
  refine j_iconstN (pc := 4) (j := 3) hX dX4_third_4 rfl ?_
  refine j_iload_n (pc := 5) hX dX4_third_5 1 rfl ?_
  refine j_imul (pc := 6) hX dX4_third_6 ?_
  refine j_topi (y := nI (3 * i)) (pk_mul _ _) ?_
  refine j_iconstN (pc := 7) (j := 2) hX dX4_third_7 rfl ?_
  refine j_iadd (pc := 8) hX dX4_third_8 ?_
  refine j_topi (y := nI (3 * i + 2)) (nI_add _ _) ?_
  refine j_callSN (pc := 9) hX kX8_at kSX8_at l_RX4_33 (fun l => c_X8_at G nu (3 * cap) (tab c0 c1 c2) (3 * i + 2) (by omega) (by omega) l) [1] [0] [] rfl rfl rfl rfl ⟨rfl, rfl, by decide⟩ rfl rfl (Nat.le_of_ble_eq_true rfl) dX4_third_9 (fun v w hq => ?_)
  obtain ⟨rfl, rfl⟩ := hq
  refine j_ws [0, 1] (ws' := [(tb, .inr (4, [.int (nI m), .ref nu])), (nu, ia G (3 * cap) (tab c0 c1 c2))]) rfl rfl ?_
  exact j_iret (pc := 12) hX hR dX4_third_12 ⟨congrArg some (show Value.int ((tab c0 c1 c2) (3 * i + 2)) = Value.int (c2 i) from by rw [tab_2]), rfl⟩
set_option maxHeartbeats 4000000 in
set_option maxRecDepth 100000 in
theorem c_X4_dropLatest (G : GT) (tb nu cap m : Nat) (c0 c1 c2 : Nat → Int32) (hcap : cap ≤ 12) (hm : m ≤ cap) (h0 : 0 < m) (l : Launch) : CT l G yX4_dropLatest cX4_dropLatest 1 none { frames := 0, cells := 0, slots := 0, locals := 0 } [.ref tb] [(tb, .inr (4, [.int (nI m), .ref nu])), (nu, ia G (3 * cap) (tab c0 c1 c2))] (fun vv ww => vv = none ∧ ww = [(tb, .inr (4, [.int (nI (m - 1)), .ref nu])), (nu, ia G (3 * cap) (tab c0 c1 c2))]) := by
  refine CT.of (lv := [(0, .ref tb)]) RX4 "dropLatest" rfl rfl (by decide +kernel) (Nat.le_of_ble_eq_true rfl) rfl (fun X hX hR => ?_)
  refine j_aload_n (pc := 0) hX dX4_dropLatest_0 0 rfl ?_
  refine j_get (pc := 1) hX f_RX4_7 0 rfl rfl dX4_dropLatest_1 ?_
  refine j_if_le (pc := 4) (tgt := 17) hX dX4_dropLatest_4 (by decide) (nI_toInt (n := m) (by omega)) (fun c4 => by exfalso; omega) (fun c4 => ?_)
  refine j_aload_n (pc := 7) hX dX4_dropLatest_7 0 rfl ?_
  refine j_dup (pc := 8) hX dX4_dropLatest_8 rfl ?_
  refine j_get (pc := 9) hX f_RX4_7 0 rfl rfl dX4_dropLatest_9 ?_
  refine j_iconstN (pc := 12) (j := 1) hX dX4_dropLatest_12 rfl ?_
  refine j_isub (pc := 13) hX dX4_dropLatest_13 ?_
  refine j_topi (y := nI (m - 1)) (pk_sub (by omega)) ?_
  refine j_put (pc := 14) (ws' := [(tb, .inr (4, [.int (nI (m - 1)), .ref nu])), (nu, ia G (3 * cap) (tab c0 c1 c2))]) hX f_RX4_7 0 rfl rfl rfl (Nat.le_of_ble_eq_true rfl) rfl dX4_dropLatest_14 ?_
  exact j_vret (pc := 17) hX hR dX4_dropLatest_17 ⟨rfl, rfl⟩
set_option maxHeartbeats 4000000 in
set_option maxRecDepth 100000 in
theorem c_X4_dropEldest (G : GT) (tb nu cap m : Nat) (c0 c1 c2 : Nat → Int32) (hcap : cap ≤ 12) (hm : m ≤ cap) (h0 : 0 < m) (l : Launch) : CT l G yX4_dropEldest cX4_dropEldest 2 none { frames := 1, cells := 0, slots := 0, locals := 20 } [.ref tb] [(tb, .inr (4, [.int (nI m), .ref nu])), (nu, ia G (3 * cap) (tab c0 c1 c2))] (fun vv ww => vv = none ∧ ww = [(tb, .inr (4, [.int (nI (m - 1)), .ref nu])), (nu, ia G (3 * cap) (tab (shf cap c0) (shf cap c1) (shf cap c2)))]) := by
  refine CT.of (lv := [(0, .ref tb)]) RX4 "dropEldest" rfl rfl (by decide +kernel) (Nat.le_of_ble_eq_true rfl) rfl (fun X hX hR => ?_)
  refine j_iconstN (pc := 0) (j := 3) hX dX4_dropEldest_0 rfl ?_
  refine j_istore_n (pc := 1) (lv' := [(1, .int (nI 3)), (0, .ref tb)]) hX dX4_dropEldest_1 (by decide) rfl ?_
  have L2 : ∀ (m2 : Nat) (k : Nat) (g2 : Nat → Int32) (hk : 3 ≤ k ∧ k ≤ 3 * cap) (hg : ∀ z, z + 3 < k → g2 z = tab c0 c1 c2 (z + 3)) (hg2 : ∀ z, k ≤ z + 3 → g2 z = tab c0 c1 c2 z), 3 * cap - k < m2 → J X G 2 0 0 [(tb, .inr (4, [.int (nI m), .ref nu])), (nu, ia G (3 * cap) g2)] [(0, .ref tb), (1, .int (nI k))] 2 [] := by
    intro m2
    induction m2 with
    | zero => intro k g2 hk hg hg2 hm2; exact absurd hm2 (Nat.not_lt_zero _)
    | succ m2 ih2 =>
      intro k g2 hk hg hg2 hm2
      refine j_iload_n (pc := 2) hX dX4_dropEldest_2 1 rfl ?_
      refine j_aload_n (pc := 3) hX dX4_dropEldest_3 0 rfl ?_
      refine j_get (pc := 4) hX f_RX4_19 0 rfl rfl dX4_dropEldest_4 ?_
      refine j_len_i (pc := 7) hX 1 rfl dX4_dropEldest_7 ?_
      refine j_icmp_ge (pc := 8) (tgt := 31) hX dX4_dropEldest_8 (by decide) (nI_toInt (n := k) (by omega)) (nI_toInt (n := 3 * cap) (by omega)) (fun c8 => ?_) (fun c8 => ?_)
      · skip
        refine j_ia (q0 := 1) (f := g2) (g := tab (shf cap c0) (shf cap c1) (shf cap c2)) rfl (fun z hz => by exact tab_shf (fun z hz => hg z (by omega)) (fun z hz => hg2 z (by omega)) z) (ws' := [(tb, .inr (4, [.int (nI m), .ref nu])), (nu, ia G (3 * cap) (tab (shf cap c0) (shf cap c1) (shf cap c2)))]) rfl ?_
        refine j_aload_n (pc := 31) hX dX4_dropEldest_31 0 rfl ?_
        refine j_callV (pc := 32) hX kX4_dropLatest kVX4_dropLatest l_RX4_37 (fun l => c_X4_dropLatest G tb nu cap m (shf cap c0) (shf cap c1) (shf cap c2) (by omega) (by omega) (by omega) l) [0, 1] [] [] rfl 0 4 rfl rfl rfl rfl rfl rfl ⟨rfl, rfl, by decide⟩ rfl rfl (Nat.le_of_ble_eq_true rfl) dX4_dropEldest_32 (fun v w hq => ?_)
        obtain ⟨rfl, rfl⟩ := hq
        refine j_ws [0, 1] (ws' := [(tb, .inr (4, [.int (nI (m - 1)), .ref nu])), (nu, ia G (3 * cap) (tab (shf cap c0) (shf cap c1) (shf cap c2)))]) rfl rfl ?_
        exact j_vret (pc := 35) hX hR dX4_dropEldest_35 ⟨rfl, rfl⟩
      · skip
        refine j_aload_n (pc := 11) hX dX4_dropEldest_11 0 rfl ?_
        refine j_get (pc := 12) hX f_RX4_19 0 rfl rfl dX4_dropEldest_12 ?_
        refine j_iload_n (pc := 15) hX dX4_dropEldest_15 1 rfl ?_
        refine j_iconstN (pc := 16) (j := 3) hX dX4_dropEldest_16 rfl ?_
        refine j_isub (pc := 17) hX dX4_dropEldest_17 ?_
        refine j_topi (y := nI (k - 3)) (pk_sub (by omega)) ?_
        refine j_aload_n (pc := 18) hX dX4_dropEldest_18 0 rfl ?_
        refine j_get (pc := 19) hX f_RX4_19 0 rfl rfl dX4_dropEldest_19 ?_
        refine j_iload_n (pc := 22) hX dX4_dropEldest_22 1 rfl ?_
        refine j_ialdN (pc := 23) (j := k) hX 1 rfl (by omega) (by omega) dX4_dropEldest_23 ?_
        refine j_iastN (pc := 24) (j := k - 3) (ws' := [(tb, .inr (4, [.int (nI m), .ref nu])), (nu, ia G (3 * cap) (upd g2 (k - 3) (g2 k)))]) hX 1 rfl (by omega) (by omega) rfl dX4_dropEldest_24 ?_
        refine j_iinc (pc := 25) (q := 1) (v := nI (k + 1)) (lv' := [(1, .int (nI (k + 1))), (0, .ref tb)]) hX dX4_dropEldest_25 rfl (nI_inc _ 1) (by decide) rfl ?_
        refine j_goto (pc := 28) (tgt := 2) hX dX4_dropEldest_28 (by decide) ?_
        refine j_lv [1, 0] (lv' := [(0, .ref tb), (1, .int (nI (k + 1)))]) rfl ?_
        exact ih2 (k + 1) (upd g2 (k - 3) (g2 k)) (by omega) (fun z hz => by unfold upd; split; (rename_i e; rw [hg2 k (by omega), e, show k - 3 + 3 = k from by omega]); exact hg z (by omega)) (fun z hz => by unfold upd; rw [if_neg (by omega)]; exact hg2 z (by omega)) (by omega)
  refine j_lv [1, 0] (lv' := [(0, .ref tb), (1, .int (nI 3))]) rfl ?_
  exact L2 ((3 * cap - 3) + 1) 3 (tab c0 c1 c2) (by omega) (fun z hz => by omega) (fun _ _ => rfl) (Nat.lt_succ_self _)
set_option maxHeartbeats 4000000 in
set_option maxRecDepth 100000 in
theorem c_X4_empty (G : GT) (tb nu cap m : Nat) (c0 c1 c2 : Nat → Int32)  (l : Launch) : CT l G yX4_empty cX4_empty 1 none { frames := 0, cells := 0, slots := 0, locals := 0 } [.ref tb] [(tb, .inr (4, [.int (nI m), .ref nu])), (nu, ia G (3 * cap) (tab c0 c1 c2))] (fun vv ww => vv = none ∧ ww = [(tb, .inr (4, [.int (nI 0), .ref nu])), (nu, ia G (3 * cap) (tab c0 c1 c2))]) := by
  refine CT.of (lv := [(0, .ref tb)]) RX4 "empty" rfl rfl (by decide +kernel) (Nat.le_of_ble_eq_true rfl) rfl (fun X hX hR => ?_)
  refine j_aload_n (pc := 0) hX dX4_empty_0 0 rfl ?_
  refine j_iconstN (pc := 1) (j := 0) hX dX4_empty_1 rfl ?_
  refine j_put (pc := 2) (ws' := [(tb, .inr (4, [.int (nI 0), .ref nu])), (nu, ia G (3 * cap) (tab c0 c1 c2))]) hX f_RX4_7 0 rfl rfl rfl (Nat.le_of_ble_eq_true rfl) rfl dX4_empty_2 ?_
  exact j_vret (pc := 5) hX hR dX4_empty_5 ⟨rfl, rfl⟩
set_option maxHeartbeats 4000000 in
set_option maxRecDepth 100000 in
theorem c_X4_copyOf (G : GT) (tb nu cap m : Nat) (c0 c1 c2 : Nat → Int32) (o on m2 : Nat) (d0 d1 d2 : Nat → Int32) (hcap : cap ≤ 12) (l : Launch) : CT l G yX4_copyOf cX4_copyOf 2 none { frames := 1, cells := 0, slots := 0, locals := 22 } [.ref tb, .ref o] [(tb, .inr (4, [.int (nI m), .ref nu])), (nu, ia G (3 * cap) (tab c0 c1 c2)), (o, .inr (4, [.int (nI m2), .ref on])), (on, ia G (3 * cap) (tab d0 d1 d2))] (fun vv ww => vv = none ∧ ww = [(tb, .inr (4, [.int (nI m2), .ref nu])), (nu, ia G (3 * cap) (tab d0 d1 d2)), (o, .inr (4, [.int (nI m2), .ref on])), (on, ia G (3 * cap) (tab d0 d1 d2))]) := by
  refine CT.of (lv := [(0, .ref tb), (1, .ref o)]) RX4 "copyOf" rfl rfl (by decide +kernel) (Nat.le_of_ble_eq_true rfl) rfl (fun X hX hR => ?_)
  refine j_aload_n (pc := 0) hX dX4_copyOf_0 1 rfl ?_
  refine j_get (pc := 1) hX f_RX4_19 2 rfl rfl dX4_copyOf_1 ?_
  refine j_aload_n (pc := 4) hX dX4_copyOf_4 0 rfl ?_
  refine j_get (pc := 5) hX f_RX4_19 0 rfl rfl dX4_copyOf_5 ?_
  refine j_callSN (pc := 8) hX kX8_copy kSX8_copy l_RX4_40 (fun l => c_X8_copy G on nu (3 * cap) (tab d0 d1 d2) (tab c0 c1 c2) (by omega) l) [3, 1] [0, 2] [] rfl rfl rfl rfl ⟨rfl, rfl, by decide⟩ rfl rfl (Nat.le_of_ble_eq_true rfl) dX4_copyOf_8 (fun v w hq => ?_)
  obtain ⟨rfl, rfl⟩ := hq
  refine j_ws [0, 3, 1, 2] (ws' := [(tb, .inr (4, [.int (nI m), .ref nu])), (nu, ia G (3 * cap) (tab d0 d1 d2)), (o, .inr (4, [.int (nI m2), .ref on])), (on, ia G (3 * cap) (tab d0 d1 d2))]) rfl rfl ?_
  refine j_aload_n (pc := 11) hX dX4_copyOf_11 0 rfl ?_
  refine j_aload_n (pc := 12) hX dX4_copyOf_12 1 rfl ?_
  refine j_get (pc := 13) hX f_RX4_7 2 rfl rfl dX4_copyOf_13 ?_
  refine j_put (pc := 16) (ws' := [(tb, .inr (4, [.int (nI m2), .ref nu])), (nu, ia G (3 * cap) (tab d0 d1 d2)), (o, .inr (4, [.int (nI m2), .ref on])), (on, ia G (3 * cap) (tab d0 d1 d2))]) hX f_RX4_7 0 rfl rfl rfl (Nat.le_of_ble_eq_true rfl) rfl dX4_copyOf_16 ?_
  exact j_vret (pc := 19) hX hR dX4_copyOf_19 ⟨rfl, rfl⟩
set_option maxHeartbeats 4000000 in
set_option maxRecDepth 100000 in
theorem c_X5_isFull (G : GT) (tx le cap m : Nat) (s : Nat → Int32) (hcap : cap ≤ 300) (hm : m ≤ cap) (l : Launch) : CT l G yX5_isFull cX5_isFull 1 (some .boolean) { frames := 0, cells := 0, slots := 0, locals := 0 } [.ref tx] [(tx, .inr (5, [.int (nI m), .ref le])), (le, ia G cap s)] (fun vv ww => vv = some (.int (bI (decide (cap ≤ m)))) ∧ ww = [(tx, .inr (5, [.int (nI m), .ref le])), (le, ia G cap s)]) := by
  refine CT.of (lv := [(0, .ref tx)]) RX5 "isFull" rfl rfl (by decide +kernel) (Nat.le_of_ble_eq_true rfl) rfl (fun X hX hR => ?_)
  refine j_aload_n (pc := 0) hX dX5_isFull_0 0 rfl ?_
  refine j_get (pc := 1) hX f_RX5_9 0 rfl rfl dX5_isFull_1 ?_
  refine j_aload_n (pc := 4) hX dX5_isFull_4 0 rfl ?_
  refine j_get (pc := 5) hX f_RX5_21 0 rfl rfl dX5_isFull_5 ?_
  refine j_len_i (pc := 8) hX 1 rfl dX5_isFull_8 ?_
  refine j_icmp_lt (pc := 9) (tgt := 16) hX dX5_isFull_9 (by decide) (nI_toInt (n := m) (by omega)) (nI_toInt (n := cap) (by omega)) (fun c9 => ?_) (fun c9 => ?_)
  · skip
    refine j_iconstN (pc := 16) (j := 0) hX dX5_isFull_16 rfl ?_
    exact j_zret (pc := 17) hX hR (by decide) dX5_isFull_17 ⟨congrArg some (show Value.int (nI 0) = Value.int (bI (decide (cap ≤ m))) from by first | exact bI_t (by omega) | exact bI_f (by omega)), rfl⟩
  · skip
    refine j_iconstN (pc := 12) (j := 1) hX dX5_isFull_12 rfl ?_
    refine j_goto (pc := 13) (tgt := 17) hX dX5_isFull_13 (by decide) ?_
    exact j_zret (pc := 17) hX hR (by decide) dX5_isFull_17 ⟨congrArg some (show Value.int (nI 1) = Value.int (bI (decide (cap ≤ m))) from by first | exact bI_t (by omega) | exact bI_f (by omega)), rfl⟩
set_option maxHeartbeats 4000000 in
set_option maxRecDepth 100000 in
theorem c_X5_add (G : GT) (tx le cap m : Nat) (s : Nat → Int32) (x : Int32) (hcap : cap ≤ 300) (hm : m < cap) (l : Launch) : CT l G yX5_add cX5_add 2 none { frames := 1, cells := 0, slots := 0, locals := 22 } [.ref tx, .int x] [(tx, .inr (5, [.int (nI m), .ref le])), (le, ia G cap s)] (fun vv ww => vv = none ∧ ww = [(tx, .inr (5, [.int (nI (m + 1)), .ref le])), (le, ia G cap (upd s m x))]) := by
  refine CT.of (lv := [(0, .ref tx), (1, .int x)]) RX5 "add" rfl rfl (by decide +kernel) (Nat.le_of_ble_eq_true rfl) rfl (fun X hX hR => ?_)
  refine j_aload_n (pc := 0) hX dX5_add_0 0 rfl ?_
  refine j_callV (pc := 1) hX kX5_isFull kVX5_isFull l_RX5_25 (fun l => c_X5_isFull G tx le cap m s (by omega) (by omega) l) [0, 1] [] [] rfl 0 5 rfl rfl rfl rfl rfl rfl ⟨rfl, rfl, by decide⟩ rfl rfl (Nat.le_of_ble_eq_true rfl) dX5_add_1 (fun v w hq => ?_)
  obtain ⟨rfl, rfl⟩ := hq
  refine j_ws [0, 1] (ws' := [(tx, .inr (5, [.int (nI m), .ref le])), (le, ia G cap s)]) rfl rfl ?_
  refine j_ifB_eq (pc := 4) (tgt := 8) hX dX5_add_4 (by decide) (fun c4 => ?_) (fun c4 => by have := of_decide_eq_true c4; omega)
  refine j_aload_n (pc := 8) hX dX5_add_8 0 rfl ?_
  refine j_get (pc := 9) hX f_RX5_21 0 rfl rfl dX5_add_9 ?_
  refine j_aload_n (pc := 12) hX dX5_add_12 0 rfl ?_
  refine j_get (pc := 13) hX f_RX5_9 0 rfl rfl dX5_add_13 ?_
  refine j_iload_n (pc := 16) hX dX5_add_16 1 rfl ?_
  refine j_callSN (pc := 17) hX kX8_put kSX8_put l_RX5_29 (fun l => c_X8_put G le cap s m x (by omega) (by omega) l) [1] [0] [] rfl rfl rfl rfl ⟨rfl, rfl, by decide⟩ rfl rfl (Nat.le_of_ble_eq_true rfl) dX5_add_17 (fun v w hq => ?_)
  obtain ⟨rfl, rfl⟩ := hq
  refine j_ws [0, 1] (ws' := [(tx, .inr (5, [.int (nI m), .ref le])), (le, ia G cap (upd s m x))]) rfl rfl ?_
  refine j_aload_n (pc := 20) hX dX5_add_20 0 rfl ?_
  refine j_dup (pc := 21) hX dX5_add_21 rfl ?_
  refine j_get (pc := 22) hX f_RX5_9 0 rfl rfl dX5_add_22 ?_
  refine j_iconstN (pc := 25) (j := 1) hX dX5_add_25 rfl ?_
  refine j_iadd (pc := 26) hX dX5_add_26 ?_
  refine j_topi (y := nI (m + 1)) (nI_add _ _) ?_
  refine j_put (pc := 27) (ws' := [(tx, .inr (5, [.int (nI (m + 1)), .ref le])), (le, ia G cap (upd s m x))]) hX f_RX5_9 0 rfl rfl rfl (Nat.le_of_ble_eq_true rfl) rfl dX5_add_27 ?_
  exact j_vret (pc := 30) hX hR dX5_add_30 ⟨rfl, rfl⟩
set_option maxHeartbeats 4000000 in
set_option maxRecDepth 100000 in
theorem c_X5_byteAt (G : GT) (tx le cap m : Nat) (s : Nat → Int32) (i : Nat) (hcap : cap ≤ 300) (hi : i < cap) (l : Launch) : CT l G yX5_byteAt cX5_byteAt 2 (some .int) { frames := 1, cells := 0, slots := 0, locals := 21 } [.ref tx, .int (nI i)] [(tx, .inr (5, [.int (nI m), .ref le])), (le, ia G cap s)] (fun vv ww => vv = some (.int (s i)) ∧ ww = [(tx, .inr (5, [.int (nI m), .ref le])), (le, ia G cap s)]) := by
  refine CT.of (lv := [(0, .ref tx), (1, .int (nI i))]) RX5 "byteAt" rfl rfl (by decide +kernel) (Nat.le_of_ble_eq_true rfl) rfl (fun X hX hR => ?_)
  refine j_aload_n (pc := 0) hX dX5_byteAt_0 0 rfl ?_
  refine j_get (pc := 1) hX f_RX5_21 0 rfl rfl dX5_byteAt_1 ?_
  refine j_iload_n (pc := 4) hX dX5_byteAt_4 1 rfl ?_
  refine j_callSN (pc := 5) hX kX8_at kSX8_at l_RX5_33 (fun l => c_X8_at G le cap s i (by omega) (by omega) l) [1] [0] [] rfl rfl rfl rfl ⟨rfl, rfl, by decide⟩ rfl rfl (Nat.le_of_ble_eq_true rfl) dX5_byteAt_5 (fun v w hq => ?_)
  obtain ⟨rfl, rfl⟩ := hq
  refine j_ws [0, 1] (ws' := [(tx, .inr (5, [.int (nI m), .ref le])), (le, ia G cap s)]) rfl rfl ?_
  exact j_iret (pc := 8) hX hR dX5_byteAt_8 ⟨rfl, rfl⟩
set_option maxHeartbeats 4000000 in
set_option maxRecDepth 100000 in
theorem c_X5_empty (G : GT) (tx le cap m : Nat) (s : Nat → Int32)  (l : Launch) : CT l G yX5_empty cX5_empty 1 none { frames := 0, cells := 0, slots := 0, locals := 0 } [.ref tx] [(tx, .inr (5, [.int (nI m), .ref le])), (le, ia G cap s)] (fun vv ww => vv = none ∧ ww = [(tx, .inr (5, [.int (nI 0), .ref le])), (le, ia G cap s)]) := by
  refine CT.of (lv := [(0, .ref tx)]) RX5 "empty" rfl rfl (by decide +kernel) (Nat.le_of_ble_eq_true rfl) rfl (fun X hX hR => ?_)
  refine j_aload_n (pc := 0) hX dX5_empty_0 0 rfl ?_
  refine j_iconstN (pc := 1) (j := 0) hX dX5_empty_1 rfl ?_
  refine j_put (pc := 2) (ws' := [(tx, .inr (5, [.int (nI 0), .ref le])), (le, ia G cap s)]) hX f_RX5_9 0 rfl rfl rfl (Nat.le_of_ble_eq_true rfl) rfl dX5_empty_2 ?_
  exact j_vret (pc := 5) hX hR dX5_empty_5 ⟨rfl, rfl⟩
set_option maxHeartbeats 4000000 in
set_option maxRecDepth 100000 in
theorem c_X2_isNothing (G : GT) (rw lo : Nat) (m : Int32) (it : Nat → Int64)  (l : Launch) : CT l G yX2_isNothing cX2_isNothing 1 (some .boolean) { frames := 0, cells := 0, slots := 0, locals := 0 } [.ref rw] [(rw, .inr (2, [.int m, .ref lo])), (lo, la G 20 it)] (fun vv ww => vv = some (.int (bI (decide (m.toInt < 0)))) ∧ ww = [(rw, .inr (2, [.int m, .ref lo])), (lo, la G 20 it)]) := by
  refine CT.of (lv := [(0, .ref rw)]) RX2 "isNothing" rfl rfl (by decide +kernel) (Nat.le_of_ble_eq_true rfl) rfl (fun X hX hR => ?_)
  refine j_aload_n (pc := 0) hX dX2_isNothing_0 0 rfl ?_
  refine j_get (pc := 1) hX f_RX2_9 0 rfl rfl dX2_isNothing_1 ?_
  refine j_if_ge (pc := 4) (tgt := 11) hX dX2_isNothing_4 (by decide) rfl (fun c4 => ?_) (fun c4 => ?_)
  · skip
    refine j_iconstN (pc := 11) (j := 0) hX dX2_isNothing_11 rfl ?_
    exact j_zret (pc := 12) hX hR (by decide) dX2_isNothing_12 ⟨congrArg some (show Value.int (nI 0) = Value.int (bI (decide (m.toInt < 0))) from by first | exact bI_t (by omega) | exact bI_f (by omega)), rfl⟩
  · skip
    refine j_iconstN (pc := 7) (j := 1) hX dX2_isNothing_7 rfl ?_
    refine j_goto (pc := 8) (tgt := 12) hX dX2_isNothing_8 (by decide) ?_
    exact j_zret (pc := 12) hX hR (by decide) dX2_isNothing_12 ⟨congrArg some (show Value.int (nI 1) = Value.int (bI (decide (m.toInt < 0))) from by first | exact bI_t (by omega) | exact bI_f (by omega)), rfl⟩
set_option maxHeartbeats 4000000 in
set_option maxRecDepth 100000 in
theorem c_X2_has (G : GT) (rw lo : Nat) (m : Int32) (it : Nat → Int64) (i : Int32) (hm : -1 ≤ m.toInt ∧ m.toInt ≤ 20) (l : Launch) : CT l G yX2_has cX2_has 2 (some .boolean) { frames := 0, cells := 0, slots := 0, locals := 0 } [.ref rw, .int i] [(rw, .inr (2, [.int m, .ref lo])), (lo, la G 20 it)] (fun vv ww => vv = some (.int (bI (decide (0 ≤ i.toInt ∧ i.toInt < m.toInt)))) ∧ ww = [(rw, .inr (2, [.int m, .ref lo])), (lo, la G 20 it)]) := by
  refine CT.of (lv := [(0, .ref rw), (1, .int i)]) RX2 "has" rfl rfl (by decide +kernel) (Nat.le_of_ble_eq_true rfl) rfl (fun X hX hR => ?_)
  refine j_iload_n (pc := 0) hX dX2_has_0 1 rfl ?_
  refine j_if_lt (pc := 1) (tgt := 25) hX dX2_has_1 (by decide) rfl (fun c1 => ?_) (fun c1 => ?_)
  · skip
    refine j_iconstN (pc := 25) (j := 0) hX dX2_has_25 rfl ?_
    exact j_zret (pc := 26) hX hR (by decide) dX2_has_26 ⟨congrArg some (show Value.int (nI 0) = Value.int (bI (decide (0 ≤ i.toInt ∧ i.toInt < m.toInt))) from by first | exact bI_t (by omega) | exact bI_f (by omega)), rfl⟩
  · skip
    refine j_iload_n (pc := 4) hX dX2_has_4 1 rfl ?_
    refine j_aload_n (pc := 5) hX dX2_has_5 0 rfl ?_
    refine j_get (pc := 6) hX f_RX2_9 0 rfl rfl dX2_has_6 ?_
    refine j_icmp_ge (pc := 9) (tgt := 25) hX dX2_has_9 (by decide) rfl rfl (fun c9 => ?_) (fun c9 => ?_)
    · skip
      refine j_iconstN (pc := 25) (j := 0) hX dX2_has_25 rfl ?_
      exact j_zret (pc := 26) hX hR (by decide) dX2_has_26 ⟨congrArg some (show Value.int (nI 0) = Value.int (bI (decide (0 ≤ i.toInt ∧ i.toInt < m.toInt))) from by first | exact bI_t (by omega) | exact bI_f (by omega)), rfl⟩
    · skip
      refine j_iload_n (pc := 12) hX dX2_has_12 1 rfl ?_
      refine j_aload_n (pc := 13) hX dX2_has_13 0 rfl ?_
      refine j_get (pc := 14) hX f_RX2_15 0 rfl rfl dX2_has_14 ?_
      refine j_len_l (pc := 17) hX 1 rfl dX2_has_17 ?_
      refine j_icmp_ge (pc := 18) (tgt := 25) hX dX2_has_18 (by decide) rfl (nI_toInt (n := 20) (by decide)) (fun c18 => by exfalso; omega) (fun c18 => ?_)
      refine j_iconstN (pc := 21) (j := 1) hX dX2_has_21 rfl ?_
      refine j_goto (pc := 22) (tgt := 26) hX dX2_has_22 (by decide) ?_
      exact j_zret (pc := 26) hX hR (by decide) dX2_has_26 ⟨congrArg some (show Value.int (nI 1) = Value.int (bI (decide (0 ≤ i.toInt ∧ i.toInt < m.toInt))) from by first | exact bI_t (by omega) | exact bI_f (by omega)), rfl⟩
set_option maxHeartbeats 4000000 in
set_option maxRecDepth 100000 in
theorem c_X2_longAt (G : GT) (rw lo : Nat) (m : Int32) (it : Nat → Int64) (i : Nat) (hm : -1 ≤ m.toInt ∧ m.toInt ≤ 20) (hi : (i : Int) < m.toInt) (l : Launch) : CT l G yX2_longAt cX2_longAt 2 (some .long) { frames := 1, cells := 0, slots := 0, locals := 21 } [.ref rw, .int (nI i)] [(rw, .inr (2, [.int m, .ref lo])), (lo, la G 20 it)] (fun vv ww => vv = some (.long (it i)) ∧ ww = [(rw, .inr (2, [.int m, .ref lo])), (lo, la G 20 it)]) := by
  refine CT.of (lv := [(0, .ref rw), (1, .int (nI i))]) RX2 "longAt" rfl rfl (by decide +kernel) (Nat.le_of_ble_eq_true rfl) rfl (fun X hX hR => ?_)
  refine j_aload_n (pc := 0) hX dX2_longAt_0 0 rfl ?_
  refine j_iload_n (pc := 1) hX dX2_longAt_1 1 rfl ?_
  refine j_callV (pc := 2) hX kX2_has kVX2_has l_RX2_19 (fun l => c_X2_has G rw lo m it (nI i) (by first | omega | (rw [nI_toInt (by omega)]; omega)) l) [0, 1] [] [] rfl 0 2 rfl rfl rfl rfl rfl rfl ⟨rfl, rfl, by decide⟩ rfl rfl (Nat.le_of_ble_eq_true rfl) dX2_longAt_2 (fun v w hq => ?_)
  obtain ⟨rfl, rfl⟩ := hq
  refine j_ws [0, 1] (ws' := [(rw, .inr (2, [.int m, .ref lo])), (lo, la G 20 it)]) rfl rfl ?_
  refine j_ifB_eq (pc := 5) (tgt := 17) hX dX2_longAt_5 (by decide) (fun c5 => by have c5 := of_decide_eq_false c5; rw [nI_toInt (by omega)] at c5; omega) (fun c5 => ?_)
  refine j_aload_n (pc := 8) hX dX2_longAt_8 0 rfl ?_
  refine j_get (pc := 9) hX f_RX2_15 0 rfl rfl dX2_longAt_9 ?_
  refine j_iload_n (pc := 12) hX dX2_longAt_12 1 rfl ?_
  refine j_lald (pc := 13) (j := i) hX 1 rfl (by omega) (by omega) dX2_longAt_13 ?_
  refine j_goto (pc := 14) (tgt := 18) hX dX2_longAt_14 (by decide) ?_
  exact j_lret (pc := 18) hX hR dX2_longAt_18 ⟨rfl, rfl⟩
set_option maxHeartbeats 4000000 in
set_option maxRecDepth 100000 in
theorem c_X2_write (G : GT) (rw lo : Nat) (m : Int32) (it : Nat → Int64) (i : Nat) (v : Int64) (hm : -1 ≤ m.toInt ∧ m.toInt ≤ 20) (hi : (i : Int) < m.toInt) (l : Launch) : CT l G yX2_write cX2_write 4 none { frames := 1, cells := 0, slots := 0, locals := 21 } [.ref rw, .int (nI i), .long v] [(rw, .inr (2, [.int m, .ref lo])), (lo, la G 20 it)] (fun vv ww => vv = none ∧ ww = [(rw, .inr (2, [.int m, .ref lo])), (lo, la G 20 (vp_updL it i v))]) := by
  refine CT.of (lv := [(0, .ref rw), (1, .int (nI i)), (2, .long v)]) RX2 "write" rfl rfl (by decide +kernel) (Nat.le_of_ble_eq_true rfl) rfl (fun X hX hR => ?_)
  refine j_aload_n (pc := 0) hX dX2_write_0 0 rfl ?_
  refine j_iload_n (pc := 1) hX dX2_write_1 1 rfl ?_
  refine j_callV (pc := 2) hX kX2_has kVX2_has l_RX2_19 (fun l => c_X2_has G rw lo m it (nI i) (by first | omega | (rw [nI_toInt (by omega)]; omega)) l) [0, 1] [] [] rfl 0 2 rfl rfl rfl rfl rfl rfl ⟨rfl, rfl, by decide⟩ rfl rfl (Nat.le_of_ble_eq_true rfl) dX2_write_2 (fun v w hq => ?_)
  obtain ⟨rfl, rfl⟩ := hq
  refine j_ws [0, 1] (ws' := [(rw, .inr (2, [.int m, .ref lo])), (lo, la G 20 it)]) rfl rfl ?_
  refine j_ifB_eq (pc := 5) (tgt := 15) hX dX2_write_5 (by decide) (fun c5 => by have c5 := of_decide_eq_false c5; rw [nI_toInt (by omega)] at c5; omega) (fun c5 => ?_)
  refine j_aload_n (pc := 8) hX dX2_write_8 0 rfl ?_
  refine j_get (pc := 9) hX f_RX2_15 0 rfl rfl dX2_write_9 ?_
  refine j_iload_n (pc := 12) hX dX2_write_12 1 rfl ?_
  refine j_lload_n (pc := 13) hX dX2_write_13 2 rfl ?_
  refine j_last (pc := 14) (j := i) (ws' := [(rw, .inr (2, [.int m, .ref lo])), (lo, la G 20 (vp_updL it i v))]) hX 1 rfl (by omega) (by omega) rfl dX2_write_14 ?_
  exact j_vret (pc := 15) hX hR dX2_write_15 ⟨rfl, rfl⟩
set_option maxHeartbeats 4000000 in
set_option maxRecDepth 100000 in
theorem c_X2_becomeZeros (G : GT) (rw lo : Nat) (m : Int32) (it : Nat → Int64) (n : Nat)  (l : Launch) : CT l G yX2_becomeZeros cX2_becomeZeros 3 none { frames := 0, cells := 0, slots := 0, locals := 0 } [.ref rw, .int (nI n)] [(rw, .inr (2, [.int m, .ref lo])), (lo, la G 20 it)] (fun vv ww => vv = none ∧ ww = [(rw, .inr (2, [.int (nI n), .ref lo])), (lo, la G 20 (fun _ => 0))]) := by
  refine CT.of (lv := [(0, .ref rw), (1, .int (nI n))]) RX2 "becomeZeros" rfl rfl (by decide +kernel) (Nat.le_of_ble_eq_true rfl) rfl (fun X hX hR => ?_)
  refine j_iconstN (pc := 0) (j := 0) hX dX2_becomeZeros_0 rfl ?_
  refine j_istore_n (pc := 1) (lv' := [(2, .int (nI 0)), (0, .ref rw), (1, .int (nI n))]) hX dX2_becomeZeros_1 (by decide) rfl ?_
  have L2 : ∀ (m2 : Nat) (k : Nat) (it2 : Nat → Int64) (hk : k ≤ 20) (hg : ∀ z, z < k → it2 z = 0), 20 - k < m2 → J X G 3 0 0 [(rw, .inr (2, [.int m, .ref lo])), (lo, la G 20 it2)] [(0, .ref rw), (1, .int (nI n)), (2, .int (nI k))] 2 [] := by
    intro m2
    induction m2 with
    | zero => intro k it2 hk hg hm2; exact absurd hm2 (Nat.not_lt_zero _)
    | succ m2 ih2 =>
      intro k it2 hk hg hm2
      refine j_iload_n (pc := 2) hX dX2_becomeZeros_2 2 rfl ?_
      refine j_aload_n (pc := 3) hX dX2_becomeZeros_3 0 rfl ?_
      refine j_get (pc := 4) hX f_RX2_15 0 rfl rfl dX2_becomeZeros_4 ?_
      refine j_len_l (pc := 7) hX 1 rfl dX2_becomeZeros_7 ?_
      refine j_icmp_ge (pc := 8) (tgt := 24) hX dX2_becomeZeros_8 (by decide) (nI_toInt (n := k) (by omega)) (nI_toInt (n := 20) (by decide)) (fun c8 => ?_) (fun c8 => ?_)
      · skip
        refine j_aload_n (pc := 24) hX dX2_becomeZeros_24 0 rfl ?_
        refine j_iload_n (pc := 25) hX dX2_becomeZeros_25 1 rfl ?_
        refine j_put (pc := 26) (ws' := [(rw, .inr (2, [.int (nI n), .ref lo])), (lo, la G 20 it2)]) hX f_RX2_9 0 rfl rfl rfl (Nat.le_of_ble_eq_true rfl) rfl dX2_becomeZeros_26 ?_
        refine j_la (q0 := 1) (f := it2) (g := fun _ => 0) rfl (fun z hz => by exact hg z (by omega)) (ws' := [(rw, .inr (2, [.int (nI n), .ref lo])), (lo, la G 20 (fun _ => 0))]) rfl ?_
        exact j_vret (pc := 29) hX hR dX2_becomeZeros_29 ⟨rfl, rfl⟩
      · skip
        refine j_aload_n (pc := 11) hX dX2_becomeZeros_11 0 rfl ?_
        refine j_get (pc := 12) hX f_RX2_15 0 rfl rfl dX2_becomeZeros_12 ?_
        refine j_iload_n (pc := 15) hX dX2_becomeZeros_15 2 rfl ?_
        refine j_lconst (pc := 16) (v := 0) hX dX2_becomeZeros_16 (by decide) ?_
        refine j_last (pc := 17) (j := k) (ws' := [(rw, .inr (2, [.int m, .ref lo])), (lo, la G 20 (vp_updL it2 k 0))]) hX 1 rfl (by omega) (by omega) rfl dX2_becomeZeros_17 ?_
        refine j_iinc (pc := 18) (q := 2) (v := nI (k + 1)) (lv' := [(2, .int (nI (k + 1))), (0, .ref rw), (1, .int (nI n))]) hX dX2_becomeZeros_18 rfl (nI_inc _ 1) (by decide) rfl ?_
        refine j_goto (pc := 21) (tgt := 2) hX dX2_becomeZeros_21 (by decide) ?_
        refine j_lv [1, 2, 0] (lv' := [(0, .ref rw), (1, .int (nI n)), (2, .int (nI (k + 1)))]) rfl ?_
        exact ih2 (k + 1) (vp_updL it2 k 0) (by omega) (fun z hz => by unfold vp_updL; split; rfl; exact hg z (by omega)) (by omega)
  refine j_lv [1, 2, 0] (lv' := [(0, .ref rw), (1, .int (nI n)), (2, .int (nI 0))]) rfl ?_
  exact L2 ((20 - 0) + 1) 0 it (by omega) (fun z hz => absurd hz (Nat.not_lt_zero _)) (Nat.lt_succ_self _)
