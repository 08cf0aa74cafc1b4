set_option maxHeartbeats 4000000 in
set_option maxRecDepth 100000 in
theorem c_X9_isShifted (G : GT) (md : Nat) (W : Nat) (H : Nat) (t : Int32) (m : Nat) (k : Nat) (zc : Nat) (zr : Nat) (zb : Nat) (z1 : Nat) (z2 : Nat) (z3 : Nat) (z4 : Nat) (z5 : Nat) (zm : Nat) (zmr : Nat) (zmb : Nat) (mt : Int32) (zca : Nat) (zcw : Nat) (c : Nat) (zg : Nat) (zt : Nat) (zs : Nat) (zf : Nat) (zy : Nat) (zso : Nat) (zsf : Nat) (zsm : Nat) (nt : Int32) (nsh : Int32) (ztp : Nat) (zrw : Nat) (zpp : Nat) (tn : Nat) (pn : Nat) (rdw : Int32) (rdh : Int32) (zsz : Nat) (zit : Nat) (zk : Nat) (itk : Bool) (f : Nat → Int32) (mf : Nat → Int32) (dx dy : Nat) (hW1 : 2 ≤ W) (hW2 : W ≤ 16) (hH1 : 2 ≤ H) (hH2 : H ≤ 16) (hW3 : W % 2 = 0) (hH3 : H % 2 = 0) (hf : ∀ y, rN (f y) < 2 ^ W) (hmf : ∀ y, rN (mf y) < 2 ^ W) (hdx : dx < W) (hdy : dy < H) (l : Launch) : CT l G yX9_isShifted cX9_isShifted 6 (some .boolean) { frames := 0, cells := 0, slots := 0, locals := 0 } [.ref md, .int (nI dx), .int (nI dy)] [(md, .inr (9, [.int (nI W), .int (nI H), .int t, .int (nI m), .int (nI k), .ref zc, .ref zr, .ref zb, .ref z1, .ref z2, .ref z3, .ref z4, .ref z5, .ref zm, .ref zmr, .ref zmb, .int mt, .ref zca, .ref zcw, .int (nI c), .ref zg, .ref zt, .ref zs, .ref zf, .ref zy, .ref zso, .ref zsf, .ref zsm, .int nt, .int nsh, .ref ztp, .ref zrw, .ref zpp, .int (nI tn), .int (nI pn), .int rdw, .int rdh, .ref zsz, .ref zit, .ref zk, .int (bI itk)])), (zc, ia G 16 f), (zm, ia G 16 mf)] (fun vv ww => vv = some (.int (bI (shB W H mf f dx dy))) ∧ ww = [(md, .inr (9, [.int (nI W), .int (nI H), .int t, .int (nI m), .int (nI k), .ref zc, .ref zr, .ref zb, .ref z1, .ref z2, .ref z3, .ref z4, .ref z5, .ref zm, .ref zmr, .ref zmb, .int mt, .ref zca, .ref zcw, .int (nI c), .ref zg, .ref zt, .ref zs, .ref zf, .ref zy, .ref zso, .ref zsf, .ref zsm, .int nt, .int nsh, .ref ztp, .ref zrw, .ref zpp, .int (nI tn), .int (nI pn), .int rdw, .int rdh, .ref zsz, .ref zit, .ref zk, .int (bI itk)])), (zc, ia G 16 f), (zm, ia G 16 mf)]) := by
  refine CT.of (lv := [(0, .ref md), (1, .int (nI dx)), (2, .int (nI dy))]) RX9 "isShifted" rfl rfl (by decide +kernel) (Nat.le_of_ble_eq_true rfl) rfl (fun X hX hR => ?_)
  refine j_iconstN (pc := 0) (j := 0) hX dX9_isShifted_0 rfl ?_
  refine j_istore_n (pc := 1) (lv' := [(3, .int (nI 0)), (0, .ref md), (1, .int (nI dx)), (2, .int (nI dy))]) hX dX9_isShifted_1 (by decide) rfl ?_
  have L2 : ∀ (m2 : Nat) (y : Nat) (hy : y ≤ H) (hall : ∀ z, z < y → mf (wr (z + dy) H) = rot W dx (f z)), H - y < m2 → J X G 6 0 0 [(md, .inr (9, [.int (nI W), .int (nI H), .int t, .int (nI m), .int (nI k), .ref zc, .ref zr, .ref zb, .ref z1, .ref z2, .ref z3, .ref z4, .ref z5, .ref zm, .ref zmr, .ref zmb, .int mt, .ref zca, .ref zcw, .int (nI c), .ref zg, .ref zt, .ref zs, .ref zf, .ref zy, .ref zso, .ref zsf, .ref zsm, .int nt, .int nsh, .ref ztp, .ref zrw, .ref zpp, .int (nI tn), .int (nI pn), .int rdw, .int rdh, .ref zsz, .ref zit, .ref zk, .int (bI itk)])), (zc, ia G 16 f), (zm, ia G 16 mf)] [(0, .ref md), (1, .int (nI dx)), (2, .int (nI dy)), (3, .int (nI y))] 2 [] := by
    intro m2
    induction m2 with
    | zero => intro y hy hall hm2; exact absurd hm2 (Nat.not_lt_zero _)
    | succ m2 ih2 =>
      intro y hy hall hm2
      refine j_iload_n (pc := 2) hX dX9_isShifted_2 3 rfl ?_
      refine j_aload_n (pc := 3) hX dX9_isShifted_3 0 rfl ?_
      refine j_get (pc := 4) hX f_RX9_15 0 rfl rfl dX9_isShifted_4 ?_
      refine j_icmp_ge (pc := 7) (tgt := 79) hX dX9_isShifted_7 (by decide) (nI_toInt (n := y) (by omega)) (nI_toInt (n := H) (by omega)) (fun c7 => ?_) (fun c7 => ?_)
      · skip
        refine j_iconstN (pc := 79) (j := 1) hX dX9_isShifted_79 rfl ?_
        exact j_zret (pc := 80) hX hR (by decide) dX9_isShifted_80 ⟨congrArg some (show Value.int (nI 1) = Value.int (bI (shB W H mf f dx dy)) from bI_tt (allB_t (fun z hz => decide_eq_true (hall z (by omega))))), rfl⟩
      · skip
        refine j_aload_n (pc := 10) hX dX9_isShifted_10 0 rfl ?_
        refine j_get (pc := 11) hX f_RX9_43 0 rfl rfl dX9_isShifted_11 ?_
        refine j_iload_n (pc := 14) hX dX9_isShifted_14 3 rfl ?_
        refine j_iload_n (pc := 15) hX dX9_isShifted_15 2 rfl ?_
        refine j_iadd (pc := 16) hX dX9_isShifted_16 ?_
        refine j_topi (y := nI (y + dy)) (nI_add _ _) ?_
        refine j_aload_n (pc := 17) hX dX9_isShifted_17 0 rfl ?_
        refine j_get (pc := 18) hX f_RX9_15 0 rfl rfl dX9_isShifted_18 ?_
        refine j_irem (pc := 21) hX dX9_isShifted_21 (nI_ne0 (by omega) (by omega)) ?_
        refine j_topi (y := nI (wr (y + dy) H)) (rem_wr (by omega) (by omega)) ?_
        have hwy := wr_lt (k := y + dy) (n := H) (by omega)
        refine j_ialdN (pc := 22) (j := wr (y + dy) H) hX 2 rfl (by omega) (by omega) dX9_isShifted_22 ?_
        refine j_istore (pc := 23) (lv' := [(4, .int (mf (wr (y + dy) H))), (0, .ref md), (1, .int (nI dx)), (2, .int (nI dy)), (3, .int (nI y))]) hX dX9_isShifted_23 (by decide) rfl ?_
        refine j_iconstN (pc := 25) (j := 0) hX dX9_isShifted_25 rfl ?_
        refine j_istore (pc := 26) (lv' := [(5, .int (nI 0)), (4, .int (mf (wr (y + dy) H))), (0, .ref md), (1, .int (nI dx)), (2, .int (nI dy)), (3, .int (nI y))]) hX dX9_isShifted_26 (by decide) rfl ?_
        have L28 : ∀ (m28 : Nat) (x : Nat) (hx : x ≤ W) (hin : ∀ z, z < x → bt (f y) z = bt (mf (wr (y + dy) H)) (wr (z + dx) W)), W - x < m28 → J X G 6 0 0 [(md, .inr (9, [.int (nI W), .int (nI H), .int t, .int (nI m), .int (nI k), .ref zc, .ref zr, .ref zb, .ref z1, .ref z2, .ref z3, .ref z4, .ref z5, .ref zm, .ref zmr, .ref zmb, .int mt, .ref zca, .ref zcw, .int (nI c), .ref zg, .ref zt, .ref zs, .ref zf, .ref zy, .ref zso, .ref zsf, .ref zsm, .int nt, .int nsh, .ref ztp, .ref zrw, .ref zpp, .int (nI tn), .int (nI pn), .int rdw, .int rdh, .ref zsz, .ref zit, .ref zk, .int (bI itk)])), (zc, ia G 16 f), (zm, ia G 16 mf)] [(0, .ref md), (1, .int (nI dx)), (2, .int (nI dy)), (3, .int (nI y)), (4, .int (mf (wr (y + dy) H))), (5, .int (nI x))] 28 [] := by
          intro m28
          induction m28 with
          | zero => intro x hx hin hm28; exact absurd hm28 (Nat.not_lt_zero _)
          | succ m28 ih28 =>
            intro x hx hin hm28
            refine j_iload (pc := 28) hX dX9_isShifted_28 5 rfl ?_
            refine j_aload_n (pc := 30) hX dX9_isShifted_30 0 rfl ?_
            refine j_get (pc := 31) hX f_RX9_9 0 rfl rfl dX9_isShifted_31 ?_
            refine j_icmp_ge (pc := 34) (tgt := 73) hX dX9_isShifted_34 (by decide) (nI_toInt (n := x) (by omega)) (nI_toInt (n := W) (by omega)) (fun c34 => ?_) (fun c34 => ?_)
            · skip
              refine j_iinc (pc := 73) (q := 3) (v := nI (y + 1)) (lv' := [(3, .int (nI (y + 1))), (0, .ref md), (1, .int (nI dx)), (2, .int (nI dy)), (4, .int (mf (wr (y + dy) H))), (5, .int (nI x))]) hX dX9_isShifted_73 rfl (nI_inc _ 1) (by decide) rfl ?_
              refine j_goto (pc := 76) (tgt := 2) hX dX9_isShifted_76 (by decide) ?_
              refine j_lv [1, 2, 3, 0] (lv' := [(0, .ref md), (1, .int (nI dx)), (2, .int (nI dy)), (3, .int (nI (y + 1)))]) rfl ?_
              exact ih2 (y + 1) (by omega) (lt_s hall ((rot_iff hW2 hdx (hmf _) (hf _)).mpr (fun z hz => hin z (by omega)))) (by omega)
            · skip
              refine j_aload_n (pc := 37) hX dX9_isShifted_37 0 rfl ?_
              refine j_get (pc := 38) hX f_RX9_18 0 rfl rfl dX9_isShifted_38 ?_
              refine j_iload_n (pc := 41) hX dX9_isShifted_41 3 rfl ?_
              refine j_ialdN (pc := 42) (j := y) hX 1 rfl (by omega) (by omega) dX9_isShifted_42 ?_
              refine j_iload (pc := 43) hX dX9_isShifted_43 5 rfl ?_
              refine j_ishr (pc := 45) hX dX9_isShifted_45 ?_
              refine j_iconstN (pc := 46) (j := 1) hX dX9_isShifted_46 rfl ?_
              refine j_iand (pc := 47) hX dX9_isShifted_47 ?_
              refine j_topi (y := bI (bt (f y) x)) (bt_raw _ (by omega)) ?_
              refine j_iload (pc := 48) hX dX9_isShifted_48 4 rfl ?_
              refine j_iload (pc := 50) hX dX9_isShifted_50 5 rfl ?_
              refine j_iload_n (pc := 52) hX dX9_isShifted_52 1 rfl ?_
              refine j_iadd (pc := 53) hX dX9_isShifted_53 ?_
              refine j_topi (y := nI (x + dx)) (nI_add _ _) ?_
              refine j_aload_n (pc := 54) hX dX9_isShifted_54 0 rfl ?_
              refine j_get (pc := 55) hX f_RX9_9 0 rfl rfl dX9_isShifted_55 ?_
              refine j_irem (pc := 58) hX dX9_isShifted_58 (nI_ne0 (by omega) (by omega)) ?_
              refine j_topi (y := nI (wr (x + dx) W)) (rem_wr (by omega) (by omega)) ?_
              have hwx := wr_lt (k := x + dx) (n := W) (by omega)
              refine j_ishr (pc := 59) hX dX9_isShifted_59 ?_
              refine j_iconstN (pc := 60) (j := 1) hX dX9_isShifted_60 rfl ?_
              refine j_iand (pc := 61) hX dX9_isShifted_61 ?_
              refine j_topi (y := bI (bt (mf (wr (y + dy) H)) (wr (x + dx) W))) (bt_raw _ (by omega)) ?_
              refine j_icmp_eq (pc := 62) (tgt := 67) hX dX9_isShifted_62 (by decide) (bI_toInt (bt (f y) x)) (bI_toInt (bt (mf (wr (y + dy) H)) (wr (x + dx) W))) (fun c62 => ?_) (fun c62 => ?_)
              · skip
                have c62 := bif_inj c62
                refine j_iinc (pc := 67) (q := 5) (v := nI (x + 1)) (lv' := [(5, .int (nI (x + 1))), (0, .ref md), (1, .int (nI dx)), (2, .int (nI dy)), (3, .int (nI y)), (4, .int (mf (wr (y + dy) H)))]) hX dX9_isShifted_67 rfl (nI_inc _ 1) (by decide) rfl ?_
                refine j_goto (pc := 70) (tgt := 28) hX dX9_isShifted_70 (by decide) ?_
                refine j_lv [1, 2, 3, 4, 5, 0] (lv' := [(0, .ref md), (1, .int (nI dx)), (2, .int (nI dy)), (3, .int (nI y)), (4, .int (mf (wr (y + dy) H))), (5, .int (nI (x + 1)))]) rfl ?_
                exact ih28 (x + 1) (by omega) (lt_s hin c62) (by omega)
              · skip
                have c62 : ¬ bt (f y) x = bt (mf (wr (y + dy) H)) (wr (x + dx) W) := fun q => c62 (by rw [q])
                refine j_iconstN (pc := 65) (j := 0) hX dX9_isShifted_65 rfl ?_
                exact j_zret (pc := 66) hX hR (by decide) dX9_isShifted_66 ⟨congrArg some (show Value.int (nI 0) = Value.int (bI (shB W H mf f dx dy)) from bI_ff (allB_f (z := y) (by omega) (decide_eq_false (fun h => c62 ((rot_iff hW2 hdx (hmf _) (hf _)).mp h x (by omega)))))), rfl⟩
        refine j_lv [2, 3, 4, 5, 1, 0] (lv' := [(0, .ref md), (1, .int (nI dx)), (2, .int (nI dy)), (3, .int (nI y)), (4, .int (mf (wr (y + dy) H))), (5, .int (nI 0))]) rfl ?_
        exact L28 ((W - 0) + 1) 0 (by omega) (fun z hz => absurd hz (Nat.not_lt_zero _)) (Nat.lt_succ_self _)
  refine j_lv [1, 2, 3, 0] (lv' := [(0, .ref md), (1, .int (nI dx)), (2, .int (nI dy)), (3, .int (nI 0))]) rfl ?_
  exact L2 ((H - 0) + 1) 0 (by omega) (fun z hz => absurd hz (Nat.not_lt_zero _)) (Nat.lt_succ_self _)
set_option maxHeartbeats 4000000 in
set_option maxRecDepth 100000 in
theorem c_X9_again (G : GT) (md : Nat) (W : Nat) (H : Nat) (t : Int32) (m : Nat) (k : Nat) (zc : Nat) (zr : Nat) (zb : Nat) (z1 : Nat) (z2 : Nat) (z3 : Nat) (z4 : Nat) (z5 : Nat) (zm : Nat) (zmr : Nat) (zmb : Nat) (mt : Int32) (zca : Nat) (zcw : Nat) (c : Nat) (zg : Nat) (zt : Nat) (zs : Nat) (zf : Nat) (zy : Nat) (zso : Nat) (zsf : Nat) (zsm : Nat) (nt : Int32) (nsh : Int32) (ztp : Nat) (zrw : Nat) (zpp : Nat) (tn : Nat) (pn : Nat) (rdw : Int32) (rdh : Int32) (zsz : Nat) (zit : Nat) (zk : Nat) (itk : Bool) (f : Nat → Int32) (p : Nat → Nat) (mf : Nat → Int32) (mrf : Nat → Int32) (mbf : Nat → Int32) (q : Nat → Nat) (hW1 : 2 ≤ W) (hW2 : W ≤ 16) (hH1 : 2 ≤ H) (hH2 : H ≤ 16) (hW3 : W % 2 = 0) (hH3 : H % 2 = 0) (hp : isP p q) (hf : ∀ y, rN (f y) < 2 ^ W) (l : Launch) : CT l G yX9_again cX9_again 2 (some .int) { frames := 4, cells := 0, slots := 0, locals := 95 } [.ref md] [(md, .inr (9, [.int (nI W), .int (nI H), .int t, .int (nI m), .int (nI k), .ref zc, .ref zr, .ref zb, .ref z1, .ref z2, .ref z3, .ref z4, .ref z5, .ref zm, .ref zmr, .ref zmb, .int mt, .ref zca, .ref zcw, .int (nI c), .ref zg, .ref zt, .ref zs, .ref zf, .ref zy, .ref zso, .ref zsf, .ref zsm, .int nt, .int nsh, .ref ztp, .ref zrw, .ref zpp, .int (nI tn), .int (nI pn), .int rdw, .int rdh, .ref zsz, .ref zit, .ref zk, .int (bI itk)])), (zc, ia G 16 f), (zr, ia G 16 (fun ι => nI (p ι))), (zm, ia G 16 mf), (zmr, ia G 16 mrf), (zmb, ia G 16 mbf)] (fun vv ww => ∃ (mt2 : Int32) (mf2 : Nat → Int32), vv = some (.int (optI (agS W H p t f))) ∧ ww = [(md, .inr (9, [.int (nI W), .int (nI H), .int t, .int (nI m), .int (nI k), .ref zc, .ref zr, .ref zb, .ref z1, .ref z2, .ref z3, .ref z4, .ref z5, .ref zm, .ref zmr, .ref zmb, .int mt2, .ref zca, .ref zcw, .int (nI c), .ref zg, .ref zt, .ref zs, .ref zf, .ref zy, .ref zso, .ref zsf, .ref zsm, .int nt, .int nsh, .ref ztp, .ref zrw, .ref zpp, .int (nI tn), .int (nI pn), .int rdw, .int rdh, .ref zsz, .ref zit, .ref zk, .int (bI itk)])), (zc, ia G 16 f), (zr, ia G 16 (fun ι => nI (p ι))), (zm, ia G 16 mf2), (zmr, ia G 16 (fun ι => nI (p ι))), (zmb, ia G 16 (fun ι => nI (q ι)))]) := by
  refine CT.of (lv := [(0, .ref md)]) RX9 "again" rfl rfl (by decide +kernel) (Nat.le_of_ble_eq_true rfl) rfl (fun X hX hR => ?_)
  refine j_aload_n (pc := 0) hX dX9_again_0 0 rfl ?_
  refine j_callV (pc := 1) hX kX9_minds kVX9_minds l_RX9_189 (fun l => c_X9_minds G md W H t m k zc zr zb z1 z2 z3 z4 z5 zm zmr zmb mt zca zcw c zg zt zs zf zy zso zsf zsm nt nsh ztp zrw zpp tn pn rdw rdh zsz zit zk itk f p mf mrf mbf q (by assumption) l) [0, 1, 2, 3, 4, 5] [] [] rfl 0 9 rfl rfl rfl rfl rfl rfl ⟨rfl, rfl, by decide⟩ rfl rfl (Nat.le_of_ble_eq_true rfl) dX9_again_1 (fun v w hq => ?_)
  obtain ⟨rfl, rfl⟩ := hq
  refine j_ws [0, 1, 2, 3, 4, 5] (ws' := [(md, .inr (9, [.int (nI W), .int (nI H), .int t, .int (nI m), .int (nI k), .ref zc, .ref zr, .ref zb, .ref z1, .ref z2, .ref z3, .ref z4, .ref z5, .ref zm, .ref zmr, .ref zmb, .int t, .ref zca, .ref zcw, .int (nI c), .ref zg, .ref zt, .ref zs, .ref zf, .ref zy, .ref zso, .ref zsf, .ref zsm, .int nt, .int nsh, .ref ztp, .ref zrw, .ref zpp, .int (nI tn), .int (nI pn), .int rdw, .int rdh, .ref zsz, .ref zit, .ref zk, .int (bI itk)])), (zc, ia G 16 f), (zr, ia G 16 (fun ι => nI (p ι))), (zm, ia G 16 f), (zmr, ia G 16 (fun ι => nI (p ι))), (zmb, ia G 16 (fun ι => nI (q ι)))]) rfl rfl ?_
  refine j_iconstN (pc := 4) (j := 2) hX dX9_again_4 rfl ?_
  refine j_istore_n (pc := 5) (lv' := [(1, .int (nI 2)), (0, .ref md)]) hX dX9_again_5 (by decide) rfl ?_
  have L6 : ∀ (m6 : Nat) (n cc : Nat) (t3 : Int32) (f3 : Nat → Int32) (hn : n = 2 + 2 * (64 - cc) ∧ cc ≤ 64) (ht3 : t3 = t + nI (n - 2)) (h3 : f3 = gF W H p t (n - 2) f) (hag : agS W H p t f = fst2 (fun n => ifS (sameAt W H p t f n) n) n cc), cc < m6 → J X G 2 0 0 [(md, .inr (9, [.int (nI W), .int (nI H), .int t, .int (nI m), .int (nI k), .ref zc, .ref zr, .ref zb, .ref z1, .ref z2, .ref z3, .ref z4, .ref z5, .ref zm, .ref zmr, .ref zmb, .int t3, .ref zca, .ref zcw, .int (nI c), .ref zg, .ref zt, .ref zs, .ref zf, .ref zy, .ref zso, .ref zsf, .ref zsm, .int nt, .int nsh, .ref ztp, .ref zrw, .ref zpp, .int (nI tn), .int (nI pn), .int rdw, .int rdh, .ref zsz, .ref zit, .ref zk, .int (bI itk)])), (zc, ia G 16 f), (zr, ia G 16 (fun ι => nI (p ι))), (zm, ia G 16 f3), (zmr, ia G 16 (fun ι => nI (p ι))), (zmb, ia G 16 (fun ι => nI (q ι)))] [(0, .ref md), (1, .int (nI n))] 6 [] := by
    intro m6
    induction m6 with
    | zero => intro n cc t3 f3 hn ht3 h3 hag hm6; exact absurd hm6 (Nat.not_lt_zero _)
    | succ m6 ih6 =>
      intro n cc t3 f3 hn ht3 h3 hag hm6
      refine j_iload_n (pc := 6) hX dX9_again_6 1 rfl ?_
      refine j_sipush (pc := 7) (v := nI 128) hX dX9_again_7 (by decide) ?_
      refine j_icmp_gt (pc := 10) (tgt := 35) hX dX9_again_10 (by decide) (nI_toInt (n := n) (by omega)) (nI_toInt (n := 128) (by decide)) (fun c10 => ?_) (fun c10 => ?_)
      · skip
        refine j_bipush (pc := 35) (v := (-5)) hX dX9_again_35 (by decide) ?_
        exact j_iret (pc := 37) hX hR dX9_again_37 ⟨t3, f3, congrArg some (show Value.int (-5) = Value.int (optI (agS W H p t f)) from by rw [hag, show cc = 0 from by omega]; rfl), rfl⟩
      · skip
        refine j_aload_n (pc := 13) hX dX9_again_13 0 rfl ?_
        refine j_iconstN (pc := 14) (j := 2) hX dX9_again_14 rfl ?_
        refine j_callV (pc := 15) hX kX9_goes kVX9_goes l_RX9_192 (fun l => c_X9_goes G md W H t m k zc zr zb z1 z2 z3 z4 z5 zm zmr zmb t3 zca zcw c zg zt zs zf zy zso zsf zsm nt nsh ztp zrw zpp tn pn rdw rdh zsz zit zk itk f3 p q (nI 2) (by omega) (by omega) (by omega) (by omega) (by omega) (by omega) (by first | omega | (rw [nI_toInt (by omega)]; omega)) l) [0, 3, 4, 5] [1, 2] [] rfl 0 9 rfl rfl rfl rfl rfl rfl ⟨rfl, rfl, by decide⟩ rfl rfl (Nat.le_of_ble_eq_true rfl) dX9_again_15 (fun v w hq => ?_)
        obtain ⟨rfl, rfl⟩ := hq
        refine j_ws [2, 0, 1, 3, 4, 5] (ws' := [(md, .inr (9, [.int (nI W), .int (nI H), .int t, .int (nI m), .int (nI k), .ref zc, .ref zr, .ref zb, .ref z1, .ref z2, .ref z3, .ref z4, .ref z5, .ref zm, .ref zmr, .ref zmb, .int (t3 + (nI 2)), .ref zca, .ref zcw, .int (nI c), .ref zg, .ref zt, .ref zs, .ref zf, .ref zy, .ref zso, .ref zsf, .ref zsm, .int nt, .int nsh, .ref ztp, .ref zrw, .ref zpp, .int (nI tn), .int (nI pn), .int rdw, .int rdh, .ref zsz, .ref zit, .ref zk, .int (bI itk)])), (zc, ia G 16 f), (zr, ia G 16 (fun ι => nI (p ι))), (zm, ia G 16 (goF W H p q t3 (nI 2) f3)), (zmr, ia G 16 (fun ι => nI (p ι))), (zmb, ia G 16 (fun ι => nI (q ι)))]) rfl rfl ?_
        have hgn : goF W H p q t3 (nI 2) f3 = gF W H p t n f := by rw [h3, ht3, goF_on (by omega), show n - 2 + 2 = n from by omega]
        refine j_aload_n (pc := 18) hX dX9_again_18 0 rfl ?_
        refine j_iconstN (pc := 19) (j := 0) hX dX9_again_19 rfl ?_
        refine j_iconstN (pc := 20) (j := 0) hX dX9_again_20 rfl ?_
        refine j_callV (pc := 21) hX kX9_isShifted kVX9_isShifted l_RX9_217 (fun l => c_X9_isShifted G md W H t m k zc zr zb z1 z2 z3 z4 z5 zm zmr zmb (t3 + (nI 2)) zca zcw c zg zt zs zf zy zso zsf zsm nt nsh ztp zrw zpp tn pn rdw rdh zsz zit zk itk f (goF W H p q t3 (nI 2) f3) 0 0 (by omega) (by omega) (by omega) (by omega) (by omega) (by omega) (by assumption) (by rw [hgn]; exact gF_lt hW2 hW3 hf _) (by omega) (by omega) l) [0, 1, 3] [2, 4, 5] [] rfl 0 9 rfl rfl rfl rfl rfl rfl ⟨rfl, rfl, by decide⟩ rfl rfl (Nat.le_of_ble_eq_true rfl) dX9_again_21 (fun v w hq => ?_)
        obtain ⟨rfl, rfl⟩ := hq
        refine j_ws [3, 4, 0, 5, 1, 2] (ws' := [(md, .inr (9, [.int (nI W), .int (nI H), .int t, .int (nI m), .int (nI k), .ref zc, .ref zr, .ref zb, .ref z1, .ref z2, .ref z3, .ref z4, .ref z5, .ref zm, .ref zmr, .ref zmb, .int (t3 + (nI 2)), .ref zca, .ref zcw, .int (nI c), .ref zg, .ref zt, .ref zs, .ref zf, .ref zy, .ref zso, .ref zsf, .ref zsm, .int nt, .int nsh, .ref ztp, .ref zrw, .ref zpp, .int (nI tn), .int (nI pn), .int rdw, .int rdh, .ref zsz, .ref zit, .ref zk, .int (bI itk)])), (zc, ia G 16 f), (zr, ia G 16 (fun ι => nI (p ι))), (zm, ia G 16 (goF W H p q t3 (nI 2) f3)), (zmr, ia G 16 (fun ι => nI (p ι))), (zmb, ia G 16 (fun ι => nI (q ι)))]) rfl rfl ?_
        refine j_ifB_eq (pc := 24) (tgt := 29) hX dX9_again_24 (by decide) (fun c24 => ?_) (fun c24 => ?_)
        · skip
          refine j_iinc (pc := 29) (q := 1) (v := nI (n + 2)) (lv' := [(1, .int (nI (n + 2))), (0, .ref md)]) hX dX9_again_29 rfl (nI_inc _ 2) (by decide) rfl ?_
          refine j_goto (pc := 32) (tgt := 6) hX dX9_again_32 (by decide) ?_
          refine j_lv [1, 0] (lv' := [(0, .ref md), (1, .int (nI (n + 2)))]) rfl ?_
          exact ih6 (n + 2) (cc - 1) (t3 + (nI 2)) (goF W H p q t3 (nI 2) f3) (by omega) (by rw [ht3, Int32.add_assoc, nI_add]; congr 2; omega) (by rw [hgn, show n + 2 - 2 = n from by omega]) (by rw [hag, fst2_n (P := fun n => ifS (sameAt W H p t f n) n) (by omega) (ifS_f (by rw [← c24, hgn]; rfl))]) (by omega)
        · skip
          refine j_iload_n (pc := 27) hX dX9_again_27 1 rfl ?_
          exact j_iret (pc := 28) hX hR dX9_again_28 ⟨(t3 + (nI 2)), (goF W H p q t3 (nI 2) f3), congrArg some (show Value.int (nI n) = Value.int (optI (agS W H p t f)) from by rw [hag, fst2_s (P := fun n => ifS (sameAt W H p t f n) n) (by omega) (ifS_t (by rw [← c24, hgn]; rfl))]; rfl), rfl⟩
  refine j_lv [1, 0] (lv' := [(0, .ref md), (1, .int (nI 2))]) rfl ?_
  exact L6 (64 + 1) 2 64 t f (by omega) (add0 t) (rfl) (rfl) (Nat.lt_succ_self _)
set_option maxHeartbeats 4000000 in
set_option maxRecDepth 100000 in
theorem c_X9_shift (G : GT) (md : Nat) (W : Nat) (H : Nat) (t : Int32) (m : Nat) (k : Nat) (zc : Nat) (zr : Nat) (zb : Nat) (z1 : Nat) (z2 : Nat) (z3 : Nat) (z4 : Nat) (z5 : Nat) (zm : Nat) (zmr : Nat) (zmb : Nat) (mt : Int32) (zca : Nat) (zcw : Nat) (c : Nat) (zg : Nat) (zt : Nat) (zs : Nat) (zf : Nat) (zy : Nat) (zso : Nat) (zsf : Nat) (zsm : Nat) (nt : Int32) (nsh : Int32) (ztp : Nat) (zrw : Nat) (zpp : Nat) (tn : Nat) (pn : Nat) (rdw : Int32) (rdh : Int32) (zsz : Nat) (zit : Nat) (zk : Nat) (itk : Bool) (f : Nat → Int32) (mf : Nat → Int32) (hW1 : 2 ≤ W) (hW2 : W ≤ 16) (hH1 : 2 ≤ H) (hH2 : H ≤ 16) (hW3 : W % 2 = 0) (hH3 : H % 2 = 0) (hf : ∀ y, rN (f y) < 2 ^ W) (hmf : ∀ y, rN (mf y) < 2 ^ W) (l : Launch) : CT l G yX9_shift cX9_shift 3 (some .int) { frames := 1, cells := 0, slots := 0, locals := 25 } [.ref md] [(md, .inr (9, [.int (nI W), .int (nI H), .int t, .int (nI m), .int (nI k), .ref zc, .ref zr, .ref zb, .ref z1, .ref z2, .ref z3, .ref z4, .ref z5, .ref zm, .ref zmr, .ref zmb, .int mt, .ref zca, .ref zcw, .int (nI c), .ref zg, .ref zt, .ref zs, .ref zf, .ref zy, .ref zso, .ref zsf, .ref zsm, .int nt, .int nsh, .ref ztp, .ref zrw, .ref zpp, .int (nI tn), .int (nI pn), .int rdw, .int rdh, .ref zsz, .ref zit, .ref zk, .int (bI itk)])), (zc, ia G 16 f), (zm, ia G 16 mf)] (fun vv ww => ∃ (rr_ : Int32), vv = some (.int rr_) ∧ ww = [(md, .inr (9, [.int (nI W), .int (nI H), .int t, .int (nI m), .int (nI k), .ref zc, .ref zr, .ref zb, .ref z1, .ref z2, .ref z3, .ref z4, .ref z5, .ref zm, .ref zmr, .ref zmb, .int mt, .ref zca, .ref zcw, .int (nI c), .ref zg, .ref zt, .ref zs, .ref zf, .ref zy, .ref zso, .ref zsf, .ref zsm, .int nt, .int nsh, .ref ztp, .ref zrw, .ref zpp, .int (nI tn), .int (nI pn), .int rdw, .int rdh, .ref zsz, .ref zit, .ref zk, .int (bI itk)])), (zc, ia G 16 f), (zm, ia G 16 mf)] ∧ (∀ dx dy, mvG W H mf f = some (dx, dy) → rr_ = nI (100 * dy + dx) ∧ dx < 16 ∧ dy < 16) ∧ (mvG W H mf f = none → rr_ = -1)) := by
  refine CT.of (lv := [(0, .ref md)]) RX9 "shift" rfl rfl (by decide +kernel) (Nat.le_of_ble_eq_true rfl) rfl (fun X hX hR => ?_)
  refine j_iconstN (pc := 0) (j := 0) hX dX9_shift_0 rfl ?_
  refine j_istore_n (pc := 1) (lv' := [(1, .int (nI 0)), (0, .ref md)]) hX dX9_shift_1 (by decide) rfl ?_
  have L2 : ∀ (m2 : Nat) (dy cc : Nat) (hdy : dy = 2 * (H / 2 - cc) ∧ cc ≤ H / 2) (hmv : mvG W H mf f = fst2 (fun dy => mvX W H mf f dy) dy cc), cc < m2 → J X G 3 0 0 [(md, .inr (9, [.int (nI W), .int (nI H), .int t, .int (nI m), .int (nI k), .ref zc, .ref zr, .ref zb, .ref z1, .ref z2, .ref z3, .ref z4, .ref z5, .ref zm, .ref zmr, .ref zmb, .int mt, .ref zca, .ref zcw, .int (nI c), .ref zg, .ref zt, .ref zs, .ref zf, .ref zy, .ref zso, .ref zsf, .ref zsm, .int nt, .int nsh, .ref ztp, .ref zrw, .ref zpp, .int (nI tn), .int (nI pn), .int rdw, .int rdh, .ref zsz, .ref zit, .ref zk, .int (bI itk)])), (zc, ia G 16 f), (zm, ia G 16 mf)] [(0, .ref md), (1, .int (nI dy))] 2 [] := by
    intro m2
    induction m2 with
    | zero => intro dy cc hdy hmv hm2; exact absurd hm2 (Nat.not_lt_zero _)
    | succ m2 ih2 =>
      intro dy cc hdy hmv hm2
      refine j_iload_n (pc := 2) hX dX9_shift_2 1 rfl ?_
      refine j_aload_n (pc := 3) hX dX9_shift_3 0 rfl ?_
      refine j_get (pc := 4) hX f_RX9_15 0 rfl rfl dX9_shift_4 ?_
      refine j_icmp_ge (pc := 7) (tgt := 56) hX dX9_shift_7 (by decide) (nI_toInt (n := dy) (by omega)) (nI_toInt (n := H) (by omega)) (fun c7 => ?_) (fun c7 => ?_)
      · skip
        refine j_iconst (pc := 56) (v := (-1)) hX dX9_shift_56 (by decide) ?_
        have hres : mvG W H mf f = none := by rw [hmv, show cc = 0 from by omega]; rfl
        exact j_iret (pc := 57) hX hR dX9_shift_57 ⟨(-1), rfl, rfl, (fun a b e => by rw [hres] at e; cases e), (fun _ => rfl)⟩
      · skip
        refine j_iload_n (pc := 10) hX dX9_shift_10 1 rfl ?_
        refine j_if_ne (pc := 11) (tgt := 18) hX dX9_shift_11 (by decide) (nI_toInt (n := dy) (by omega)) (fun c11 => ?_) (fun c11 => ?_)
        · skip
          refine j_iconstN (pc := 18) (j := 0) hX dX9_shift_18 rfl ?_
          refine j_istore_n (pc := 19) (lv' := [(2, .int (nI 0)), (0, .ref md), (1, .int (nI dy))]) hX dX9_shift_19 (by decide) rfl ?_
          have L20 : ∀ (m20 : Nat) (dx cd : Nat) (hdx : dx + 2 * cd = W) (hmx : mvX W H mf f dy = fst2 (fun dx => ifS (shB W H mf f dx dy) (dx, dy)) dx cd), cd < m20 → J X G 3 0 0 [(md, .inr (9, [.int (nI W), .int (nI H), .int t, .int (nI m), .int (nI k), .ref zc, .ref zr, .ref zb, .ref z1, .ref z2, .ref z3, .ref z4, .ref z5, .ref zm, .ref zmr, .ref zmb, .int mt, .ref zca, .ref zcw, .int (nI c), .ref zg, .ref zt, .ref zs, .ref zf, .ref zy, .ref zso, .ref zsf, .ref zsm, .int nt, .int nsh, .ref ztp, .ref zrw, .ref zpp, .int (nI tn), .int (nI pn), .int rdw, .int rdh, .ref zsz, .ref zit, .ref zk, .int (bI itk)])), (zc, ia G 16 f), (zm, ia G 16 mf)] [(0, .ref md), (1, .int (nI dy)), (2, .int (nI dx))] 20 [] := by
            intro m20
            induction m20 with
            | zero => intro dx cd hdx hmx hm20; exact absurd hm20 (Nat.not_lt_zero _)
            | succ m20 ih20 =>
              intro dx cd hdx hmx hm20
              refine j_iload_n (pc := 20) hX dX9_shift_20 2 rfl ?_
              refine j_aload_n (pc := 21) hX dX9_shift_21 0 rfl ?_
              refine j_get (pc := 22) hX f_RX9_9 0 rfl rfl dX9_shift_22 ?_
              refine j_icmp_ge (pc := 25) (tgt := 50) hX dX9_shift_25 (by decide) (nI_toInt (n := dx) (by omega)) (nI_toInt (n := W) (by omega)) (fun c25 => ?_) (fun c25 => ?_)
              · skip
                refine j_iinc (pc := 50) (q := 1) (v := nI (dy + 2)) (lv' := [(1, .int (nI (dy + 2))), (0, .ref md), (2, .int (nI dx))]) hX dX9_shift_50 rfl (nI_inc _ 2) (by decide) rfl ?_
                refine j_goto (pc := 53) (tgt := 2) hX dX9_shift_53 (by decide) ?_
                refine j_lv [1, 0] (lv' := [(0, .ref md), (1, .int (nI (dy + 2)))]) rfl ?_
                exact ih2 (dy + 2) (cc - 1) (by omega) (by rw [hmv, fst2_n (P := fun dy => mvX W H mf f dy) (by omega) (by rw [hmx, show cd = 0 from by omega]; rfl)]) (by omega)
              · skip
                refine j_aload_n (pc := 28) hX dX9_shift_28 0 rfl ?_
                refine j_iload_n (pc := 29) hX dX9_shift_29 2 rfl ?_
                refine j_iload_n (pc := 30) hX dX9_shift_30 1 rfl ?_
                refine j_callV (pc := 31) hX kX9_isShifted kVX9_isShifted l_RX9_217 (fun l => c_X9_isShifted G md W H t m k zc zr zb z1 z2 z3 z4 z5 zm zmr zmb mt zca zcw c zg zt zs zf zy zso zsf zsm nt nsh ztp zrw zpp tn pn rdw rdh zsz zit zk itk f mf dx dy (by omega) (by omega) (by omega) (by omega) (by omega) (by omega) (by assumption) (by assumption) (by omega) (by omega) l) [0, 1, 2] [] [] rfl 0 9 rfl rfl rfl rfl rfl rfl ⟨rfl, rfl, by decide⟩ rfl rfl (Nat.le_of_ble_eq_true rfl) dX9_shift_31 (fun v w hq => ?_)
                obtain ⟨rfl, rfl⟩ := hq
                refine j_ws [0, 1, 2] (ws' := [(md, .inr (9, [.int (nI W), .int (nI H), .int t, .int (nI m), .int (nI k), .ref zc, .ref zr, .ref zb, .ref z1, .ref z2, .ref z3, .ref z4, .ref z5, .ref zm, .ref zmr, .ref zmb, .int mt, .ref zca, .ref zcw, .int (nI c), .ref zg, .ref zt, .ref zs, .ref zf, .ref zy, .ref zso, .ref zsf, .ref zsm, .int nt, .int nsh, .ref ztp, .ref zrw, .ref zpp, .int (nI tn), .int (nI pn), .int rdw, .int rdh, .ref zsz, .ref zit, .ref zk, .int (bI itk)])), (zc, ia G 16 f), (zm, ia G 16 mf)]) rfl rfl ?_
                refine j_ifB_eq (pc := 34) (tgt := 44) hX dX9_shift_34 (by decide) (fun c34 => ?_) (fun c34 => ?_)
                · skip
                  refine j_iinc (pc := 44) (q := 2) (v := nI (dx + 2)) (lv' := [(2, .int (nI (dx + 2))), (0, .ref md), (1, .int (nI dy))]) hX dX9_shift_44 rfl (nI_inc _ 2) (by decide) rfl ?_
                  refine j_goto (pc := 47) (tgt := 20) hX dX9_shift_47 (by decide) ?_
                  refine j_lv [1, 2, 0] (lv' := [(0, .ref md), (1, .int (nI dy)), (2, .int (nI (dx + 2)))]) rfl ?_
                  exact ih20 (dx + 2) (cd - 1) (by omega) (by rw [hmx, fst2_n (P := fun dx => ifS (shB W H mf f dx dy) (dx, dy)) (by omega) (ifS_f c34)]) (by omega)
                · skip
                  refine j_bipush (pc := 37) (v := nI 100) hX dX9_shift_37 (by decide) ?_
                  refine j_iload_n (pc := 39) hX dX9_shift_39 1 rfl ?_
                  refine j_imul (pc := 40) hX dX9_shift_40 ?_
                  refine j_topi (y := nI (100 * dy)) (pk_mul _ _) ?_
                  refine j_iload_n (pc := 41) hX dX9_shift_41 2 rfl ?_
                  refine j_iadd (pc := 42) hX dX9_shift_42 ?_
                  refine j_topi (y := nI (100 * dy + dx)) (nI_add _ _) ?_
                  have hres : mvG W H mf f = some (dx, dy) := by rw [hmv, fst2_s (P := fun dy => mvX W H mf f dy) (by omega) (by rw [hmx, fst2_s (P := fun dx => ifS (shB W H mf f dx dy) (dx, dy)) (by omega) (ifS_t c34)])]
                  exact j_iret (pc := 43) hX hR dX9_shift_43 ⟨(nI (100 * dy + dx)), rfl, rfl, (fun a b e => by rw [hres] at e; cases e; exact ⟨rfl, by omega, by omega⟩), (fun e => by rw [hres] at e; cases e)⟩
          refine j_lv [1, 2, 0] (lv' := [(0, .ref md), (1, .int (nI dy)), (2, .int (nI 0))]) rfl ?_
          exact L20 ((W / 2) + 1) 0 (W / 2) (by omega) (by unfold mvX; first | (rw [if_pos (by omega), if_pos (by omega)]; done) | (rw [if_neg (by omega), if_neg (by omega)]; done)) (Nat.lt_succ_self _)
        · skip
          refine j_iconstN (pc := 14) (j := 2) hX dX9_shift_14 rfl ?_
          refine j_goto (pc := 15) (tgt := 19) hX dX9_shift_15 (by decide) ?_
          refine j_istore_n (pc := 19) (lv' := [(2, .int (nI 2)), (0, .ref md), (1, .int (nI dy))]) hX dX9_shift_19 (by decide) rfl ?_
          have L20 : ∀ (m20 : Nat) (dx cd : Nat) (hdx : dx + 2 * cd = W) (hmx : mvX W H mf f dy = fst2 (fun dx => ifS (shB W H mf f dx dy) (dx, dy)) dx cd), cd < m20 → J X G 3 0 0 [(md, .inr (9, [.int (nI W), .int (nI H), .int t, .int (nI m), .int (nI k), .ref zc, .ref zr, .ref zb, .ref z1, .ref z2, .ref z3, .ref z4, .ref z5, .ref zm, .ref zmr, .ref zmb, .int mt, .ref zca, .ref zcw, .int (nI c), .ref zg, .ref zt, .ref zs, .ref zf, .ref zy, .ref zso, .ref zsf, .ref zsm, .int nt, .int nsh, .ref ztp, .ref zrw, .ref zpp, .int (nI tn), .int (nI pn), .int rdw, .int rdh, .ref zsz, .ref zit, .ref zk, .int (bI itk)])), (zc, ia G 16 f), (zm, ia G 16 mf)] [(0, .ref md), (1, .int (nI dy)), (2, .int (nI dx))] 20 [] := by
            intro m20
            induction m20 with
            | zero => intro dx cd hdx hmx hm20; exact absurd hm20 (Nat.not_lt_zero _)
            | succ m20 ih20 =>
              intro dx cd hdx hmx hm20
              refine j_iload_n (pc := 20) hX dX9_shift_20 2 rfl ?_
              refine j_aload_n (pc := 21) hX dX9_shift_21 0 rfl ?_
              refine j_get (pc := 22) hX f_RX9_9 0 rfl rfl dX9_shift_22 ?_
              refine j_icmp_ge (pc := 25) (tgt := 50) hX dX9_shift_25 (by decide) (nI_toInt (n := dx) (by omega)) (nI_toInt (n := W) (by omega)) (fun c25 => ?_) (fun c25 => ?_)
              · skip
                refine j_iinc (pc := 50) (q := 1) (v := nI (dy + 2)) (lv' := [(1, .int (nI (dy + 2))), (0, .ref md), (2, .int (nI dx))]) hX dX9_shift_50 rfl (nI_inc _ 2) (by decide) rfl ?_
                refine j_goto (pc := 53) (tgt := 2) hX dX9_shift_53 (by decide) ?_
                refine j_lv [1, 0] (lv' := [(0, .ref md), (1, .int (nI (dy + 2)))]) rfl ?_
                exact ih2 (dy + 2) (cc - 1) (by omega) (by rw [hmv, fst2_n (P := fun dy => mvX W H mf f dy) (by omega) (by rw [hmx, show cd = 0 from by omega]; rfl)]) (by omega)
              · skip
                refine j_aload_n (pc := 28) hX dX9_shift_28 0 rfl ?_
                refine j_iload_n (pc := 29) hX dX9_shift_29 2 rfl ?_
                refine j_iload_n (pc := 30) hX dX9_shift_30 1 rfl ?_
                refine j_callV (pc := 31) hX kX9_isShifted kVX9_isShifted l_RX9_217 (fun l => c_X9_isShifted G md W H t m k zc zr zb z1 z2 z3 z4 z5 zm zmr zmb mt zca zcw c zg zt zs zf zy zso zsf zsm nt nsh ztp zrw zpp tn pn rdw rdh zsz zit zk itk f mf dx dy (by omega) (by omega) (by omega) (by omega) (by omega) (by omega) (by assumption) (by assumption) (by omega) (by omega) l) [0, 1, 2] [] [] rfl 0 9 rfl rfl rfl rfl rfl rfl ⟨rfl, rfl, by decide⟩ rfl rfl (Nat.le_of_ble_eq_true rfl) dX9_shift_31 (fun v w hq => ?_)
                obtain ⟨rfl, rfl⟩ := hq
                refine j_ws [0, 1, 2] (ws' := [(md, .inr (9, [.int (nI W), .int (nI H), .int t, .int (nI m), .int (nI k), .ref zc, .ref zr, .ref zb, .ref z1, .ref z2, .ref z3, .ref z4, .ref z5, .ref zm, .ref zmr, .ref zmb, .int mt, .ref zca, .ref zcw, .int (nI c), .ref zg, .ref zt, .ref zs, .ref zf, .ref zy, .ref zso, .ref zsf, .ref zsm, .int nt, .int nsh, .ref ztp, .ref zrw, .ref zpp, .int (nI tn), .int (nI pn), .int rdw, .int rdh, .ref zsz, .ref zit, .ref zk, .int (bI itk)])), (zc, ia G 16 f), (zm, ia G 16 mf)]) rfl rfl ?_
                refine j_ifB_eq (pc := 34) (tgt := 44) hX dX9_shift_34 (by decide) (fun c34 => ?_) (fun c34 => ?_)
                · skip
                  refine j_iinc (pc := 44) (q := 2) (v := nI (dx + 2)) (lv' := [(2, .int (nI (dx + 2))), (0, .ref md), (1, .int (nI dy))]) hX dX9_shift_44 rfl (nI_inc _ 2) (by decide) rfl ?_
                  refine j_goto (pc := 47) (tgt := 20) hX dX9_shift_47 (by decide) ?_
                  refine j_lv [1, 2, 0] (lv' := [(0, .ref md), (1, .int (nI dy)), (2, .int (nI (dx + 2)))]) rfl ?_
                  exact ih20 (dx + 2) (cd - 1) (by omega) (by rw [hmx, fst2_n (P := fun dx => ifS (shB W H mf f dx dy) (dx, dy)) (by omega) (ifS_f c34)]) (by omega)
                · skip
                  refine j_bipush (pc := 37) (v := nI 100) hX dX9_shift_37 (by decide) ?_
                  refine j_iload_n (pc := 39) hX dX9_shift_39 1 rfl ?_
                  refine j_imul (pc := 40) hX dX9_shift_40 ?_
                  refine j_topi (y := nI (100 * dy)) (pk_mul _ _) ?_
                  refine j_iload_n (pc := 41) hX dX9_shift_41 2 rfl ?_
                  refine j_iadd (pc := 42) hX dX9_shift_42 ?_
                  refine j_topi (y := nI (100 * dy + dx)) (nI_add _ _) ?_
                  have hres : mvG W H mf f = some (dx, dy) := by rw [hmv, fst2_s (P := fun dy => mvX W H mf f dy) (by omega) (by rw [hmx, fst2_s (P := fun dx => ifS (shB W H mf f dx dy) (dx, dy)) (by omega) (ifS_t c34)])]
                  exact j_iret (pc := 43) hX hR dX9_shift_43 ⟨(nI (100 * dy + dx)), rfl, rfl, (fun a b e => by rw [hres] at e; cases e; exact ⟨rfl, by omega, by omega⟩), (fun e => by rw [hres] at e; cases e)⟩
          refine j_lv [1, 2, 0] (lv' := [(0, .ref md), (1, .int (nI dy)), (2, .int (nI 2))]) rfl ?_
          exact L20 ((W / 2 - 1) + 1) 2 (W / 2 - 1) (by omega) (by unfold mvX; first | (rw [if_pos (by omega), if_pos (by omega)]; done) | (rw [if_neg (by omega), if_neg (by omega)]; done)) (Nat.lt_succ_self _)
  refine j_lv [1, 0] (lv' := [(0, .ref md), (1, .int (nI 0))]) rfl ?_
  exact L2 ((H / 2) + 1) 0 (H / 2) (by omega) (rfl) (Nat.lt_succ_self _)
set_option maxHeartbeats 4000000 in
set_option maxRecDepth 100000 in
theorem c_X9_moved_bad (G : GT) (md : Nat) (W : Nat) (H : Nat) (t : Int32) (m : Nat) (k : Nat) (zc : Nat) (zr : Nat) (zb : Nat) (z1 : Nat) (z2 : Nat) (z3 : Nat) (z4 : Nat) (z5 : Nat) (zm : Nat) (zmr : Nat) (zmb : Nat) (mt : Int32) (zca : Nat) (zcw : Nat) (c : Nat) (zg : Nat) (zt : Nat) (zs : Nat) (zf : Nat) (zy : Nat) (zso : Nat) (zsf : Nat) (zsm : Nat) (nt : Int32) (nsh : Int32) (ztp : Nat) (zrw : Nat) (zpp : Nat) (tn : Nat) (pn : Nat) (rdw : Int32) (rdh : Int32) (zsz : Nat) (zit : Nat) (zk : Nat) (itk : Bool) (w : Int32) (hb : w.toInt < 0 ∨ 2 < w.toInt) (l : Launch) : CT l G yX9_moved cX9_moved 4 (some .int) { frames := 4, cells := 0, slots := 0, locals := 95 } [.ref md, .int w] [(md, .inr (9, [.int (nI W), .int (nI H), .int t, .int (nI m), .int (nI k), .ref zc, .ref zr, .ref zb, .ref z1, .ref z2, .ref z3, .ref z4, .ref z5, .ref zm, .ref zmr, .ref zmb, .int mt, .ref zca, .ref zcw, .int (nI c), .ref zg, .ref zt, .ref zs, .ref zf, .ref zy, .ref zso, .ref zsf, .ref zsm, .int nt, .int nsh, .ref ztp, .ref zrw, .ref zpp, .int (nI tn), .int (nI pn), .int rdw, .int rdh, .ref zsz, .ref zit, .ref zk, .int (bI itk)]))] (fun vv ww => vv = some (.int (-1)) ∧ ww = [(md, .inr (9, [.int (nI W), .int (nI H), .int t, .int (nI m), .int (nI k), .ref zc, .ref zr, .ref zb, .ref z1, .ref z2, .ref z3, .ref z4, .ref z5, .ref zm, .ref zmr, .ref zmb, .int mt, .ref zca, .ref zcw, .int (nI c), .ref zg, .ref zt, .ref zs, .ref zf, .ref zy, .ref zso, .ref zsf, .ref zsm, .int nt, .int nsh, .ref ztp, .ref zrw, .ref zpp, .int (nI tn), .int (nI pn), .int rdw, .int rdh, .ref zsz, .ref zit, .ref zk, .int (bI itk)]))]) := by
  refine CT.of (lv := [(0, .ref md), (1, .int w)]) RX9 "moved" rfl rfl (by decide +kernel) (Nat.le_of_ble_eq_true rfl) rfl (fun X hX hR => ?_)
  refine j_iload_n (pc := 0) hX dX9_moved_0 1 rfl ?_
  refine j_i2l (pc := 1) hX dX9_moved_1 ?_
  refine j_lconst (pc := 2) (v := 0) hX dX9_moved_2 (by decide) ?_
  refine j_ldc2 (pc := 3) (v := (2)) hX k_RX9_152 dX9_moved_3 ?_
  refine j_callS (pc := 6) hX kX9_isIn kSX9_isIn l_RX9_105 (fun l => c_X9_isIn G w.toInt64 0 (2) (rngB w (0) (2)) (inL_of (toL _) (show ((0) : Int64).toInt = 0 from by decide) (show ((2) : Int64).toInt = 2 from by decide)) l) [] [0] [] rfl rfl rfl rfl ⟨rfl, rfl, by decide⟩ rfl rfl (Nat.le_of_ble_eq_true rfl) dX9_moved_6 (fun v w hq => ?_)
  obtain ⟨rfl, rfl⟩ := hq
  refine j_ws [0] (ws' := [(md, .inr (9, [.int (nI W), .int (nI H), .int t, .int (nI m), .int (nI k), .ref zc, .ref zr, .ref zb, .ref z1, .ref z2, .ref z3, .ref z4, .ref z5, .ref zm, .ref zmr, .ref zmb, .int mt, .ref zca, .ref zcw, .int (nI c), .ref zg, .ref zt, .ref zs, .ref zf, .ref zy, .ref zso, .ref zsf, .ref zsm, .int nt, .int nsh, .ref ztp, .ref zrw, .ref zpp, .int (nI tn), .int (nI pn), .int rdw, .int rdh, .ref zsz, .ref zit, .ref zk, .int (bI itk)]))]) rfl rfl ?_
  refine j_ifB_ne (pc := 9) (tgt := 14) hX dX9_moved_9 (by decide) (fun c9 => by exfalso; have := of_decide_eq_true c9; omega) (fun c9 => ?_)
  refine j_iconst (pc := 12) (v := (-1)) hX dX9_moved_12 (by decide) ?_
  exact j_iret (pc := 13) hX hR dX9_moved_13 ⟨rfl, rfl⟩
set_option maxHeartbeats 4000000 in
set_option maxRecDepth 100000 in
theorem c_X9_moved_0 (G : GT) (md : Nat) (W : Nat) (H : Nat) (t : Int32) (m : Nat) (k : Nat) (zc : Nat) (zr : Nat) (zb : Nat) (z1 : Nat) (z2 : Nat) (z3 : Nat) (z4 : Nat) (z5 : Nat) (zm : Nat) (zmr : Nat) (zmb : Nat) (mt : Int32) (zca : Nat) (zcw : Nat) (c : Nat) (zg : Nat) (zt : Nat) (zs : Nat) (zf : Nat) (zy : Nat) (zso : Nat) (zsf : Nat) (zsm : Nat) (nt : Int32) (nsh : Int32) (ztp : Nat) (zrw : Nat) (zpp : Nat) (tn : Nat) (pn : Nat) (rdw : Int32) (rdh : Int32) (zsz : Nat) (zit : Nat) (zk : Nat) (itk : Bool) (f : Nat → Int32) (p : Nat → Nat) (mf : Nat → Int32) (mrf : Nat → Int32) (mbf : Nat → Int32) (q : Nat → Nat) (hW1 : 2 ≤ W) (hW2 : W ≤ 16) (hH1 : 2 ≤ H) (hH2 : H ≤ 16) (hW3 : W % 2 = 0) (hH3 : H % 2 = 0) (hp : isP p q) (hf : ∀ y, rN (f y) < 2 ^ W) (l : Launch) : CT l G yX9_moved cX9_moved 4 (some .int) { frames := 4, cells := 0, slots := 0, locals := 95 } [.ref md, .int (nI 0)] [(md, .inr (9, [.int (nI W), .int (nI H), .int t, .int (nI m), .int (nI k), .ref zc, .ref zr, .ref zb, .ref z1, .ref z2, .ref z3, .ref z4, .ref z5, .ref zm, .ref zmr, .ref zmb, .int mt, .ref zca, .ref zcw, .int (nI c), .ref zg, .ref zt, .ref zs, .ref zf, .ref zy, .ref zso, .ref zsf, .ref zsm, .int nt, .int nsh, .ref ztp, .ref zrw, .ref zpp, .int (nI tn), .int (nI pn), .int rdw, .int rdh, .ref zsz, .ref zit, .ref zk, .int (bI itk)])), (zc, ia G 16 f), (zr, ia G 16 (fun ι => nI (p ι))), (zm, ia G 16 mf), (zmr, ia G 16 mrf), (zmb, ia G 16 mbf)] (fun vv ww => ∃ (mt2 : Int32) (mf2 : Nat → Int32), vv = some (.int (mvR (mvS W H p t f) 0)) ∧ ww = [(md, .inr (9, [.int (nI W), .int (nI H), .int t, .int (nI m), .int (nI k), .ref zc, .ref zr, .ref zb, .ref z1, .ref z2, .ref z3, .ref z4, .ref z5, .ref zm, .ref zmr, .ref zmb, .int mt2, .ref zca, .ref zcw, .int (nI c), .ref zg, .ref zt, .ref zs, .ref zf, .ref zy, .ref zso, .ref zsf, .ref zsm, .int nt, .int nsh, .ref ztp, .ref zrw, .ref zpp, .int (nI tn), .int (nI pn), .int rdw, .int rdh, .ref zsz, .ref zit, .ref zk, .int (bI itk)])), (zc, ia G 16 f), (zr, ia G 16 (fun ι => nI (p ι))), (zm, ia G 16 mf2), (zmr, ia G 16 (fun ι => nI (p ι))), (zmb, ia G 16 (fun ι => nI (q ι)))]) := by
  refine CT.of (lv := [(0, .ref md), (1, .int (nI 0))]) RX9 "moved" rfl rfl (by decide +kernel) (Nat.le_of_ble_eq_true rfl) rfl (fun X hX hR => ?_)
  refine j_iload_n (pc := 0) hX dX9_moved_0 1 rfl ?_
  refine j_i2l (pc := 1) hX dX9_moved_1 ?_
  refine j_lconst (pc := 2) (v := 0) hX dX9_moved_2 (by decide) ?_
  refine j_ldc2 (pc := 3) (v := (2)) hX k_RX9_152 dX9_moved_3 ?_
  refine j_callS (pc := 6) hX kX9_isIn kSX9_isIn l_RX9_105 (fun l => c_X9_isIn G ((nI 0).toInt64) 0 (2) (rngB (nI 0) (0) (2)) (inL_of (toL _) (show ((0) : Int64).toInt = 0 from by decide) (show ((2) : Int64).toInt = 2 from by decide)) l) [] [0, 1, 2, 3, 4, 5] [] rfl rfl rfl rfl ⟨rfl, rfl, by decide⟩ rfl rfl (Nat.le_of_ble_eq_true rfl) dX9_moved_6 (fun v w hq => ?_)
  obtain ⟨rfl, rfl⟩ := hq
  refine j_ws [0, 1, 2, 3, 4, 5] (ws' := [(md, .inr (9, [.int (nI W), .int (nI H), .int t, .int (nI m), .int (nI k), .ref zc, .ref zr, .ref zb, .ref z1, .ref z2, .ref z3, .ref z4, .ref z5, .ref zm, .ref zmr, .ref zmb, .int mt, .ref zca, .ref zcw, .int (nI c), .ref zg, .ref zt, .ref zs, .ref zf, .ref zy, .ref zso, .ref zsf, .ref zsm, .int nt, .int nsh, .ref ztp, .ref zrw, .ref zpp, .int (nI tn), .int (nI pn), .int rdw, .int rdh, .ref zsz, .ref zit, .ref zk, .int (bI itk)])), (zc, ia G 16 f), (zr, ia G 16 (fun ι => nI (p ι))), (zm, ia G 16 mf), (zmr, ia G 16 mrf), (zmb, ia G 16 mbf)]) rfl rfl ?_
  refine j_ifB_ne (pc := 9) (tgt := 14) hX dX9_moved_9 (by decide) (fun c9 => ?_) (fun c9 => by rw [rng_t (x := nI 0) (A := 0) (B := 2) (by decide)] at c9; cases c9)
  refine j_aload_n (pc := 14) hX dX9_moved_14 0 rfl ?_
  refine j_callV (pc := 15) hX kX9_minds kVX9_minds l_RX9_189 (fun l => c_X9_minds G md W H t m k zc zr zb z1 z2 z3 z4 z5 zm zmr zmb mt zca zcw c zg zt zs zf zy zso zsf zsm nt nsh ztp zrw zpp tn pn rdw rdh zsz zit zk itk f p mf mrf mbf q (by assumption) l) [0, 1, 2, 3, 4, 5] [] [] rfl 0 9 rfl rfl rfl rfl rfl rfl ⟨rfl, rfl, by decide⟩ rfl rfl (Nat.le_of_ble_eq_true rfl) dX9_moved_15 (fun v w hq => ?_)
  obtain ⟨rfl, rfl⟩ := hq
  refine j_ws [0, 1, 2, 3, 4, 5] (ws' := [(md, .inr (9, [.int (nI W), .int (nI H), .int t, .int (nI m), .int (nI k), .ref zc, .ref zr, .ref zb, .ref z1, .ref z2, .ref z3, .ref z4, .ref z5, .ref zm, .ref zmr, .ref zmb, .int t, .ref zca, .ref zcw, .int (nI c), .ref zg, .ref zt, .ref zs, .ref zf, .ref zy, .ref zso, .ref zsf, .ref zsm, .int nt, .int nsh, .ref ztp, .ref zrw, .ref zpp, .int (nI tn), .int (nI pn), .int rdw, .int rdh, .ref zsz, .ref zit, .ref zk, .int (bI itk)])), (zc, ia G 16 f), (zr, ia G 16 (fun ι => nI (p ι))), (zm, ia G 16 f), (zmr, ia G 16 (fun ι => nI (p ι))), (zmb, ia G 16 (fun ι => nI (q ι)))]) rfl rfl ?_
  refine j_iconstN (pc := 18) (j := 2) hX dX9_moved_18 rfl ?_
  refine j_istore_n (pc := 19) (lv' := [(2, .int (nI 2)), (0, .ref md), (1, .int (nI 0))]) hX dX9_moved_19 (by decide) rfl ?_
  have L20 : ∀ (m20 : Nat) (n cc : Nat) (t3 : Int32) (f3 : Nat → Int32) (hn : n = 2 + 2 * (32 - cc) ∧ cc ≤ 32) (ht3 : t3 = t + nI (n - 2)) (h3 : f3 = gF W H p t (n - 2) f) (hag : mvS W H p t f = fst2 (fun n => mvAt W H p t f n) n cc), cc < m20 → J X G 4 0 0 [(md, .inr (9, [.int (nI W), .int (nI H), .int t, .int (nI m), .int (nI k), .ref zc, .ref zr, .ref zb, .ref z1, .ref z2, .ref z3, .ref z4, .ref z5, .ref zm, .ref zmr, .ref zmb, .int t3, .ref zca, .ref zcw, .int (nI c), .ref zg, .ref zt, .ref zs, .ref zf, .ref zy, .ref zso, .ref zsf, .ref zsm, .int nt, .int nsh, .ref ztp, .ref zrw, .ref zpp, .int (nI tn), .int (nI pn), .int rdw, .int rdh, .ref zsz, .ref zit, .ref zk, .int (bI itk)])), (zc, ia G 16 f), (zr, ia G 16 (fun ι => nI (p ι))), (zm, ia G 16 f3), (zmr, ia G 16 (fun ι => nI (p ι))), (zmb, ia G 16 (fun ι => nI (q ι)))] [(0, .ref md), (1, .int (nI 0)), (2, .int (nI n))] 20 [] := by
    intro m20
    induction m20 with
    | zero => intro n cc t3 f3 hn ht3 h3 hag hm20; exact absurd hm20 (Nat.not_lt_zero _)
    | succ m20 ih20 =>
      intro n cc t3 f3 hn ht3 h3 hag hm20
      refine j_iload_n (pc := 20) hX dX9_moved_20 2 rfl ?_
      refine j_bipush (pc := 21) (v := nI 64) hX dX9_moved_21 (by decide) ?_
      refine j_icmp_gt (pc := 23) (tgt := 71) hX dX9_moved_23 (by decide) (nI_toInt (n := n) (by omega)) (nI_toInt (n := 64) (by decide)) (fun c23 => ?_) (fun c23 => ?_)
      · skip
        refine j_bipush (pc := 71) (v := (-5)) hX dX9_moved_71 (by decide) ?_
        exact j_iret (pc := 73) hX hR dX9_moved_73 ⟨t3, f3, congrArg some (show Value.int (-5) = Value.int (mvR (mvS W H p t f) 0) from by rw [hag, show cc = 0 from by omega]; rfl), rfl⟩
      · skip
        refine j_aload_n (pc := 26) hX dX9_moved_26 0 rfl ?_
        refine j_iconstN (pc := 27) (j := 2) hX dX9_moved_27 rfl ?_
        refine j_callV (pc := 28) hX kX9_goes kVX9_goes l_RX9_192 (fun l => c_X9_goes G md W H t m k zc zr zb z1 z2 z3 z4 z5 zm zmr zmb t3 zca zcw c zg zt zs zf zy zso zsf zsm nt nsh ztp zrw zpp tn pn rdw rdh zsz zit zk itk f3 p q (nI 2) (by omega) (by omega) (by omega) (by omega) (by omega) (by omega) (by first | omega | (rw [nI_toInt (by omega)]; omega)) l) [0, 3, 4, 5] [1, 2] [] rfl 0 9 rfl rfl rfl rfl rfl rfl ⟨rfl, rfl, by decide⟩ rfl rfl (Nat.le_of_ble_eq_true rfl) dX9_moved_28 (fun v w hq => ?_)
        obtain ⟨rfl, rfl⟩ := hq
        refine j_ws [2, 0, 1, 3, 4, 5] (ws' := [(md, .inr (9, [.int (nI W), .int (nI H), .int t, .int (nI m), .int (nI k), .ref zc, .ref zr, .ref zb, .ref z1, .ref z2, .ref z3, .ref z4, .ref z5, .ref zm, .ref zmr, .ref zmb, .int (t3 + (nI 2)), .ref zca, .ref zcw, .int (nI c), .ref zg, .ref zt, .ref zs, .ref zf, .ref zy, .ref zso, .ref zsf, .ref zsm, .int nt, .int nsh, .ref ztp, .ref zrw, .ref zpp, .int (nI tn), .int (nI pn), .int rdw, .int rdh, .ref zsz, .ref zit, .ref zk, .int (bI itk)])), (zc, ia G 16 f), (zr, ia G 16 (fun ι => nI (p ι))), (zm, ia G 16 (goF W H p q t3 (nI 2) f3)), (zmr, ia G 16 (fun ι => nI (p ι))), (zmb, ia G 16 (fun ι => nI (q ι)))]) rfl rfl ?_
        have hgn : goF W H p q t3 (nI 2) f3 = gF W H p t n f := by rw [h3, ht3, goF_on (by omega), show n - 2 + 2 = n from by omega]
        refine j_aload_n (pc := 31) hX dX9_moved_31 0 rfl ?_
        refine j_callV (pc := 32) hX kX9_shift kVX9_shift l_RX9_220 (fun l => c_X9_shift G md W H t m k zc zr zb z1 z2 z3 z4 z5 zm zmr zmb (t3 + (nI 2)) zca zcw c zg zt zs zf zy zso zsf zsm nt nsh ztp zrw zpp tn pn rdw rdh zsz zit zk itk f (goF W H p q t3 (nI 2) f3) (by omega) (by omega) (by omega) (by omega) (by omega) (by omega) (by assumption) (by rw [hgn]; exact gF_lt hW2 hW3 hf _) l) [0, 1, 3] [2, 4, 5] [] rfl 0 9 rfl rfl rfl rfl rfl rfl ⟨rfl, rfl, by decide⟩ rfl rfl (Nat.le_of_ble_eq_true rfl) dX9_moved_32 (fun v w hq => ?_)
        obtain ⟨rr__32, rfl, rfl, h32_0, h32_1⟩ := hq
        refine j_ws [3, 4, 0, 5, 1, 2] (ws' := [(md, .inr (9, [.int (nI W), .int (nI H), .int t, .int (nI m), .int (nI k), .ref zc, .ref zr, .ref zb, .ref z1, .ref z2, .ref z3, .ref z4, .ref z5, .ref zm, .ref zmr, .ref zmb, .int (t3 + (nI 2)), .ref zca, .ref zcw, .int (nI c), .ref zg, .ref zt, .ref zs, .ref zf, .ref zy, .ref zso, .ref zsf, .ref zsm, .int nt, .int nsh, .ref ztp, .ref zrw, .ref zpp, .int (nI tn), .int (nI pn), .int rdw, .int rdh, .ref zsz, .ref zit, .ref zk, .int (bI itk)])), (zc, ia G 16 f), (zr, ia G 16 (fun ι => nI (p ι))), (zm, ia G 16 (goF W H p q t3 (nI 2) f3)), (zmr, ia G 16 (fun ι => nI (p ι))), (zmb, ia G 16 (fun ι => nI (q ι)))]) rfl rfl ?_
        refine j_istore_n (pc := 35) (lv' := [(3, .int rr__32), (0, .ref md), (1, .int (nI 0)), (2, .int (nI n))]) hX dX9_moved_35 (by decide) rfl ?_
        refine j_iload_n (pc := 36) hX dX9_moved_36 0 rfl ?_
        refine j_if_lt (pc := 37) (tgt := 65) hX dX9_moved_37 (by decide) rfl (fun c37 => ?_) (fun c37 => ?_)
        · skip
          have hnone : mvG W H (goF W H p q t3 (nI 2) f3) f = none := by cases e : mvG W H (goF W H p q t3 (nI 2) f3) f with | none => rfl | some z => exact absurd (h32_0 z.1 z.2 e).1 (fun q => by have := (h32_0 z.1 z.2 e).2; rw [q, nI_toInt (by omega)] at c37; omega)
          refine j_iinc (pc := 65) (q := 3) (v := nI (n + 2)) (lv' := [(2, .int (nI (n + 2))), (3, .int rr__32), (0, .ref md), (1, .int (nI 0))]) hX dX9_moved_65 rfl (nI_inc _ 2) (by decide) rfl ?_
          refine j_goto (pc := 68) (tgt := 20) hX dX9_moved_68 (by decide) ?_
          refine j_lv [2, 3, 0] (lv' := [(0, .ref md), (1, .int (nI 0)), (2, .int (nI (n + 2)))]) rfl ?_
          exact ih20 (n + 2) (cc - 1) (t3 + (nI 2)) (goF W H p q t3 (nI 2) f3) (by omega) (by rw [ht3, Int32.add_assoc, nI_add]; congr 2; omega) (by rw [hgn, show n + 2 - 2 = n from by omega]) (by rw [hag, fst2_n (P := fun n => mvAt W H p t f n) (by omega) (by unfold mvAt; rw [← hgn, hnone]; rfl)]) (by omega)
        · skip
          obtain ⟨⟨mx, my⟩, hd⟩ : ∃ z, mvG W H (goF W H p q t3 (nI 2) f3) f = some z := by cases e : mvG W H (goF W H p q t3 (nI 2) f3) f with | none => exact absurd (h32_1 e) (fun q => by rw [q] at c37; exact absurd c37 (by decide)) | some z => exact ⟨z, rfl⟩
          obtain ⟨he1, he2, he3⟩ := h32_0 _ _ hd
          have hres : mvS W H p t f = some (n, mx, my) := by rw [hag, fst2_s (P := fun n => mvAt W H p t f n) (by omega) (by unfold mvAt; rw [← hgn, hd]; rfl)]
          subst he1
          refine j_iload_n (pc := 40) hX dX9_moved_40 2 rfl ?_
          refine j_if_ne (pc := 41) (tgt := 48) hX dX9_moved_41 (by decide) (nI_toInt (n := 0) (by decide)) (fun c41 => absurd c41 (by decide)) (fun c41 => ?_)
          refine j_iload_n (pc := 44) hX dX9_moved_44 3 rfl ?_
          refine j_goto (pc := 45) (tgt := 64) hX dX9_moved_45 (by decide) ?_
          exact j_iret (pc := 64) hX hR dX9_moved_64 ⟨(t3 + (nI 2)), (goF W H p q t3 (nI 2) f3), congrArg some (show Value.int (nI n) = Value.int (mvR (mvS W H p t f) 0) from by rw [hres]; first | rfl | (rw [show (100 * my + mx) % 100 = mx from by omega]; rfl) | (rw [show (100 * my + mx) / 100 = my from by omega]; rfl)), rfl⟩
  refine j_lv [1, 2, 0] (lv' := [(0, .ref md), (1, .int (nI 0)), (2, .int (nI 2))]) rfl ?_
  exact L20 (32 + 1) 2 32 t f (by omega) (add0 t) (rfl) (rfl) (Nat.lt_succ_self _)
set_option maxHeartbeats 4000000 in
set_option maxRecDepth 100000 in
theorem c_X9_moved_1 (G : GT) (md : Nat) (W : Nat) (H : Nat) (t : Int32) (m : Nat) (k : Nat) (zc : Nat) (zr : Nat) (zb : Nat) (z1 : Nat) (z2 : Nat) (z3 : Nat) (z4 : Nat) (z5 : Nat) (zm : Nat) (zmr : Nat) (zmb : Nat) (mt : Int32) (zca : Nat) (zcw : Nat) (c : Nat) (zg : Nat) (zt : Nat) (zs : Nat) (zf : Nat) (zy : Nat) (zso : Nat) (zsf : Nat) (zsm : Nat) (nt : Int32) (nsh : Int32) (ztp : Nat) (zrw : Nat) (zpp : Nat) (tn : Nat) (pn : Nat) (rdw : Int32) (rdh : Int32) (zsz : Nat) (zit : Nat) (zk : Nat) (itk : Bool) (f : Nat → Int32) (p : Nat → Nat) (mf : Nat → Int32) (mrf : Nat → Int32) (mbf : Nat → Int32) (q : Nat → Nat) (hW1 : 2 ≤ W) (hW2 : W ≤ 16) (hH1 : 2 ≤ H) (hH2 : H ≤ 16) (hW3 : W % 2 = 0) (hH3 : H % 2 = 0) (hp : isP p q) (hf : ∀ y, rN (f y) < 2 ^ W) (l : Launch) : CT l G yX9_moved cX9_moved 4 (some .int) { frames := 4, cells := 0, slots := 0, locals := 95 } [.ref md, .int (nI 1)] [(md, .inr (9, [.int (nI W), .int (nI H), .int t, .int (nI m), .int (nI k), .ref zc, .ref zr, .ref zb, .ref z1, .ref z2, .ref z3, .ref z4, .ref z5, .ref zm, .ref zmr, .ref zmb, .int mt, .ref zca, .ref zcw, .int (nI c), .ref zg, .ref zt, .ref zs, .ref zf, .ref zy, .ref zso, .ref zsf, .ref zsm, .int nt, .int nsh, .ref ztp, .ref zrw, .ref zpp, .int (nI tn), .int (nI pn), .int rdw, .int rdh, .ref zsz, .ref zit, .ref zk, .int (bI itk)])), (zc, ia G 16 f), (zr, ia G 16 (fun ι => nI (p ι))), (zm, ia G 16 mf), (zmr, ia G 16 mrf), (zmb, ia G 16 mbf)] (fun vv ww => ∃ (mt2 : Int32) (mf2 : Nat → Int32), vv = some (.int (mvR (mvS W H p t f) 1)) ∧ ww = [(md, .inr (9, [.int (nI W), .int (nI H), .int t, .int (nI m), .int (nI k), .ref zc, .ref zr, .ref zb, .ref z1, .ref z2, .ref z3, .ref z4, .ref z5, .ref zm, .ref zmr, .ref zmb, .int mt2, .ref zca, .ref zcw, .int (nI c), .ref zg, .ref zt, .ref zs, .ref zf, .ref zy, .ref zso, .ref zsf, .ref zsm, .int nt, .int nsh, .ref ztp, .ref zrw, .ref zpp, .int (nI tn), .int (nI pn), .int rdw, .int rdh, .ref zsz, .ref zit, .ref zk, .int (bI itk)])), (zc, ia G 16 f), (zr, ia G 16 (fun ι => nI (p ι))), (zm, ia G 16 mf2), (zmr, ia G 16 (fun ι => nI (p ι))), (zmb, ia G 16 (fun ι => nI (q ι)))]) := by
  refine CT.of (lv := [(0, .ref md), (1, .int (nI 1))]) RX9 "moved" rfl rfl (by decide +kernel) (Nat.le_of_ble_eq_true rfl) rfl (fun X hX hR => ?_)
  refine j_iload_n (pc := 0) hX dX9_moved_0 1 rfl ?_
  refine j_i2l (pc := 1) hX dX9_moved_1 ?_
  refine j_lconst (pc := 2) (v := 0) hX dX9_moved_2 (by decide) ?_
  refine j_ldc2 (pc := 3) (v := (2)) hX k_RX9_152 dX9_moved_3 ?_
  refine j_callS (pc := 6) hX kX9_isIn kSX9_isIn l_RX9_105 (fun l => c_X9_isIn G ((nI 1).toInt64) 0 (2) (rngB (nI 1) (0) (2)) (inL_of (toL _) (show ((0) : Int64).toInt = 0 from by decide) (show ((2) : Int64).toInt = 2 from by decide)) l) [] [0, 1, 2, 3, 4, 5] [] rfl rfl rfl rfl ⟨rfl, rfl, by decide⟩ rfl rfl (Nat.le_of_ble_eq_true rfl) dX9_moved_6 (fun v w hq => ?_)
  obtain ⟨rfl, rfl⟩ := hq
  refine j_ws [0, 1, 2, 3, 4, 5] (ws' := [(md, .inr (9, [.int (nI W), .int (nI H), .int t, .int (nI m), .int (nI k), .ref zc, .ref zr, .ref zb, .ref z1, .ref z2, .ref z3, .ref z4, .ref z5, .ref zm, .ref zmr, .ref zmb, .int mt, .ref zca, .ref zcw, .int (nI c), .ref zg, .ref zt, .ref zs, .ref zf, .ref zy, .ref zso, .ref zsf, .ref zsm, .int nt, .int nsh, .ref ztp, .ref zrw, .ref zpp, .int (nI tn), .int (nI pn), .int rdw, .int rdh, .ref zsz, .ref zit, .ref zk, .int (bI itk)])), (zc, ia G 16 f), (zr, ia G 16 (fun ι => nI (p ι))), (zm, ia G 16 mf), (zmr, ia G 16 mrf), (zmb, ia G 16 mbf)]) rfl rfl ?_
  refine j_ifB_ne (pc := 9) (tgt := 14) hX dX9_moved_9 (by decide) (fun c9 => ?_) (fun c9 => by rw [rng_t (x := nI 1) (A := 0) (B := 2) (by decide)] at c9; cases c9)
  refine j_aload_n (pc := 14) hX dX9_moved_14 0 rfl ?_
  refine j_callV (pc := 15) hX kX9_minds kVX9_minds l_RX9_189 (fun l => c_X9_minds G md W H t m k zc zr zb z1 z2 z3 z4 z5 zm zmr zmb mt zca zcw c zg zt zs zf zy zso zsf zsm nt nsh ztp zrw zpp tn pn rdw rdh zsz zit zk itk f p mf mrf mbf q (by assumption) l) [0, 1, 2, 3, 4, 5] [] [] rfl 0 9 rfl rfl rfl rfl rfl rfl ⟨rfl, rfl, by decide⟩ rfl rfl (Nat.le_of_ble_eq_true rfl) dX9_moved_15 (fun v w hq => ?_)
  obtain ⟨rfl, rfl⟩ := hq
  refine j_ws [0, 1, 2, 3, 4, 5] (ws' := [(md, .inr (9, [.int (nI W), .int (nI H), .int t, .int (nI m), .int (nI k), .ref zc, .ref zr, .ref zb, .ref z1, .ref z2, .ref z3, .ref z4, .ref z5, .ref zm, .ref zmr, .ref zmb, .int t, .ref zca, .ref zcw, .int (nI c), .ref zg, .ref zt, .ref zs, .ref zf, .ref zy, .ref zso, .ref zsf, .ref zsm, .int nt, .int nsh, .ref ztp, .ref zrw, .ref zpp, .int (nI tn), .int (nI pn), .int rdw, .int rdh, .ref zsz, .ref zit, .ref zk, .int (bI itk)])), (zc, ia G 16 f), (zr, ia G 16 (fun ι => nI (p ι))), (zm, ia G 16 f), (zmr, ia G 16 (fun ι => nI (p ι))), (zmb, ia G 16 (fun ι => nI (q ι)))]) rfl rfl ?_
  refine j_iconstN (pc := 18) (j := 2) hX dX9_moved_18 rfl ?_
  refine j_istore_n (pc := 19) (lv' := [(2, .int (nI 2)), (0, .ref md), (1, .int (nI 1))]) hX dX9_moved_19 (by decide) rfl ?_
  have L20 : ∀ (m20 : Nat) (n cc : Nat) (t3 : Int32) (f3 : Nat → Int32) (hn : n = 2 + 2 * (32 - cc) ∧ cc ≤ 32) (ht3 : t3 = t + nI (n - 2)) (h3 : f3 = gF W H p t (n - 2) f) (hag : mvS W H p t f = fst2 (fun n => mvAt W H p t f n) n cc), cc < m20 → J X G 4 0 0 [(md, .inr (9, [.int (nI W), .int (nI H), .int t, .int (nI m), .int (nI k), .ref zc, .ref zr, .ref zb, .ref z1, .ref z2, .ref z3, .ref z4, .ref z5, .ref zm, .ref zmr, .ref zmb, .int t3, .ref zca, .ref zcw, .int (nI c), .ref zg, .ref zt, .ref zs, .ref zf, .ref zy, .ref zso, .ref zsf, .ref zsm, .int nt, .int nsh, .ref ztp, .ref zrw, .ref zpp, .int (nI tn), .int (nI pn), .int rdw, .int rdh, .ref zsz, .ref zit, .ref zk, .int (bI itk)])), (zc, ia G 16 f), (zr, ia G 16 (fun ι => nI (p ι))), (zm, ia G 16 f3), (zmr, ia G 16 (fun ι => nI (p ι))), (zmb, ia G 16 (fun ι => nI (q ι)))] [(0, .ref md), (1, .int (nI 1)), (2, .int (nI n))] 20 [] := by
    intro m20
    induction m20 with
    | zero => intro n cc t3 f3 hn ht3 h3 hag hm20; exact absurd hm20 (Nat.not_lt_zero _)
    | succ m20 ih20 =>
      intro n cc t3 f3 hn ht3 h3 hag hm20
      refine j_iload_n (pc := 20) hX dX9_moved_20 2 rfl ?_
      refine j_bipush (pc := 21) (v := nI 64) hX dX9_moved_21 (by decide) ?_
      refine j_icmp_gt (pc := 23) (tgt := 71) hX dX9_moved_23 (by decide) (nI_toInt (n := n) (by omega)) (nI_toInt (n := 64) (by decide)) (fun c23 => ?_) (fun c23 => ?_)
      · skip
        refine j_bipush (pc := 71) (v := (-5)) hX dX9_moved_71 (by decide) ?_
        exact j_iret (pc := 73) hX hR dX9_moved_73 ⟨t3, f3, congrArg some (show Value.int (-5) = Value.int (mvR (mvS W H p t f) 1) from by rw [hag, show cc = 0 from by omega]; rfl), rfl⟩
      · skip
        refine j_aload_n (pc := 26) hX dX9_moved_26 0 rfl ?_
        refine j_iconstN (pc := 27) (j := 2) hX dX9_moved_27 rfl ?_
        refine j_callV (pc := 28) hX kX9_goes kVX9_goes l_RX9_192 (fun l => c_X9_goes G md W H t m k zc zr zb z1 z2 z3 z4 z5 zm zmr zmb t3 zca zcw c zg zt zs zf zy zso zsf zsm nt nsh ztp zrw zpp tn pn rdw rdh zsz zit zk itk f3 p q (nI 2) (by omega) (by omega) (by omega) (by omega) (by omega) (by omega) (by first | omega | (rw [nI_toInt (by omega)]; omega)) l) [0, 3, 4, 5] [1, 2] [] rfl 0 9 rfl rfl rfl rfl rfl rfl ⟨rfl, rfl, by decide⟩ rfl rfl (Nat.le_of_ble_eq_true rfl) dX9_moved_28 (fun v w hq => ?_)
        obtain ⟨rfl, rfl⟩ := hq
        refine j_ws [2, 0, 1, 3, 4, 5] (ws' := [(md, .inr (9, [.int (nI W), .int (nI H), .int t, .int (nI m), .int (nI k), .ref zc, .ref zr, .ref zb, .ref z1, .ref z2, .ref z3, .ref z4, .ref z5, .ref zm, .ref zmr, .ref zmb, .int (t3 + (nI 2)), .ref zca, .ref zcw, .int (nI c), .ref zg, .ref zt, .ref zs, .ref zf, .ref zy, .ref zso, .ref zsf, .ref zsm, .int nt, .int nsh, .ref ztp, .ref zrw, .ref zpp, .int (nI tn), .int (nI pn), .int rdw, .int rdh, .ref zsz, .ref zit, .ref zk, .int (bI itk)])), (zc, ia G 16 f), (zr, ia G 16 (fun ι => nI (p ι))), (zm, ia G 16 (goF W H p q t3 (nI 2) f3)), (zmr, ia G 16 (fun ι => nI (p ι))), (zmb, ia G 16 (fun ι => nI (q ι)))]) rfl rfl ?_
        have hgn : goF W H p q t3 (nI 2) f3 = gF W H p t n f := by rw [h3, ht3, goF_on (by omega), show n - 2 + 2 = n from by omega]
        refine j_aload_n (pc := 31) hX dX9_moved_31 0 rfl ?_
        refine j_callV (pc := 32) hX kX9_shift kVX9_shift l_RX9_220 (fun l => c_X9_shift G md W H t m k zc zr zb z1 z2 z3 z4 z5 zm zmr zmb (t3 + (nI 2)) zca zcw c zg zt zs zf zy zso zsf zsm nt nsh ztp zrw zpp tn pn rdw rdh zsz zit zk itk f (goF W H p q t3 (nI 2) f3) (by omega) (by omega) (by omega) (by omega) (by omega) (by omega) (by assumption) (by rw [hgn]; exact gF_lt hW2 hW3 hf _) l) [0, 1, 3] [2, 4, 5] [] rfl 0 9 rfl rfl rfl rfl rfl rfl ⟨rfl, rfl, by decide⟩ rfl rfl (Nat.le_of_ble_eq_true rfl) dX9_moved_32 (fun v w hq => ?_)
        obtain ⟨rr__32, rfl, rfl, h32_0, h32_1⟩ := hq
        refine j_ws [3, 4, 0, 5, 1, 2] (ws' := [(md, .inr (9, [.int (nI W), .int (nI H), .int t, .int (nI m), .int (nI k), .ref zc, .ref zr, .ref zb, .ref z1, .ref z2, .ref z3, .ref z4, .ref z5, .ref zm, .ref zmr, .ref zmb, .int (t3 + (nI 2)), .ref zca, .ref zcw, .int (nI c), .ref zg, .ref zt, .ref zs, .ref zf, .ref zy, .ref zso, .ref zsf, .ref zsm, .int nt, .int nsh, .ref ztp, .ref zrw, .ref zpp, .int (nI tn), .int (nI pn), .int rdw, .int rdh, .ref zsz, .ref zit, .ref zk, .int (bI itk)])), (zc, ia G 16 f), (zr, ia G 16 (fun ι => nI (p ι))), (zm, ia G 16 (goF W H p q t3 (nI 2) f3)), (zmr, ia G 16 (fun ι => nI (p ι))), (zmb, ia G 16 (fun ι => nI (q ι)))]) rfl rfl ?_
        refine j_istore_n (pc := 35) (lv' := [(3, .int rr__32), (0, .ref md), (1, .int (nI 1)), (2, .int (nI n))]) hX dX9_moved_35 (by decide) rfl ?_
        refine j_iload_n (pc := 36) hX dX9_moved_36 0 rfl ?_
        refine j_if_lt (pc := 37) (tgt := 65) hX dX9_moved_37 (by decide) rfl (fun c37 => ?_) (fun c37 => ?_)
        · skip
          have hnone : mvG W H (goF W H p q t3 (nI 2) f3) f = none := by cases e : mvG W H (goF W H p q t3 (nI 2) f3) f with | none => rfl | some z => exact absurd (h32_0 z.1 z.2 e).1 (fun q => by have := (h32_0 z.1 z.2 e).2; rw [q, nI_toInt (by omega)] at c37; omega)
          refine j_iinc (pc := 65) (q := 3) (v := nI (n + 2)) (lv' := [(2, .int (nI (n + 2))), (3, .int rr__32), (0, .ref md), (1, .int (nI 1))]) hX dX9_moved_65 rfl (nI_inc _ 2) (by decide) rfl ?_
          refine j_goto (pc := 68) (tgt := 20) hX dX9_moved_68 (by decide) ?_
          refine j_lv [2, 3, 0] (lv' := [(0, .ref md), (1, .int (nI 1)), (2, .int (nI (n + 2)))]) rfl ?_
          exact ih20 (n + 2) (cc - 1) (t3 + (nI 2)) (goF W H p q t3 (nI 2) f3) (by omega) (by rw [ht3, Int32.add_assoc, nI_add]; congr 2; omega) (by rw [hgn, show n + 2 - 2 = n from by omega]) (by rw [hag, fst2_n (P := fun n => mvAt W H p t f n) (by omega) (by unfold mvAt; rw [← hgn, hnone]; rfl)]) (by omega)
        · skip
          obtain ⟨⟨mx, my⟩, hd⟩ : ∃ z, mvG W H (goF W H p q t3 (nI 2) f3) f = some z := by cases e : mvG W H (goF W H p q t3 (nI 2) f3) f with | none => exact absurd (h32_1 e) (fun q => by rw [q] at c37; exact absurd c37 (by decide)) | some z => exact ⟨z, rfl⟩
          obtain ⟨he1, he2, he3⟩ := h32_0 _ _ hd
          have hres : mvS W H p t f = some (n, mx, my) := by rw [hag, fst2_s (P := fun n => mvAt W H p t f n) (by omega) (by unfold mvAt; rw [← hgn, hd]; rfl)]
          subst he1
          refine j_iload_n (pc := 40) hX dX9_moved_40 2 rfl ?_
          refine j_if_ne (pc := 41) (tgt := 48) hX dX9_moved_41 (by decide) (nI_toInt (n := 1) (by decide)) (fun c41 => ?_) (fun c41 => absurd c41 (by decide))
          refine j_iload_n (pc := 48) hX dX9_moved_48 2 rfl ?_
          refine j_iconstN (pc := 49) (j := 1) hX dX9_moved_49 rfl ?_
          refine j_icmp_ne (pc := 50) (tgt := 60) hX dX9_moved_50 (by decide) (nI_toInt (n := 1) (by decide)) (nI_toInt (n := 1) (by decide)) (fun c50 => absurd c50 (by decide)) (fun c50 => ?_)
          refine j_iload_n (pc := 53) hX dX9_moved_53 0 rfl ?_
          refine j_bipush (pc := 54) (v := nI 100) hX dX9_moved_54 (by decide) ?_
          refine j_irem (pc := 56) hX dX9_moved_56 (by decide) ?_
          refine j_topi (y := nI ((100 * my + mx) % 100)) (pk_rem (by omega) (by omega) (by omega)) ?_
          refine j_goto (pc := 57) (tgt := 64) hX dX9_moved_57 (by decide) ?_
          exact j_iret (pc := 64) hX hR dX9_moved_64 ⟨(t3 + (nI 2)), (goF W H p q t3 (nI 2) f3), congrArg some (show Value.int (nI ((100 * my + mx) % 100)) = Value.int (mvR (mvS W H p t f) 1) from by rw [hres]; first | rfl | (rw [show (100 * my + mx) % 100 = mx from by omega]; rfl) | (rw [show (100 * my + mx) / 100 = my from by omega]; rfl)), rfl⟩
  refine j_lv [1, 2, 0] (lv' := [(0, .ref md), (1, .int (nI 1)), (2, .int (nI 2))]) rfl ?_
  exact L20 (32 + 1) 2 32 t f (by omega) (add0 t) (rfl) (rfl) (Nat.lt_succ_self _)
set_option maxHeartbeats 4000000 in
set_option maxRecDepth 100000 in
theorem c_X9_moved_2 (G : GT) (md : Nat) (W : Nat) (H : Nat) (t : Int32) (m : Nat) (k : Nat) (zc : Nat) (zr : Nat) (zb : Nat) (z1 : Nat) (z2 : Nat) (z3 : Nat) (z4 : Nat) (z5 : Nat) (zm : Nat) (zmr : Nat) (zmb : Nat) (mt : Int32) (zca : Nat) (zcw : Nat) (c : Nat) (zg : Nat) (zt : Nat) (zs : Nat) (zf : Nat) (zy : Nat) (zso : Nat) (zsf : Nat) (zsm : Nat) (nt : Int32) (nsh : Int32) (ztp : Nat) (zrw : Nat) (zpp : Nat) (tn : Nat) (pn : Nat) (rdw : Int32) (rdh : Int32) (zsz : Nat) (zit : Nat) (zk : Nat) (itk : Bool) (f : Nat → Int32) (p : Nat → Nat) (mf : Nat → Int32) (mrf : Nat → Int32) (mbf : Nat → Int32) (q : Nat → Nat) (hW1 : 2 ≤ W) (hW2 : W ≤ 16) (hH1 : 2 ≤ H) (hH2 : H ≤ 16) (hW3 : W % 2 = 0) (hH3 : H % 2 = 0) (hp : isP p q) (hf : ∀ y, rN (f y) < 2 ^ W) (l : Launch) : CT l G yX9_moved cX9_moved 4 (some .int) { frames := 4, cells := 0, slots := 0, locals := 95 } [.ref md, .int (nI 2)] [(md, .inr (9, [.int (nI W), .int (nI H), .int t, .int (nI m), .int (nI k), .ref zc, .ref zr, .ref zb, .ref z1, .ref z2, .ref z3, .ref z4, .ref z5, .ref zm, .ref zmr, .ref zmb, .int mt, .ref zca, .ref zcw, .int (nI c), .ref zg, .ref zt, .ref zs, .ref zf, .ref zy, .ref zso, .ref zsf, .ref zsm, .int nt, .int nsh, .ref ztp, .ref zrw, .ref zpp, .int (nI tn), .int (nI pn), .int rdw, .int rdh, .ref zsz, .ref zit, .ref zk, .int (bI itk)])), (zc, ia G 16 f), (zr, ia G 16 (fun ι => nI (p ι))), (zm, ia G 16 mf), (zmr, ia G 16 mrf), (zmb, ia G 16 mbf)] (fun vv ww => ∃ (mt2 : Int32) (mf2 : Nat → Int32), vv = some (.int (mvR (mvS W H p t f) 2)) ∧ ww = [(md, .inr (9, [.int (nI W), .int (nI H), .int t, .int (nI m), .int (nI k), .ref zc, .ref zr, .ref zb, .ref z1, .ref z2, .ref z3, .ref z4, .ref z5, .ref zm, .ref zmr, .ref zmb, .int mt2, .ref zca, .ref zcw, .int (nI c), .ref zg, .ref zt, .ref zs, .ref zf, .ref zy, .ref zso, .ref zsf, .ref zsm, .int nt, .int nsh, .ref ztp, .ref zrw, .ref zpp, .int (nI tn), .int (nI pn), .int rdw, .int rdh, .ref zsz, .ref zit, .ref zk, .int (bI itk)])), (zc, ia G 16 f), (zr, ia G 16 (fun ι => nI (p ι))), (zm, ia G 16 mf2), (zmr, ia G 16 (fun ι => nI (p ι))), (zmb, ia G 16 (fun ι => nI (q ι)))]) := by
  refine CT.of (lv := [(0, .ref md), (1, .int (nI 2))]) RX9 "moved" rfl rfl (by decide +kernel) (Nat.le_of_ble_eq_true rfl) rfl (fun X hX hR => ?_)
  refine j_iload_n (pc := 0) hX dX9_moved_0 1 rfl ?_
  refine j_i2l (pc := 1) hX dX9_moved_1 ?_
  refine j_lconst (pc := 2) (v := 0) hX dX9_moved_2 (by decide) ?_
  refine j_ldc2 (pc := 3) (v := (2)) hX k_RX9_152 dX9_moved_3 ?_
  refine j_callS (pc := 6) hX kX9_isIn kSX9_isIn l_RX9_105 (fun l => c_X9_isIn G ((nI 2).toInt64) 0 (2) (rngB (nI 2) (0) (2)) (inL_of (toL _) (show ((0) : Int64).toInt = 0 from by decide) (show ((2) : Int64).toInt = 2 from by decide)) l) [] [0, 1, 2, 3, 4, 5] [] rfl rfl rfl rfl ⟨rfl, rfl, by decide⟩ rfl rfl (Nat.le_of_ble_eq_true rfl) dX9_moved_6 (fun v w hq => ?_)
  obtain ⟨rfl, rfl⟩ := hq
  refine j_ws [0, 1, 2, 3, 4, 5] (ws' := [(md, .inr (9, [.int (nI W), .int (nI H), .int t, .int (nI m), .int (nI k), .ref zc, .ref zr, .ref zb, .ref z1, .ref z2, .ref z3, .ref z4, .ref z5, .ref zm, .ref zmr, .ref zmb, .int mt, .ref zca, .ref zcw, .int (nI c), .ref zg, .ref zt, .ref zs, .ref zf, .ref zy, .ref zso, .ref zsf, .ref zsm, .int nt, .int nsh, .ref ztp, .ref zrw, .ref zpp, .int (nI tn), .int (nI pn), .int rdw, .int rdh, .ref zsz, .ref zit, .ref zk, .int (bI itk)])), (zc, ia G 16 f), (zr, ia G 16 (fun ι => nI (p ι))), (zm, ia G 16 mf), (zmr, ia G 16 mrf), (zmb, ia G 16 mbf)]) rfl rfl ?_
  refine j_ifB_ne (pc := 9) (tgt := 14) hX dX9_moved_9 (by decide) (fun c9 => ?_) (fun c9 => by rw [rng_t (x := nI 2) (A := 0) (B := 2) (by decide)] at c9; cases c9)
  refine j_aload_n (pc := 14) hX dX9_moved_14 0 rfl ?_
  refine j_callV (pc := 15) hX kX9_minds kVX9_minds l_RX9_189 (fun l => c_X9_minds G md W H t m k zc zr zb z1 z2 z3 z4 z5 zm zmr zmb mt zca zcw c zg zt zs zf zy zso zsf zsm nt nsh ztp zrw zpp tn pn rdw rdh zsz zit zk itk f p mf mrf mbf q (by assumption) l) [0, 1, 2, 3, 4, 5] [] [] rfl 0 9 rfl rfl rfl rfl rfl rfl ⟨rfl, rfl, by decide⟩ rfl rfl (Nat.le_of_ble_eq_true rfl) dX9_moved_15 (fun v w hq => ?_)
  obtain ⟨rfl, rfl⟩ := hq
  refine j_ws [0, 1, 2, 3, 4, 5] (ws' := [(md, .inr (9, [.int (nI W), .int (nI H), .int t, .int (nI m), .int (nI k), .ref zc, .ref zr, .ref zb, .ref z1, .ref z2, .ref z3, .ref z4, .ref z5, .ref zm, .ref zmr, .ref zmb, .int t, .ref zca, .ref zcw, .int (nI c), .ref zg, .ref zt, .ref zs, .ref zf, .ref zy, .ref zso, .ref zsf, .ref zsm, .int nt, .int nsh, .ref ztp, .ref zrw, .ref zpp, .int (nI tn), .int (nI pn), .int rdw, .int rdh, .ref zsz, .ref zit, .ref zk, .int (bI itk)])), (zc, ia G 16 f), (zr, ia G 16 (fun ι => nI (p ι))), (zm, ia G 16 f), (zmr, ia G 16 (fun ι => nI (p ι))), (zmb, ia G 16 (fun ι => nI (q ι)))]) rfl rfl ?_
  refine j_iconstN (pc := 18) (j := 2) hX dX9_moved_18 rfl ?_
  refine j_istore_n (pc := 19) (lv' := [(2, .int (nI 2)), (0, .ref md), (1, .int (nI 2))]) hX dX9_moved_19 (by decide) rfl ?_
  have L20 : ∀ (m20 : Nat) (n cc : Nat) (t3 : Int32) (f3 : Nat → Int32) (hn : n = 2 + 2 * (32 - cc) ∧ cc ≤ 32) (ht3 : t3 = t + nI (n - 2)) (h3 : f3 = gF W H p t (n - 2) f) (hag : mvS W H p t f = fst2 (fun n => mvAt W H p t f n) n cc), cc < m20 → J X G 4 0 0 [(md, .inr (9, [.int (nI W), .int (nI H), .int t, .int (nI m), .int (nI k), .ref zc, .ref zr, .ref zb, .ref z1, .ref z2, .ref z3, .ref z4, .ref z5, .ref zm, .ref zmr, .ref zmb, .int t3, .ref zca, .ref zcw, .int (nI c), .ref zg, .ref zt, .ref zs, .ref zf, .ref zy, .ref zso, .ref zsf, .ref zsm, .int nt, .int nsh, .ref ztp, .ref zrw, .ref zpp, .int (nI tn), .int (nI pn), .int rdw, .int rdh, .ref zsz, .ref zit, .ref zk, .int (bI itk)])), (zc, ia G 16 f), (zr, ia G 16 (fun ι => nI (p ι))), (zm, ia G 16 f3), (zmr, ia G 16 (fun ι => nI (p ι))), (zmb, ia G 16 (fun ι => nI (q ι)))] [(0, .ref md), (1, .int (nI 2)), (2, .int (nI n))] 20 [] := by
    intro m20
    induction m20 with
    | zero => intro n cc t3 f3 hn ht3 h3 hag hm20; exact absurd hm20 (Nat.not_lt_zero _)
    | succ m20 ih20 =>
      intro n cc t3 f3 hn ht3 h3 hag hm20
      refine j_iload_n (pc := 20) hX dX9_moved_20 2 rfl ?_
      refine j_bipush (pc := 21) (v := nI 64) hX dX9_moved_21 (by decide) ?_
      refine j_icmp_gt (pc := 23) (tgt := 71) hX dX9_moved_23 (by decide) (nI_toInt (n := n) (by omega)) (nI_toInt (n := 64) (by decide)) (fun c23 => ?_) (fun c23 => ?_)
      · skip
        refine j_bipush (pc := 71) (v := (-5)) hX dX9_moved_71 (by decide) ?_
        exact j_iret (pc := 73) hX hR dX9_moved_73 ⟨t3, f3, congrArg some (show Value.int (-5) = Value.int (mvR (mvS W H p t f) 2) from by rw [hag, show cc = 0 from by omega]; rfl), rfl⟩
      · skip
        refine j_aload_n (pc := 26) hX dX9_moved_26 0 rfl ?_
        refine j_iconstN (pc := 27) (j := 2) hX dX9_moved_27 rfl ?_
        refine j_callV (pc := 28) hX kX9_goes kVX9_goes l_RX9_192 (fun l => c_X9_goes G md W H t m k zc zr zb z1 z2 z3 z4 z5 zm zmr zmb t3 zca zcw c zg zt zs zf zy zso zsf zsm nt nsh ztp zrw zpp tn pn rdw rdh zsz zit zk itk f3 p q (nI 2) (by omega) (by omega) (by omega) (by omega) (by omega) (by omega) (by first | omega | (rw [nI_toInt (by omega)]; omega)) l) [0, 3, 4, 5] [1, 2] [] rfl 0 9 rfl rfl rfl rfl rfl rfl ⟨rfl, rfl, by decide⟩ rfl rfl (Nat.le_of_ble_eq_true rfl) dX9_moved_28 (fun v w hq => ?_)
        obtain ⟨rfl, rfl⟩ := hq
        refine j_ws [2, 0, 1, 3, 4, 5] (ws' := [(md, .inr (9, [.int (nI W), .int (nI H), .int t, .int (nI m), .int (nI k), .ref zc, .ref zr, .ref zb, .ref z1, .ref z2, .ref z3, .ref z4, .ref z5, .ref zm, .ref zmr, .ref zmb, .int (t3 + (nI 2)), .ref zca, .ref zcw, .int (nI c), .ref zg, .ref zt, .ref zs, .ref zf, .ref zy, .ref zso, .ref zsf, .ref zsm, .int nt, .int nsh, .ref ztp, .ref zrw, .ref zpp, .int (nI tn), .int (nI pn), .int rdw, .int rdh, .ref zsz, .ref zit, .ref zk, .int (bI itk)])), (zc, ia G 16 f), (zr, ia G 16 (fun ι => nI (p ι))), (zm, ia G 16 (goF W H p q t3 (nI 2) f3)), (zmr, ia G 16 (fun ι => nI (p ι))), (zmb, ia G 16 (fun ι => nI (q ι)))]) rfl rfl ?_
        have hgn : goF W H p q t3 (nI 2) f3 = gF W H p t n f := by rw [h3, ht3, goF_on (by omega), show n - 2 + 2 = n from by omega]
        refine j_aload_n (pc := 31) hX dX9_moved_31 0 rfl ?_
        refine j_callV (pc := 32) hX kX9_shift kVX9_shift l_RX9_220 (fun l => c_X9_shift G md W H t m k zc zr zb z1 z2 z3 z4 z5 zm zmr zmb (t3 + (nI 2)) zca zcw c zg zt zs zf zy zso zsf zsm nt nsh ztp zrw zpp tn pn rdw rdh zsz zit zk itk f (goF W H p q t3 (nI 2) f3) (by omega) (by omega) (by omega) (by omega) (by omega) (by omega) (by assumption) (by rw [hgn]; exact gF_lt hW2 hW3 hf _) l) [0, 1, 3] [2, 4, 5] [] rfl 0 9 rfl rfl rfl rfl rfl rfl ⟨rfl, rfl, by decide⟩ rfl rfl (Nat.le_of_ble_eq_true rfl) dX9_moved_32 (fun v w hq => ?_)
        obtain ⟨rr__32, rfl, rfl, h32_0, h32_1⟩ := hq
        refine j_ws [3, 4, 0, 5, 1, 2] (ws' := [(md, .inr (9, [.int (nI W), .int (nI H), .int t, .int (nI m), .int (nI k), .ref zc, .ref zr, .ref zb, .ref z1, .ref z2, .ref z3, .ref z4, .ref z5, .ref zm, .ref zmr, .ref zmb, .int (t3 + (nI 2)), .ref zca, .ref zcw, .int (nI c), .ref zg, .ref zt, .ref zs, .ref zf, .ref zy, .ref zso, .ref zsf, .ref zsm, .int nt, .int nsh, .ref ztp, .ref zrw, .ref zpp, .int (nI tn), .int (nI pn), .int rdw, .int rdh, .ref zsz, .ref zit, .ref zk, .int (bI itk)])), (zc, ia G 16 f), (zr, ia G 16 (fun ι => nI (p ι))), (zm, ia G 16 (goF W H p q t3 (nI 2) f3)), (zmr, ia G 16 (fun ι => nI (p ι))), (zmb, ia G 16 (fun ι => nI (q ι)))]) rfl rfl ?_
        refine j_istore_n (pc := 35) (lv' := [(3, .int rr__32), (0, .ref md), (1, .int (nI 2)), (2, .int (nI n))]) hX dX9_moved_35 (by decide) rfl ?_
        refine j_iload_n (pc := 36) hX dX9_moved_36 0 rfl ?_
        refine j_if_lt (pc := 37) (tgt := 65) hX dX9_moved_37 (by decide) rfl (fun c37 => ?_) (fun c37 => ?_)
        · skip
          have hnone : mvG W H (goF W H p q t3 (nI 2) f3) f = none := by cases e : mvG W H (goF W H p q t3 (nI 2) f3) f with | none => rfl | some z => exact absurd (h32_0 z.1 z.2 e).1 (fun q => by have := (h32_0 z.1 z.2 e).2; rw [q, nI_toInt (by omega)] at c37; omega)
          refine j_iinc (pc := 65) (q := 3) (v := nI (n + 2)) (lv' := [(2, .int (nI (n + 2))), (3, .int rr__32), (0, .ref md), (1, .int (nI 2))]) hX dX9_moved_65 rfl (nI_inc _ 2) (by decide) rfl ?_
          refine j_goto (pc := 68) (tgt := 20) hX dX9_moved_68 (by decide) ?_
          refine j_lv [2, 3, 0] (lv' := [(0, .ref md), (1, .int (nI 2)), (2, .int (nI (n + 2)))]) rfl ?_
          exact ih20 (n + 2) (cc - 1) (t3 + (nI 2)) (goF W H p q t3 (nI 2) f3) (by omega) (by rw [ht3, Int32.add_assoc, nI_add]; congr 2; omega) (by rw [hgn, show n + 2 - 2 = n from by omega]) (by rw [hag, fst2_n (P := fun n => mvAt W H p t f n) (by omega) (by unfold mvAt; rw [← hgn, hnone]; rfl)]) (by omega)
        · skip
          obtain ⟨⟨mx, my⟩, hd⟩ : ∃ z, mvG W H (goF W H p q t3 (nI 2) f3) f = some z := by cases e : mvG W H (goF W H p q t3 (nI 2) f3) f with | none => exact absurd (h32_1 e) (fun q => by rw [q] at c37; exact absurd c37 (by decide)) | some z => exact ⟨z, rfl⟩
          obtain ⟨he1, he2, he3⟩ := h32_0 _ _ hd
          have hres : mvS W H p t f = some (n, mx, my) := by rw [hag, fst2_s (P := fun n => mvAt W H p t f n) (by omega) (by unfold mvAt; rw [← hgn, hd]; rfl)]
          subst he1
          refine j_iload_n (pc := 40) hX dX9_moved_40 2 rfl ?_
          refine j_if_ne (pc := 41) (tgt := 48) hX dX9_moved_41 (by decide) (nI_toInt (n := 2) (by decide)) (fun c41 => ?_) (fun c41 => absurd c41 (by decide))
          refine j_iload_n (pc := 48) hX dX9_moved_48 2 rfl ?_
          refine j_iconstN (pc := 49) (j := 1) hX dX9_moved_49 rfl ?_
          refine j_icmp_ne (pc := 50) (tgt := 60) hX dX9_moved_50 (by decide) (nI_toInt (n := 2) (by decide)) (nI_toInt (n := 1) (by decide)) (fun c50 => ?_) (fun c50 => absurd c50 (by decide))
          refine j_iload_n (pc := 60) hX dX9_moved_60 0 rfl ?_
          refine j_bipush (pc := 61) (v := nI 100) hX dX9_moved_61 (by decide) ?_
          refine j_idiv (pc := 63) hX dX9_moved_63 (by decide) ?_
          refine j_topi (y := nI ((100 * my + mx) / 100)) (pk_div (by omega) (by omega) (by omega)) ?_
          exact j_iret (pc := 64) hX hR dX9_moved_64 ⟨(t3 + (nI 2)), (goF W H p q t3 (nI 2) f3), congrArg some (show Value.int (nI ((100 * my + mx) / 100)) = Value.int (mvR (mvS W H p t f) 2) from by rw [hres]; first | rfl | (rw [show (100 * my + mx) % 100 = mx from by omega]; rfl) | (rw [show (100 * my + mx) / 100 = my from by omega]; rfl)), rfl⟩
  refine j_lv [1, 2, 0] (lv' := [(0, .ref md), (1, .int (nI 2)), (2, .int (nI 2))]) rfl ?_
  exact L20 (32 + 1) 2 32 t f (by omega) (add0 t) (rfl) (rfl) (Nat.lt_succ_self _)
set_option maxHeartbeats 4000000 in
set_option maxRecDepth 100000 in
theorem c_X9_isMet (G : GT) (md : Nat) (W : Nat) (H : Nat) (t : Int32) (m : Nat) (k : Nat) (zc : Nat) (zr : Nat) (zb : Nat) (z1 : Nat) (z2 : Nat) (z3 : Nat) (z4 : Nat) (z5 : Nat) (zm : Nat) (zmr : Nat) (zmb : Nat) (mt : Int32) (zca : Nat) (zcw : Nat) (c : Nat) (zg : Nat) (zt : Nat) (zs : Nat) (zf : Nat) (zy : Nat) (zso : Nat) (zsf : Nat) (zsm : Nat) (nt : Int32) (nsh : Int32) (ztp : Nat) (zrw : Nat) (zpp : Nat) (tn : Nat) (pn : Nat) (rdw : Int32) (rdh : Int32) (zsz : Nat) (zit : Nat) (zk : Nat) (itk : Bool) (mf : Nat → Int32) (gu : Nat → Int32) (u : Nat) (K : Nat → Nat → Int32) (hW1 : 2 ≤ W) (hW2 : W ≤ 16) (hH1 : 2 ≤ H) (hH2 : H ≤ 16) (hu : u ≤ 65) (hk : holds H u K gu) (l : Launch) : CT l G yX9_isMet cX9_isMet 4 (some .boolean) { frames := 0, cells := 0, slots := 0, locals := 0 } [.ref md, .int (nI u)] [(md, .inr (9, [.int (nI W), .int (nI H), .int t, .int (nI m), .int (nI k), .ref zc, .ref zr, .ref zb, .ref z1, .ref z2, .ref z3, .ref z4, .ref z5, .ref zm, .ref zmr, .ref zmb, .int mt, .ref zca, .ref zcw, .int (nI c), .ref zg, .ref zt, .ref zs, .ref zf, .ref zy, .ref zso, .ref zsf, .ref zsm, .int nt, .int nsh, .ref ztp, .ref zrw, .ref zpp, .int (nI tn), .int (nI pn), .int rdw, .int rdh, .ref zsz, .ref zit, .ref zk, .int (bI itk)])), (zm, ia G 16 mf), (zg, ia G 1040 gu)] (fun vv ww => vv = some (.int (bI (anyB u (fun j => allB H (fun y => decide (K j y = mf y)))))) ∧ ww = [(md, .inr (9, [.int (nI W), .int (nI H), .int t, .int (nI m), .int (nI k), .ref zc, .ref zr, .ref zb, .ref z1, .ref z2, .ref z3, .ref z4, .ref z5, .ref zm, .ref zmr, .ref zmb, .int mt, .ref zca, .ref zcw, .int (nI c), .ref zg, .ref zt, .ref zs, .ref zf, .ref zy, .ref zso, .ref zsf, .ref zsm, .int nt, .int nsh, .ref ztp, .ref zrw, .ref zpp, .int (nI tn), .int (nI pn), .int rdw, .int rdh, .ref zsz, .ref zit, .ref zk, .int (bI itk)])), (zm, ia G 16 mf), (zg, ia G 1040 gu)]) := by
  refine CT.of (lv := [(0, .ref md), (1, .int (nI u))]) RX9 "isMet" rfl rfl (by decide +kernel) (Nat.le_of_ble_eq_true rfl) rfl (fun X hX hR => ?_)
  refine j_iconstN (pc := 0) (j := 0) hX dX9_isMet_0 rfl ?_
  refine j_istore_n (pc := 1) (lv' := [(2, .int (nI 0)), (0, .ref md), (1, .int (nI u))]) hX dX9_isMet_1 (by decide) rfl ?_
  have L2 : ∀ (m2 : Nat) (j : Nat) (hj : j ≤ u) (hno : ∀ z, z < j → allB H (fun y => decide (K z y = mf y)) = false), u - j < m2 → J X G 4 0 0 [(md, .inr (9, [.int (nI W), .int (nI H), .int t, .int (nI m), .int (nI k), .ref zc, .ref zr, .ref zb, .ref z1, .ref z2, .ref z3, .ref z4, .ref z5, .ref zm, .ref zmr, .ref zmb, .int mt, .ref zca, .ref zcw, .int (nI c), .ref zg, .ref zt, .ref zs, .ref zf, .ref zy, .ref zso, .ref zsf, .ref zsm, .int nt, .int nsh, .ref ztp, .ref zrw, .ref zpp, .int (nI tn), .int (nI pn), .int rdw, .int rdh, .ref zsz, .ref zit, .ref zk, .int (bI itk)])), (zm, ia G 16 mf), (zg, ia G 1040 gu)] [(0, .ref md), (1, .int (nI u)), (2, .int (nI j))] 2 [] := by
    intro m2
    induction m2 with
    | zero => intro j hj hno hm2; exact absurd hm2 (Nat.not_lt_zero _)
    | succ m2 ih2 =>
      intro j hj hno hm2
      refine j_iload_n (pc := 2) hX dX9_isMet_2 2 rfl ?_
      refine j_iload_n (pc := 3) hX dX9_isMet_3 1 rfl ?_
      refine j_icmp_ge (pc := 4) (tgt := 59) hX dX9_isMet_4 (by decide) (nI_toInt (n := j) (by omega)) (nI_toInt (n := u) (by omega)) (fun c4 => ?_) (fun c4 => ?_)
      · skip
        refine j_iconstN (pc := 59) (j := 0) hX dX9_isMet_59 rfl ?_
        exact j_zret (pc := 60) hX hR (by decide) dX9_isMet_60 ⟨congrArg some (show Value.int (nI 0) = Value.int (bI (anyB u (fun j => allB H (fun y => decide (K j y = mf y))))) from bI_ff (anyB_f (fun z hz => hno z (by omega)))), rfl⟩
      · skip
        refine j_iconstN (pc := 7) (j := 0) hX dX9_isMet_7 rfl ?_
        refine j_istore_n (pc := 8) (lv' := [(3, .int (nI 0)), (0, .ref md), (1, .int (nI u)), (2, .int (nI j))]) hX dX9_isMet_8 (by decide) rfl ?_
        have L9 : ∀ (m9 : Nat) (y : Nat) (hy : y ≤ H) (hall : ∀ z, z < y → K j z = mf z), H - y < m9 → J X G 4 0 0 [(md, .inr (9, [.int (nI W), .int (nI H), .int t, .int (nI m), .int (nI k), .ref zc, .ref zr, .ref zb, .ref z1, .ref z2, .ref z3, .ref z4, .ref z5, .ref zm, .ref zmr, .ref zmb, .int mt, .ref zca, .ref zcw, .int (nI c), .ref zg, .ref zt, .ref zs, .ref zf, .ref zy, .ref zso, .ref zsf, .ref zsm, .int nt, .int nsh, .ref ztp, .ref zrw, .ref zpp, .int (nI tn), .int (nI pn), .int rdw, .int rdh, .ref zsz, .ref zit, .ref zk, .int (bI itk)])), (zm, ia G 16 mf), (zg, ia G 1040 gu)] [(0, .ref md), (1, .int (nI u)), (2, .int (nI j)), (3, .int (nI y))] 9 [] := by
          intro m9
          induction m9 with
          | zero => intro y hy hall hm9; exact absurd hm9 (Nat.not_lt_zero _)
          | succ m9 ih9 =>
            intro y hy hall hm9
            refine j_iload_n (pc := 9) hX dX9_isMet_9 3 rfl ?_
            refine j_aload_n (pc := 10) hX dX9_isMet_10 0 rfl ?_
            refine j_get (pc := 11) hX f_RX9_15 0 rfl rfl dX9_isMet_11 ?_
            refine j_icmp_ge (pc := 14) (tgt := 43) hX dX9_isMet_14 (by decide) (nI_toInt (n := y) (by omega)) (nI_toInt (n := H) (by omega)) (fun c14 => ?_) (fun c14 => ?_)
            · skip
              refine j_iload_n (pc := 43) hX dX9_isMet_43 3 rfl ?_
              refine j_aload_n (pc := 44) hX dX9_isMet_44 0 rfl ?_
              refine j_get (pc := 45) hX f_RX9_15 0 rfl rfl dX9_isMet_45 ?_
              refine j_icmp_ne (pc := 48) (tgt := 53) hX dX9_isMet_48 (by decide) (nI_toInt (n := y) (by omega)) (nI_toInt (n := H) (by omega)) (fun c48 => ?_) (fun c48 => ?_)
              · skip
                refine j_iinc (pc := 53) (q := 2) (v := nI (j + 1)) (lv' := [(2, .int (nI (j + 1))), (0, .ref md), (1, .int (nI u)), (3, .int (nI y))]) hX dX9_isMet_53 rfl (nI_inc _ 1) (by decide) rfl ?_
                refine j_goto (pc := 56) (tgt := 2) hX dX9_isMet_56 (by decide) ?_
                refine j_lv [1, 2, 0] (lv' := [(0, .ref md), (1, .int (nI u)), (2, .int (nI (j + 1)))]) rfl ?_
                exact ih2 (j + 1) (by omega) (by first | exact lt_s hno (allB_f (z := y) (by omega) (decide_eq_false (fun h => c34 (by rw [← h, ← hk j (by omega) y (by omega)])))) | (exfalso; omega)) (by omega)
              · skip
                refine j_iconstN (pc := 51) (j := 1) hX dX9_isMet_51 rfl ?_
                exact j_zret (pc := 52) hX hR (by decide) dX9_isMet_52 ⟨congrArg some (show Value.int (nI 1) = Value.int (bI (anyB u (fun j => allB H (fun y => decide (K j y = mf y))))) from by first | exact bI_tt (anyB_t (z := j) (by omega) (allB_t (fun z hz => decide_eq_true (hall z (by omega))))) | (exfalso; omega)), rfl⟩
            · skip
              refine j_aload_n (pc := 17) hX dX9_isMet_17 0 rfl ?_
              refine j_get (pc := 18) hX f_RX9_58 0 rfl rfl dX9_isMet_18 ?_
              refine j_bipush (pc := 21) (v := nI 16) hX dX9_isMet_21 (by decide) ?_
              refine j_iload_n (pc := 23) hX dX9_isMet_23 2 rfl ?_
              refine j_imul (pc := 24) hX dX9_isMet_24 ?_
              refine j_topi (y := nI (16 * j)) (pk_mul _ _) ?_
              refine j_iload_n (pc := 25) hX dX9_isMet_25 3 rfl ?_
              refine j_iadd (pc := 26) hX dX9_isMet_26 ?_
              refine j_topi (y := nI (16 * j + y)) (nI_add _ _) ?_
              refine j_ialdN (pc := 27) (j := 16 * j + y) hX 2 rfl (by omega) (by omega) dX9_isMet_27 ?_
              refine j_aload_n (pc := 28) hX dX9_isMet_28 0 rfl ?_
              refine j_get (pc := 29) hX f_RX9_43 0 rfl rfl dX9_isMet_29 ?_
              refine j_iload_n (pc := 32) hX dX9_isMet_32 3 rfl ?_
              refine j_ialdN (pc := 33) (j := y) hX 1 rfl (by omega) (by omega) dX9_isMet_33 ?_
              refine j_icmp_ne (pc := 34) (tgt := 43) hX dX9_isMet_34 (by decide) rfl rfl (fun c34 => ?_) (fun c34 => ?_)
              · skip
                refine j_iload_n (pc := 43) hX dX9_isMet_43 3 rfl ?_
                refine j_aload_n (pc := 44) hX dX9_isMet_44 0 rfl ?_
                refine j_get (pc := 45) hX f_RX9_15 0 rfl rfl dX9_isMet_45 ?_
                refine j_icmp_ne (pc := 48) (tgt := 53) hX dX9_isMet_48 (by decide) (nI_toInt (n := y) (by omega)) (nI_toInt (n := H) (by omega)) (fun c48 => ?_) (fun c48 => ?_)
                · skip
                  refine j_iinc (pc := 53) (q := 2) (v := nI (j + 1)) (lv' := [(2, .int (nI (j + 1))), (0, .ref md), (1, .int (nI u)), (3, .int (nI y))]) hX dX9_isMet_53 rfl (nI_inc _ 1) (by decide) rfl ?_
                  refine j_goto (pc := 56) (tgt := 2) hX dX9_isMet_56 (by decide) ?_
                  refine j_lv [1, 2, 0] (lv' := [(0, .ref md), (1, .int (nI u)), (2, .int (nI (j + 1)))]) rfl ?_
                  exact ih2 (j + 1) (by omega) (by first | exact lt_s hno (allB_f (z := y) (by omega) (decide_eq_false (fun h => c34 (by rw [← h, ← hk j (by omega) y (by omega)])))) | (exfalso; omega)) (by omega)
                · skip
                  refine j_iconstN (pc := 51) (j := 1) hX dX9_isMet_51 rfl ?_
                  exact j_zret (pc := 52) hX hR (by decide) dX9_isMet_52 ⟨congrArg some (show Value.int (nI 1) = Value.int (bI (anyB u (fun j => allB H (fun y => decide (K j y = mf y))))) from by first | exact bI_tt (anyB_t (z := j) (by omega) (allB_t (fun z hz => decide_eq_true (hall z (by omega))))) | (exfalso; omega)), rfl⟩
              · skip
                refine j_iinc (pc := 37) (q := 3) (v := nI (y + 1)) (lv' := [(3, .int (nI (y + 1))), (0, .ref md), (1, .int (nI u)), (2, .int (nI j))]) hX dX9_isMet_37 rfl (nI_inc _ 1) (by decide) rfl ?_
                refine j_goto (pc := 40) (tgt := 9) hX dX9_isMet_40 (by decide) ?_
                refine j_lv [1, 2, 3, 0] (lv' := [(0, .ref md), (1, .int (nI u)), (2, .int (nI j)), (3, .int (nI (y + 1)))]) rfl ?_
                exact ih9 (y + 1) (by omega) (lt_s hall (by rw [← hk j (by omega) y (by omega)]; exact Int32.toInt_inj.mp c34)) (by omega)
        refine j_lv [1, 2, 3, 0] (lv' := [(0, .ref md), (1, .int (nI u)), (2, .int (nI j)), (3, .int (nI 0))]) rfl ?_
        exact L9 ((H - 0) + 1) 0 (by omega) (fun z hz => absurd hz (Nat.not_lt_zero _)) (Nat.lt_succ_self _)
  refine j_lv [1, 2, 0] (lv' := [(0, .ref md), (1, .int (nI u)), (2, .int (nI 0))]) rfl ?_
  exact L2 ((u - 0) + 1) 0 (by omega) (fun z hz => absurd hz (Nat.not_lt_zero _)) (Nat.lt_succ_self _)
set_option maxHeartbeats 4000000 in
set_option maxRecDepth 100000 in
theorem c_X9_unlike_bad (G : GT) (md : Nat) (W : Nat) (H : Nat) (t : Int32) (m : Nat) (k : Nat) (zc : Nat) (zr : Nat) (zb : Nat) (z1 : Nat) (z2 : Nat) (z3 : Nat) (z4 : Nat) (z5 : Nat) (zm : Nat) (zmr : Nat) (zmb : Nat) (mt : Int32) (zca : Nat) (zcw : Nat) (c : Nat) (zg : Nat) (zt : Nat) (zs : Nat) (zf : Nat) (zy : Nat) (zso : Nat) (zsf : Nat) (zsm : Nat) (nt : Int32) (nsh : Int32) (ztp : Nat) (zrw : Nat) (zpp : Nat) (tn : Nat) (pn : Nat) (rdw : Int32) (rdh : Int32) (zsz : Nat) (zit : Nat) (zk : Nat) (itk : Bool) (w : Int32) (hb : w.toInt < 0 ∨ 64 < w.toInt) (l : Launch) : CT l G yX9_unlike cX9_unlike 5 (some .int) { frames := 4, cells := 0, slots := 0, locals := 95 } [.ref md, .int w] [(md, .inr (9, [.int (nI W), .int (nI H), .int t, .int (nI m), .int (nI k), .ref zc, .ref zr, .ref zb, .ref z1, .ref z2, .ref z3, .ref z4, .ref z5, .ref zm, .ref zmr, .ref zmb, .int mt, .ref zca, .ref zcw, .int (nI c), .ref zg, .ref zt, .ref zs, .ref zf, .ref zy, .ref zso, .ref zsf, .ref zsm, .int nt, .int nsh, .ref ztp, .ref zrw, .ref zpp, .int (nI tn), .int (nI pn), .int rdw, .int rdh, .ref zsz, .ref zit, .ref zk, .int (bI itk)]))] (fun vv ww => vv = some (.int (-2)) ∧ ww = [(md, .inr (9, [.int (nI W), .int (nI H), .int t, .int (nI m), .int (nI k), .ref zc, .ref zr, .ref zb, .ref z1, .ref z2, .ref z3, .ref z4, .ref z5, .ref zm, .ref zmr, .ref zmb, .int mt, .ref zca, .ref zcw, .int (nI c), .ref zg, .ref zt, .ref zs, .ref zf, .ref zy, .ref zso, .ref zsf, .ref zsm, .int nt, .int nsh, .ref ztp, .ref zrw, .ref zpp, .int (nI tn), .int (nI pn), .int rdw, .int rdh, .ref zsz, .ref zit, .ref zk, .int (bI itk)]))]) := by
  refine CT.of (lv := [(0, .ref md), (1, .int w)]) RX9 "unlike" rfl rfl (by decide +kernel) (Nat.le_of_ble_eq_true rfl) rfl (fun X hX hR => ?_)
  refine j_iload_n (pc := 0) hX dX9_unlike_0 1 rfl ?_
  refine j_i2l (pc := 1) hX dX9_unlike_1 ?_
  refine j_lconst (pc := 2) (v := 0) hX dX9_unlike_2 (by decide) ?_
  refine j_ldc2 (pc := 3) (v := (64)) hX k_RX9_223 dX9_unlike_3 ?_
  refine j_callS (pc := 6) hX kX9_isIn kSX9_isIn l_RX9_105 (fun l => c_X9_isIn G w.toInt64 0 (64) (rngB w (0) (64)) (inL_of (toL _) (show ((0) : Int64).toInt = 0 from by decide) (show ((64) : Int64).toInt = 64 from by decide)) l) [] [0] [] rfl rfl rfl rfl ⟨rfl, rfl, by decide⟩ rfl rfl (Nat.le_of_ble_eq_true rfl) dX9_unlike_6 (fun v w hq => ?_)
  obtain ⟨rfl, rfl⟩ := hq
  refine j_ws [0] (ws' := [(md, .inr (9, [.int (nI W), .int (nI H), .int t, .int (nI m), .int (nI k), .ref zc, .ref zr, .ref zb, .ref z1, .ref z2, .ref z3, .ref z4, .ref z5, .ref zm, .ref zmr, .ref zmb, .int mt, .ref zca, .ref zcw, .int (nI c), .ref zg, .ref zt, .ref zs, .ref zf, .ref zy, .ref zso, .ref zsf, .ref zsm, .int nt, .int nsh, .ref ztp, .ref zrw, .ref zpp, .int (nI tn), .int (nI pn), .int rdw, .int rdh, .ref zsz, .ref zit, .ref zk, .int (bI itk)]))]) rfl rfl ?_
  refine j_ifB_ne (pc := 9) (tgt := 15) hX dX9_unlike_9 (by decide) (fun c9 => by exfalso; have := of_decide_eq_true c9; omega) (fun c9 => ?_)
  refine j_bipush (pc := 12) (v := (-2)) hX dX9_unlike_12 (by decide) ?_
  exact j_iret (pc := 14) hX hR dX9_unlike_14 ⟨rfl, rfl⟩
set_option maxHeartbeats 4000000 in
set_option maxRecDepth 100000 in
theorem c_X9_unlike_ok (G : GT) (md : Nat) (W : Nat) (H : Nat) (t : Int32) (m : Nat) (k : Nat) (zc : Nat) (zr : Nat) (zb : Nat) (z1 : Nat) (z2 : Nat) (z3 : Nat) (z4 : Nat) (z5 : Nat) (zm : Nat) (zmr : Nat) (zmb : Nat) (mt : Int32) (zca : Nat) (zcw : Nat) (c : Nat) (zg : Nat) (zt : Nat) (zs : Nat) (zf : Nat) (zy : Nat) (zso : Nat) (zsf : Nat) (zsm : Nat) (nt : Int32) (nsh : Int32) (ztp : Nat) (zrw : Nat) (zpp : Nat) (tn : Nat) (pn : Nat) (rdw : Int32) (rdh : Int32) (zsz : Nat) (zit : Nat) (zk : Nat) (itk : Bool) (f : Nat → Int32) (p : Nat → Nat) (mf : Nat → Int32) (mrf : Nat → Int32) (mbf : Nat → Int32) (gu : Nat → Int32) (q : Nat → Nat) (n : Nat) (hW1 : 2 ≤ W) (hW2 : W ≤ 16) (hH1 : 2 ≤ H) (hH2 : H ≤ 16) (hW3 : W % 2 = 0) (hH3 : H % 2 = 0) (hp : isP p q) (hn : n ≤ 64) (l : Launch) : CT l G yX9_unlike cX9_unlike 5 (some .int) { frames := 4, cells := 0, slots := 0, locals := 95 } [.ref md, .int (nI n)] [(md, .inr (9, [.int (nI W), .int (nI H), .int t, .int (nI m), .int (nI k), .ref zc, .ref zr, .ref zb, .ref z1, .ref z2, .ref z3, .ref z4, .ref z5, .ref zm, .ref zmr, .ref zmb, .int mt, .ref zca, .ref zcw, .int (nI c), .ref zg, .ref zt, .ref zs, .ref zf, .ref zy, .ref zso, .ref zsf, .ref zsm, .int nt, .int nsh, .ref ztp, .ref zrw, .ref zpp, .int (nI tn), .int (nI pn), .int rdw, .int rdh, .ref zsz, .ref zit, .ref zk, .int (bI itk)])), (zc, ia G 16 f), (zr, ia G 16 (fun ι => nI (p ι))), (zm, ia G 16 mf), (zmr, ia G 16 mrf), (zmb, ia G 16 mbf), (zg, ia G 1040 gu)] (fun vv ww => ∃ (mt2 : Int32) (mf2 : Nat → Int32) (gu2 : Nat → Int32), vv = some (.int (nI ((unS H (fun j => gF W H p t j f) n).1))) ∧ ww = [(md, .inr (9, [.int (nI W), .int (nI H), .int t, .int (nI m), .int (nI k), .ref zc, .ref zr, .ref zb, .ref z1, .ref z2, .ref z3, .ref z4, .ref z5, .ref zm, .ref zmr, .ref zmb, .int mt2, .ref zca, .ref zcw, .int (nI c), .ref zg, .ref zt, .ref zs, .ref zf, .ref zy, .ref zso, .ref zsf, .ref zsm, .int nt, .int nsh, .ref ztp, .ref zrw, .ref zpp, .int (nI tn), .int (nI pn), .int rdw, .int rdh, .ref zsz, .ref zit, .ref zk, .int (bI itk)])), (zc, ia G 16 f), (zr, ia G 16 (fun ι => nI (p ι))), (zm, ia G 16 mf2), (zmr, ia G 16 (fun ι => nI (p ι))), (zmb, ia G 16 (fun ι => nI (q ι))), (zg, ia G 1040 gu2)]) := by
  refine CT.of (lv := [(0, .ref md), (1, .int (nI n))]) RX9 "unlike" rfl rfl (by decide +kernel) (Nat.le_of_ble_eq_true rfl) rfl (fun X hX hR => ?_)
  refine j_iload_n (pc := 0) hX dX9_unlike_0 1 rfl ?_
  refine j_i2l (pc := 1) hX dX9_unlike_1 ?_
  refine j_lconst (pc := 2) (v := 0) hX dX9_unlike_2 (by decide) ?_
  refine j_ldc2 (pc := 3) (v := (64)) hX k_RX9_223 dX9_unlike_3 ?_
  refine j_callS (pc := 6) hX kX9_isIn kSX9_isIn l_RX9_105 (fun l => c_X9_isIn G ((nI n).toInt64) 0 (64) (rngB (nI n) (0) (64)) (inL_of (toL _) (show ((0) : Int64).toInt = 0 from by decide) (show ((64) : Int64).toInt = 64 from by decide)) l) [] [0, 1, 2, 3, 4, 5, 6] [] rfl rfl rfl rfl ⟨rfl, rfl, by decide⟩ rfl rfl (Nat.le_of_ble_eq_true rfl) dX9_unlike_6 (fun v w hq => ?_)
  obtain ⟨rfl, rfl⟩ := hq
  refine j_ws [0, 1, 2, 3, 4, 5, 6] (ws' := [(md, .inr (9, [.int (nI W), .int (nI H), .int t, .int (nI m), .int (nI k), .ref zc, .ref zr, .ref zb, .ref z1, .ref z2, .ref z3, .ref z4, .ref z5, .ref zm, .ref zmr, .ref zmb, .int mt, .ref zca, .ref zcw, .int (nI c), .ref zg, .ref zt, .ref zs, .ref zf, .ref zy, .ref zso, .ref zsf, .ref zsm, .int nt, .int nsh, .ref ztp, .ref zrw, .ref zpp, .int (nI tn), .int (nI pn), .int rdw, .int rdh, .ref zsz, .ref zit, .ref zk, .int (bI itk)])), (zc, ia G 16 f), (zr, ia G 16 (fun ι => nI (p ι))), (zm, ia G 16 mf), (zmr, ia G 16 mrf), (zmb, ia G 16 mbf), (zg, ia G 1040 gu)]) rfl rfl ?_
  refine j_ifB_ne (pc := 9) (tgt := 15) hX dX9_unlike_9 (by decide) (fun c9 => ?_) (fun c9 => by rw [rng_t (x := nI n) (A := 0) (B := 64) (by rw [nI_toInt (by omega)]; omega)] at c9; cases c9)
  refine j_aload_n (pc := 15) hX dX9_unlike_15 0 rfl ?_
  refine j_callV (pc := 16) hX kX9_minds kVX9_minds l_RX9_189 (fun l => c_X9_minds G md W H t m k zc zr zb z1 z2 z3 z4 z5 zm zmr zmb mt zca zcw c zg zt zs zf zy zso zsf zsm nt nsh ztp zrw zpp tn pn rdw rdh zsz zit zk itk f p mf mrf mbf q (by assumption) l) [0, 1, 2, 3, 4, 5] [6] [] rfl 0 9 rfl rfl rfl rfl rfl rfl ⟨rfl, rfl, by decide⟩ rfl rfl (Nat.le_of_ble_eq_true rfl) dX9_unlike_16 (fun v w hq => ?_)
  obtain ⟨rfl, rfl⟩ := hq
  refine j_ws [1, 2, 3, 4, 5, 6, 0] (ws' := [(md, .inr (9, [.int (nI W), .int (nI H), .int t, .int (nI m), .int (nI k), .ref zc, .ref zr, .ref zb, .ref z1, .ref z2, .ref z3, .ref z4, .ref z5, .ref zm, .ref zmr, .ref zmb, .int t, .ref zca, .ref zcw, .int (nI c), .ref zg, .ref zt, .ref zs, .ref zf, .ref zy, .ref zso, .ref zsf, .ref zsm, .int nt, .int nsh, .ref ztp, .ref zrw, .ref zpp, .int (nI tn), .int (nI pn), .int rdw, .int rdh, .ref zsz, .ref zit, .ref zk, .int (bI itk)])), (zc, ia G 16 f), (zr, ia G 16 (fun ι => nI (p ι))), (zm, ia G 16 f), (zmr, ia G 16 (fun ι => nI (p ι))), (zmb, ia G 16 (fun ι => nI (q ι))), (zg, ia G 1040 gu)]) rfl rfl ?_
  refine j_iconstN (pc := 19) (j := 0) hX dX9_unlike_19 rfl ?_
  refine j_istore_n (pc := 20) (lv' := [(2, .int (nI 0)), (0, .ref md), (1, .int (nI n))]) hX dX9_unlike_20 (by decide) rfl ?_
  refine j_iconstN (pc := 21) (j := 0) hX dX9_unlike_21 rfl ?_
  refine j_istore_n (pc := 22) (lv' := [(3, .int (nI 0)), (2, .int (nI 0)), (0, .ref md), (1, .int (nI n))]) hX dX9_unlike_22 (by decide) rfl ?_
  have L23 : ∀ (m23 : Nat) (k_ u : Nat) (gu3 : Nat → Int32) (t3 : Int32) (f3 : Nat → Int32) (hk : k_ ≤ n + 1) (ht3 : t3 = t + nI k_) (h3 : f3 = gF W H p t k_ f) (hu : u = (un0 H (fun j => gF W H p t j f) k_).1) (hh : holds H u (un0 H (fun j => gF W H p t j f) k_).2 gu3), n + 1 - k_ < m23 → J X G 5 0 0 [(md, .inr (9, [.int (nI W), .int (nI H), .int t, .int (nI m), .int (nI k), .ref zc, .ref zr, .ref zb, .ref z1, .ref z2, .ref z3, .ref z4, .ref z5, .ref zm, .ref zmr, .ref zmb, .int t3, .ref zca, .ref zcw, .int (nI c), .ref zg, .ref zt, .ref zs, .ref zf, .ref zy, .ref zso, .ref zsf, .ref zsm, .int nt, .int nsh, .ref ztp, .ref zrw, .ref zpp, .int (nI tn), .int (nI pn), .int rdw, .int rdh, .ref zsz, .ref zit, .ref zk, .int (bI itk)])), (zc, ia G 16 f), (zr, ia G 16 (fun ι => nI (p ι))), (zm, ia G 16 f3), (zmr, ia G 16 (fun ι => nI (p ι))), (zmb, ia G 16 (fun ι => nI (q ι))), (zg, ia G 1040 gu3)] [(0, .ref md), (1, .int (nI n)), (2, .int (nI u)), (3, .int (nI k_))] 23 [] := by
    intro m23
    induction m23 with
    | zero => intro k_ u gu3 t3 f3 hk ht3 h3 hu hh hm23; exact absurd hm23 (Nat.not_lt_zero _)
    | succ m23 ih23 =>
      intro k_ u gu3 t3 f3 hk ht3 h3 hu hh hm23
      refine j_iload_n (pc := 23) hX dX9_unlike_23 3 rfl ?_
      refine j_iload_n (pc := 24) hX dX9_unlike_24 1 rfl ?_
      refine j_icmp_gt (pc := 25) (tgt := 87) hX dX9_unlike_25 (by decide) (nI_toInt (n := k_) (by omega)) (nI_toInt (n := n) (by omega)) (fun c25 => ?_) (fun c25 => ?_)
      · skip
        refine j_iload_n (pc := 87) hX dX9_unlike_87 2 rfl ?_
        exact j_iret (pc := 88) hX hR dX9_unlike_88 ⟨t3, f3, gu3, congrArg some (show Value.int (nI u) = Value.int (nI ((unS H (fun j => gF W H p t j f) n).1)) from by rw [hu, show k_ = n + 1 from by omega, un0_S]), rfl⟩
      · skip
        have hul : u ≤ k_ := by rw [hu]; exact un0_le _ _ _
        refine j_aload_n (pc := 28) hX dX9_unlike_28 0 rfl ?_
        refine j_iload_n (pc := 29) hX dX9_unlike_29 2 rfl ?_
        refine j_callV (pc := 30) hX kX9_isMet kVX9_isMet l_RX9_225 (fun l => c_X9_isMet G md W H t m k zc zr zb z1 z2 z3 z4 z5 zm zmr zmb t3 zca zcw c zg zt zs zf zy zso zsf zsm nt nsh ztp zrw zpp tn pn rdw rdh zsz zit zk itk f3 gu3 u ((un0 H (fun j => gF W H p t j f) k_).2) (by omega) (by omega) (by omega) (by omega) (by omega) (by assumption) l) [0, 3, 6] [1, 2, 4, 5] [] rfl 0 9 rfl rfl rfl rfl rfl rfl ⟨rfl, rfl, by decide⟩ rfl rfl (Nat.le_of_ble_eq_true rfl) dX9_unlike_30 (fun v w hq => ?_)
        obtain ⟨rfl, rfl⟩ := hq
        refine j_ws [4, 0, 1, 5, 2, 3, 6] (ws' := [(md, .inr (9, [.int (nI W), .int (nI H), .int t, .int (nI m), .int (nI k), .ref zc, .ref zr, .ref zb, .ref z1, .ref z2, .ref z3, .ref z4, .ref z5, .ref zm, .ref zmr, .ref zmb, .int t3, .ref zca, .ref zcw, .int (nI c), .ref zg, .ref zt, .ref zs, .ref zf, .ref zy, .ref zso, .ref zsf, .ref zsm, .int nt, .int nsh, .ref ztp, .ref zrw, .ref zpp, .int (nI tn), .int (nI pn), .int rdw, .int rdh, .ref zsz, .ref zit, .ref zk, .int (bI itk)])), (zc, ia G 16 f), (zr, ia G 16 (fun ι => nI (p ι))), (zm, ia G 16 f3), (zmr, ia G 16 (fun ι => nI (p ι))), (zmb, ia G 16 (fun ι => nI (q ι))), (zg, ia G 1040 gu3)]) rfl rfl ?_
        refine j_ifB_ne (pc := 33) (tgt := 76) hX dX9_unlike_33 (by decide) (fun c33 => ?_) (fun c33 => ?_)
        · skip
          have hke : un0 H (fun j => gF W H p t j f) (k_ + 1) = un0 H (fun j => gF W H p t j f) k_ := by show keep H (un0 H (fun j => gF W H p t j f) k_) (gF W H p t k_ f) = _; unfold keep; rw [if_pos (by rw [← hu, ← h3]; exact c33)]
          refine j_aload_n (pc := 76) hX dX9_unlike_76 0 rfl ?_
          refine j_iconstN (pc := 77) (j := 1) hX dX9_unlike_77 rfl ?_
          refine j_callV (pc := 78) hX kX9_goes kVX9_goes l_RX9_192 (fun l => c_X9_goes G md W H t m k zc zr zb z1 z2 z3 z4 z5 zm zmr zmb t3 zca zcw c zg zt zs zf zy zso zsf zsm nt nsh ztp zrw zpp tn pn rdw rdh zsz zit zk itk f3 p q (nI 1) (by omega) (by omega) (by omega) (by omega) (by omega) (by omega) (by first | omega | (rw [nI_toInt (by omega)]; omega)) l) [0, 3, 4, 5] [1, 2, 6] [] rfl 0 9 rfl rfl rfl rfl rfl rfl ⟨rfl, rfl, by decide⟩ rfl rfl (Nat.le_of_ble_eq_true rfl) dX9_unlike_78 (fun v w hq => ?_)
          obtain ⟨rfl, rfl⟩ := hq
          refine j_ws [3, 0, 1, 4, 5, 6, 2] (ws' := [(md, .inr (9, [.int (nI W), .int (nI H), .int t, .int (nI m), .int (nI k), .ref zc, .ref zr, .ref zb, .ref z1, .ref z2, .ref z3, .ref z4, .ref z5, .ref zm, .ref zmr, .ref zmb, .int (t3 + (nI 1)), .ref zca, .ref zcw, .int (nI c), .ref zg, .ref zt, .ref zs, .ref zf, .ref zy, .ref zso, .ref zsf, .ref zsm, .int nt, .int nsh, .ref ztp, .ref zrw, .ref zpp, .int (nI tn), .int (nI pn), .int rdw, .int rdh, .ref zsz, .ref zit, .ref zk, .int (bI itk)])), (zc, ia G 16 f), (zr, ia G 16 (fun ι => nI (p ι))), (zm, ia G 16 (goF W H p q t3 (nI 1) f3)), (zmr, ia G 16 (fun ι => nI (p ι))), (zmb, ia G 16 (fun ι => nI (q ι))), (zg, ia G 1040 gu3)]) rfl rfl ?_
          have hg3 : goF W H p q t3 (nI 1) f3 = gF W H p t (k_ + 1) f := by rw [h3, ht3, goF_on (by omega)]
          refine j_iinc (pc := 81) (q := 3) (v := nI (k_ + 1)) (lv' := [(3, .int (nI (k_ + 1))), (0, .ref md), (1, .int (nI n)), (2, .int (nI u))]) hX dX9_unlike_81 rfl (nI_inc _ 1) (by decide) rfl ?_
          refine j_goto (pc := 84) (tgt := 23) hX dX9_unlike_84 (by decide) ?_
          refine j_lv [1, 2, 3, 0] (lv' := [(0, .ref md), (1, .int (nI n)), (2, .int (nI u)), (3, .int (nI (k_ + 1)))]) rfl ?_
          exact ih23 (k_ + 1) u gu3 (t3 + (nI 1)) (goF W H p q t3 (nI 1) f3) (by omega) (by rw [ht3]; exact addS t k_) (hg3) (by first | (rw [hke]; done) | (rw [hke]; exact hu)) (by rw [hke]; first | exact hh | exact holds_add hH2 hh hA (fun z hz => hB z (by omega))) (by omega)
        · skip
          have hke : un0 H (fun j => gF W H p t j f) (k_ + 1) = (u + 1, fun z => if z = u then f3 else (un0 H (fun j => gF W H p t j f) k_).2 z) := by show keep H (un0 H (fun j => gF W H p t j f) k_) (gF W H p t k_ f) = _; unfold keep; rw [if_neg (by rw [← hu, ← h3, c33]; exact Bool.false_ne_true), ← hu, ← h3]
          refine j_iconstN (pc := 36) (j := 0) hX dX9_unlike_36 rfl ?_
          refine j_istore (pc := 37) (lv' := [(4, .int (nI 0)), (0, .ref md), (1, .int (nI n)), (2, .int (nI u)), (3, .int (nI k_))]) hX dX9_unlike_37 (by decide) rfl ?_
          have L39 : ∀ (m39 : Nat) (y : Nat) (gu4 : Nat → Int32) (hy : y ≤ H) (hA : ∀ z, z < 16 * u → gu4 z = gu3 z) (hB : ∀ z, z < y → gu4 (16 * u + z) = f3 z), H - y < m39 → J X G 5 0 0 [(md, .inr (9, [.int (nI W), .int (nI H), .int t, .int (nI m), .int (nI k), .ref zc, .ref zr, .ref zb, .ref z1, .ref z2, .ref z3, .ref z4, .ref z5, .ref zm, .ref zmr, .ref zmb, .int t3, .ref zca, .ref zcw, .int (nI c), .ref zg, .ref zt, .ref zs, .ref zf, .ref zy, .ref zso, .ref zsf, .ref zsm, .int nt, .int nsh, .ref ztp, .ref zrw, .ref zpp, .int (nI tn), .int (nI pn), .int rdw, .int rdh, .ref zsz, .ref zit, .ref zk, .int (bI itk)])), (zc, ia G 16 f), (zr, ia G 16 (fun ι => nI (p ι))), (zm, ia G 16 f3), (zmr, ia G 16 (fun ι => nI (p ι))), (zmb, ia G 16 (fun ι => nI (q ι))), (zg, ia G 1040 gu4)] [(0, .ref md), (1, .int (nI n)), (2, .int (nI u)), (3, .int (nI k_)), (4, .int (nI y))] 39 [] := by
            intro m39
            induction m39 with
            | zero => intro y gu4 hy hA hB hm39; exact absurd hm39 (Nat.not_lt_zero _)
            | succ m39 ih39 =>
              intro y gu4 hy hA hB hm39
              refine j_iload (pc := 39) hX dX9_unlike_39 4 rfl ?_
              refine j_aload_n (pc := 41) hX dX9_unlike_41 0 rfl ?_
              refine j_get (pc := 42) hX f_RX9_15 0 rfl rfl dX9_unlike_42 ?_
              refine j_icmp_ge (pc := 45) (tgt := 73) hX dX9_unlike_45 (by decide) (nI_toInt (n := y) (by omega)) (nI_toInt (n := H) (by omega)) (fun c45 => ?_) (fun c45 => ?_)
              · skip
                refine j_iinc (pc := 73) (q := 2) (v := nI (u + 1)) (lv' := [(2, .int (nI (u + 1))), (0, .ref md), (1, .int (nI n)), (3, .int (nI k_)), (4, .int (nI y))]) hX dX9_unlike_73 rfl (nI_inc _ 1) (by decide) rfl ?_
                refine j_aload_n (pc := 76) hX dX9_unlike_76 1 rfl ?_
                refine j_iconstN (pc := 77) (j := 1) hX dX9_unlike_77 rfl ?_
                refine j_callV (pc := 78) hX kX9_goes kVX9_goes l_RX9_192 (fun l => c_X9_goes G md W H t m k zc zr zb z1 z2 z3 z4 z5 zm zmr zmb t3 zca zcw c zg zt zs zf zy zso zsf zsm nt nsh ztp zrw zpp tn pn rdw rdh zsz zit zk itk f3 p q (nI 1) (by omega) (by omega) (by omega) (by omega) (by omega) (by omega) (by first | omega | (rw [nI_toInt (by omega)]; omega)) l) [0, 3, 4, 5] [1, 2, 6] [] rfl 0 9 rfl rfl rfl rfl rfl rfl ⟨rfl, rfl, by decide⟩ rfl rfl (Nat.le_of_ble_eq_true rfl) dX9_unlike_78 (fun v w hq => ?_)
                obtain ⟨rfl, rfl⟩ := hq
                refine j_ws [3, 0, 1, 4, 5, 6, 2] (ws' := [(md, .inr (9, [.int (nI W), .int (nI H), .int t, .int (nI m), .int (nI k), .ref zc, .ref zr, .ref zb, .ref z1, .ref z2, .ref z3, .ref z4, .ref z5, .ref zm, .ref zmr, .ref zmb, .int (t3 + (nI 1)), .ref zca, .ref zcw, .int (nI c), .ref zg, .ref zt, .ref zs, .ref zf, .ref zy, .ref zso, .ref zsf, .ref zsm, .int nt, .int nsh, .ref ztp, .ref zrw, .ref zpp, .int (nI tn), .int (nI pn), .int rdw, .int rdh, .ref zsz, .ref zit, .ref zk, .int (bI itk)])), (zc, ia G 16 f), (zr, ia G 16 (fun ι => nI (p ι))), (zm, ia G 16 (goF W H p q t3 (nI 1) f3)), (zmr, ia G 16 (fun ι => nI (p ι))), (zmb, ia G 16 (fun ι => nI (q ι))), (zg, ia G 1040 gu4)]) rfl rfl ?_
                have hg3 : goF W H p q t3 (nI 1) f3 = gF W H p t (k_ + 1) f := by rw [h3, ht3, goF_on (by omega)]
                refine j_iinc (pc := 81) (q := 3) (v := nI (k_ + 1)) (lv' := [(3, .int (nI (k_ + 1))), (2, .int (nI (u + 1))), (0, .ref md), (1, .int (nI n)), (4, .int (nI y))]) hX dX9_unlike_81 rfl (nI_inc _ 1) (by decide) rfl ?_
                refine j_goto (pc := 84) (tgt := 23) hX dX9_unlike_84 (by decide) ?_
                refine j_lv [2, 3, 1, 0] (lv' := [(0, .ref md), (1, .int (nI n)), (2, .int (nI (u + 1))), (3, .int (nI (k_ + 1)))]) rfl ?_
                exact ih23 (k_ + 1) (u + 1) gu4 (t3 + (nI 1)) (goF W H p q t3 (nI 1) f3) (by omega) (by rw [ht3]; exact addS t k_) (hg3) (by first | (rw [hke]; done) | (rw [hke]; exact hu)) (by rw [hke]; first | exact hh | exact holds_add hH2 hh hA (fun z hz => hB z (by omega))) (by omega)
              · skip
                refine j_aload_n (pc := 48) hX dX9_unlike_48 0 rfl ?_
                refine j_get (pc := 49) hX f_RX9_58 0 rfl rfl dX9_unlike_49 ?_
                refine j_bipush (pc := 52) (v := nI 16) hX dX9_unlike_52 (by decide) ?_
                refine j_iload_n (pc := 54) hX dX9_unlike_54 2 rfl ?_
                refine j_imul (pc := 55) hX dX9_unlike_55 ?_
                refine j_topi (y := nI (16 * u)) (pk_mul _ _) ?_
                refine j_iload (pc := 56) hX dX9_unlike_56 4 rfl ?_
                refine j_iadd (pc := 58) hX dX9_unlike_58 ?_
                refine j_topi (y := nI (16 * u + y)) (nI_add _ _) ?_
                refine j_aload_n (pc := 59) hX dX9_unlike_59 0 rfl ?_
                refine j_get (pc := 60) hX f_RX9_43 0 rfl rfl dX9_unlike_60 ?_
                refine j_iload (pc := 63) hX dX9_unlike_63 4 rfl ?_
                refine j_ialdN (pc := 65) (j := y) hX 3 rfl (by omega) (by omega) dX9_unlike_65 ?_
                refine j_iastN (pc := 66) (j := 16 * u + y) (ws' := [(md, .inr (9, [.int (nI W), .int (nI H), .int t, .int (nI m), .int (nI k), .ref zc, .ref zr, .ref zb, .ref z1, .ref z2, .ref z3, .ref z4, .ref z5, .ref zm, .ref zmr, .ref zmb, .int t3, .ref zca, .ref zcw, .int (nI c), .ref zg, .ref zt, .ref zs, .ref zf, .ref zy, .ref zso, .ref zsf, .ref zsm, .int nt, .int nsh, .ref ztp, .ref zrw, .ref zpp, .int (nI tn), .int (nI pn), .int rdw, .int rdh, .ref zsz, .ref zit, .ref zk, .int (bI itk)])), (zc, ia G 16 f), (zr, ia G 16 (fun ι => nI (p ι))), (zm, ia G 16 f3), (zmr, ia G 16 (fun ι => nI (p ι))), (zmb, ia G 16 (fun ι => nI (q ι))), (zg, ia G 1040 (upd gu4 (16 * u + y) (f3 y)))]) hX 6 rfl (by omega) (by omega) rfl dX9_unlike_66 ?_
                refine j_iinc (pc := 67) (q := 4) (v := nI (y + 1)) (lv' := [(4, .int (nI (y + 1))), (0, .ref md), (1, .int (nI n)), (2, .int (nI u)), (3, .int (nI k_))]) hX dX9_unlike_67 rfl (nI_inc _ 1) (by decide) rfl ?_
                refine j_goto (pc := 70) (tgt := 39) hX dX9_unlike_70 (by decide) ?_
                refine j_lv [1, 2, 3, 4, 0] (lv' := [(0, .ref md), (1, .int (nI n)), (2, .int (nI u)), (3, .int (nI k_)), (4, .int (nI (y + 1)))]) rfl ?_
                exact ih39 (y + 1) (upd gu4 (16 * u + y) (f3 y)) (by omega) (fun z hz => by unfold upd; rw [if_neg (by omega)]; exact hA z hz) (fun z hz => by unfold upd; split; (rw [show z = y from by omega]); exact hB z (by omega)) (by omega)
          refine j_lv [1, 2, 3, 4, 0] (lv' := [(0, .ref md), (1, .int (nI n)), (2, .int (nI u)), (3, .int (nI k_)), (4, .int (nI 0))]) rfl ?_
          exact L39 ((H - 0) + 1) 0 gu3 (by omega) (fun _ _ => rfl) (fun z hz => absurd hz (Nat.not_lt_zero _)) (Nat.lt_succ_self _)
  refine j_lv [2, 3, 1, 0] (lv' := [(0, .ref md), (1, .int (nI n)), (2, .int (nI 0)), (3, .int (nI 0))]) rfl ?_
  exact L23 ((n + 1 - 0) + 1) 0 0 gu t f (by omega) (add0 t) (rfl) (rfl) (fun z hz => absurd hz (Nat.not_lt_zero _)) (Nat.lt_succ_self _)
set_option maxHeartbeats 4000000 in
set_option maxRecDepth 100000 in
theorem c_X9_feed_bad (G : GT) (md : Nat) (W : Nat) (H : Nat) (t : Int32) (m : Nat) (k : Nat) (zc : Nat) (zr : Nat) (zb : Nat) (z1 : Nat) (z2 : Nat) (z3 : Nat) (z4 : Nat) (z5 : Nat) (zm : Nat) (zmr : Nat) (zmb : Nat) (mt : Int32) (zca : Nat) (zcw : Nat) (c : Nat) (zg : Nat) (zt : Nat) (zs : Nat) (zf : Nat) (zy : Nat) (zso : Nat) (zsf : Nat) (zsm : Nat) (nt : Int32) (nsh : Int32) (ztp : Nat) (zrw : Nat) (zpp : Nat) (tn : Nat) (pn : Nat) (rdw : Int32) (rdh : Int32) (zsz : Nat) (zit : Nat) (zk : Nat) (itk : Bool) (v : Int32) (hb : v.toInt < 1 ∨ 127 < v.toInt) (l : Launch) : CT l G yX9_feed cX9_feed 2 (some .int) { frames := 1, cells := 0, slots := 0, locals := 25 } [.ref md, .int v] [(md, .inr (9, [.int (nI W), .int (nI H), .int t, .int (nI m), .int (nI k), .ref zc, .ref zr, .ref zb, .ref z1, .ref z2, .ref z3, .ref z4, .ref z5, .ref zm, .ref zmr, .ref zmb, .int mt, .ref zca, .ref zcw, .int (nI c), .ref zg, .ref zt, .ref zs, .ref zf, .ref zy, .ref zso, .ref zsf, .ref zsm, .int nt, .int nsh, .ref ztp, .ref zrw, .ref zpp, .int (nI tn), .int (nI pn), .int rdw, .int rdh, .ref zsz, .ref zit, .ref zk, .int (bI itk)]))] (fun vv ww => vv = some (.int (-2)) ∧ ww = [(md, .inr (9, [.int (nI W), .int (nI H), .int t, .int (nI m), .int (nI k), .ref zc, .ref zr, .ref zb, .ref z1, .ref z2, .ref z3, .ref z4, .ref z5, .ref zm, .ref zmr, .ref zmb, .int mt, .ref zca, .ref zcw, .int (nI c), .ref zg, .ref zt, .ref zs, .ref zf, .ref zy, .ref zso, .ref zsf, .ref zsm, .int nt, .int nsh, .ref ztp, .ref zrw, .ref zpp, .int (nI tn), .int (nI pn), .int rdw, .int rdh, .ref zsz, .ref zit, .ref zk, .int (bI itk)]))]) := by
  refine CT.of (lv := [(0, .ref md), (1, .int v)]) RX9 "feed" rfl rfl (by decide +kernel) (Nat.le_of_ble_eq_true rfl) rfl (fun X hX hR => ?_)
  refine j_iload_n (pc := 0) hX dX9_feed_0 1 rfl ?_
  refine j_i2l (pc := 1) hX dX9_feed_1 ?_
  refine j_lconst (pc := 2) (v := 1) hX dX9_feed_2 (by decide) ?_
  refine j_ldc2 (pc := 3) (v := (127)) hX k_RX9_238 dX9_feed_3 ?_
  refine j_callS (pc := 6) hX kX9_isIn kSX9_isIn l_RX9_105 (fun l => c_X9_isIn G v.toInt64 1 (127) (rngB v (1) (127)) (inL_of (toL _) (show ((1) : Int64).toInt = 1 from by decide) (show ((127) : Int64).toInt = 127 from by decide)) l) [] [0] [] rfl rfl rfl rfl ⟨rfl, rfl, by decide⟩ rfl rfl (Nat.le_of_ble_eq_true rfl) dX9_feed_6 (fun v w hq => ?_)
  obtain ⟨rfl, rfl⟩ := hq
  refine j_ws [0] (ws' := [(md, .inr (9, [.int (nI W), .int (nI H), .int t, .int (nI m), .int (nI k), .ref zc, .ref zr, .ref zb, .ref z1, .ref z2, .ref z3, .ref z4, .ref z5, .ref zm, .ref zmr, .ref zmb, .int mt, .ref zca, .ref zcw, .int (nI c), .ref zg, .ref zt, .ref zs, .ref zf, .ref zy, .ref zso, .ref zsf, .ref zsm, .int nt, .int nsh, .ref ztp, .ref zrw, .ref zpp, .int (nI tn), .int (nI pn), .int rdw, .int rdh, .ref zsz, .ref zit, .ref zk, .int (bI itk)]))]) rfl rfl ?_
  refine j_ifB_ne (pc := 9) (tgt := 15) hX dX9_feed_9 (by decide) (fun c9 => by exfalso; have := of_decide_eq_true c9; omega) (fun c9 => ?_)
  refine j_bipush (pc := 12) (v := (-2)) hX dX9_feed_12 (by decide) ?_
  exact j_iret (pc := 14) hX hR dX9_feed_14 ⟨rfl, rfl⟩
set_option maxHeartbeats 4000000 in
set_option maxRecDepth 100000 in
theorem c_X9_feed_full (G : GT) (md : Nat) (W : Nat) (H : Nat) (t : Int32) (m : Nat) (k : Nat) (zc : Nat) (zr : Nat) (zb : Nat) (z1 : Nat) (z2 : Nat) (z3 : Nat) (z4 : Nat) (z5 : Nat) (zm : Nat) (zmr : Nat) (zmb : Nat) (mt : Int32) (zca : Nat) (zcw : Nat) (c : Nat) (zg : Nat) (zt : Nat) (zs : Nat) (zf : Nat) (zy : Nat) (zso : Nat) (zsf : Nat) (zsm : Nat) (nt : Int32) (nsh : Int32) (ztp : Nat) (zrw : Nat) (zpp : Nat) (tn : Nat) (pn : Nat) (rdw : Int32) (rdh : Int32) (zsz : Nat) (zit : Nat) (zk : Nat) (itk : Bool) (v : Int32) (hv : 1 ≤ v.toInt ∧ v.toInt ≤ 127) (hn : tn = 300) (l : Launch) : CT l G yX9_feed cX9_feed 2 (some .int) { frames := 1, cells := 0, slots := 0, locals := 25 } [.ref md, .int v] [(md, .inr (9, [.int (nI W), .int (nI H), .int t, .int (nI m), .int (nI k), .ref zc, .ref zr, .ref zb, .ref z1, .ref z2, .ref z3, .ref z4, .ref z5, .ref zm, .ref zmr, .ref zmb, .int mt, .ref zca, .ref zcw, .int (nI c), .ref zg, .ref zt, .ref zs, .ref zf, .ref zy, .ref zso, .ref zsf, .ref zsm, .int nt, .int nsh, .ref ztp, .ref zrw, .ref zpp, .int (nI tn), .int (nI pn), .int rdw, .int rdh, .ref zsz, .ref zit, .ref zk, .int (bI itk)]))] (fun vv ww => vv = some (.int (-4)) ∧ ww = [(md, .inr (9, [.int (nI W), .int (nI H), .int t, .int (nI m), .int (nI k), .ref zc, .ref zr, .ref zb, .ref z1, .ref z2, .ref z3, .ref z4, .ref z5, .ref zm, .ref zmr, .ref zmb, .int mt, .ref zca, .ref zcw, .int (nI c), .ref zg, .ref zt, .ref zs, .ref zf, .ref zy, .ref zso, .ref zsf, .ref zsm, .int nt, .int nsh, .ref ztp, .ref zrw, .ref zpp, .int (nI tn), .int (nI pn), .int rdw, .int rdh, .ref zsz, .ref zit, .ref zk, .int (bI itk)]))]) := by
  refine CT.of (lv := [(0, .ref md), (1, .int v)]) RX9 "feed" rfl rfl (by decide +kernel) (Nat.le_of_ble_eq_true rfl) rfl (fun X hX hR => ?_)
  refine j_iload_n (pc := 0) hX dX9_feed_0 1 rfl ?_
  refine j_i2l (pc := 1) hX dX9_feed_1 ?_
  refine j_lconst (pc := 2) (v := 1) hX dX9_feed_2 (by decide) ?_
  refine j_ldc2 (pc := 3) (v := (127)) hX k_RX9_238 dX9_feed_3 ?_
  refine j_callS (pc := 6) hX kX9_isIn kSX9_isIn l_RX9_105 (fun l => c_X9_isIn G v.toInt64 1 (127) (rngB v (1) (127)) (inL_of (toL _) (show ((1) : Int64).toInt = 1 from by decide) (show ((127) : Int64).toInt = 127 from by decide)) l) [] [0] [] rfl rfl rfl rfl ⟨rfl, rfl, by decide⟩ rfl rfl (Nat.le_of_ble_eq_true rfl) dX9_feed_6 (fun v w hq => ?_)
  obtain ⟨rfl, rfl⟩ := hq
  refine j_ws [0] (ws' := [(md, .inr (9, [.int (nI W), .int (nI H), .int t, .int (nI m), .int (nI k), .ref zc, .ref zr, .ref zb, .ref z1, .ref z2, .ref z3, .ref z4, .ref z5, .ref zm, .ref zmr, .ref zmb, .int mt, .ref zca, .ref zcw, .int (nI c), .ref zg, .ref zt, .ref zs, .ref zf, .ref zy, .ref zso, .ref zsf, .ref zsm, .int nt, .int nsh, .ref ztp, .ref zrw, .ref zpp, .int (nI tn), .int (nI pn), .int rdw, .int rdh, .ref zsz, .ref zit, .ref zk, .int (bI itk)]))]) rfl rfl ?_
  refine j_ifB_ne (pc := 9) (tgt := 15) hX dX9_feed_9 (by decide) (fun c9 => ?_) (fun c9 => by rw [rng_t (x := v) (A := 1) (B := 127) hv] at c9; cases c9)
  refine j_aload_n (pc := 15) hX dX9_feed_15 0 rfl ?_
  refine j_get (pc := 16) hX f_RX9_240 0 rfl rfl dX9_feed_16 ?_
  refine j_sipush (pc := 19) (v := nI 300) hX dX9_feed_19 (by decide) ?_
  refine j_icmp_ne (pc := 22) (tgt := 28) hX dX9_feed_22 (by decide) (nI_toInt (n := tn) (by omega)) (nI_toInt (n := 300) (by decide)) (fun c22 => by exfalso; omega) (fun c22 => ?_)
  refine j_bipush (pc := 25) (v := (-4)) hX dX9_feed_25 (by decide) ?_
  exact j_iret (pc := 27) hX hR dX9_feed_27 ⟨rfl, rfl⟩
set_option maxHeartbeats 4000000 in
set_option maxRecDepth 100000 in
theorem c_X9_feed_ok (G : GT) (md : Nat) (W : Nat) (H : Nat) (t : Int32) (m : Nat) (k : Nat) (zc : Nat) (zr : Nat) (zb : Nat) (z1 : Nat) (z2 : Nat) (z3 : Nat) (z4 : Nat) (z5 : Nat) (zm : Nat) (zmr : Nat) (zmb : Nat) (mt : Int32) (zca : Nat) (zcw : Nat) (c : Nat) (zg : Nat) (zt : Nat) (zs : Nat) (zf : Nat) (zy : Nat) (zso : Nat) (zsf : Nat) (zsm : Nat) (nt : Int32) (nsh : Int32) (ztp : Nat) (zrw : Nat) (zpp : Nat) (tn : Nat) (pn : Nat) (rdw : Int32) (rdh : Int32) (zsz : Nat) (zit : Nat) (zk : Nat) (itk : Bool) (ts : Nat → Int32) (v : Int32) (hv : 1 ≤ v.toInt ∧ v.toInt ≤ 127) (hn : tn < 300) (l : Launch) : CT l G yX9_feed cX9_feed 2 (some .int) { frames := 1, cells := 0, slots := 0, locals := 25 } [.ref md, .int v] [(md, .inr (9, [.int (nI W), .int (nI H), .int t, .int (nI m), .int (nI k), .ref zc, .ref zr, .ref zb, .ref z1, .ref z2, .ref z3, .ref z4, .ref z5, .ref zm, .ref zmr, .ref zmb, .int mt, .ref zca, .ref zcw, .int (nI c), .ref zg, .ref zt, .ref zs, .ref zf, .ref zy, .ref zso, .ref zsf, .ref zsm, .int nt, .int nsh, .ref ztp, .ref zrw, .ref zpp, .int (nI tn), .int (nI pn), .int rdw, .int rdh, .ref zsz, .ref zit, .ref zk, .int (bI itk)])), (ztp, ia G 300 ts)] (fun vv ww => vv = some (.int (nI (tn + 1))) ∧ ww = [(md, .inr (9, [.int (nI W), .int (nI H), .int t, .int (nI m), .int (nI k), .ref zc, .ref zr, .ref zb, .ref z1, .ref z2, .ref z3, .ref z4, .ref z5, .ref zm, .ref zmr, .ref zmb, .int mt, .ref zca, .ref zcw, .int (nI c), .ref zg, .ref zt, .ref zs, .ref zf, .ref zy, .ref zso, .ref zsf, .ref zsm, .int nt, .int nsh, .ref ztp, .ref zrw, .ref zpp, .int (nI (tn + 1)), .int (nI pn), .int rdw, .int rdh, .ref zsz, .ref zit, .ref zk, .int (bI itk)])), (ztp, ia G 300 (upd ts tn v))]) := by
  refine CT.of (lv := [(0, .ref md), (1, .int v)]) RX9 "feed" rfl rfl (by decide +kernel) (Nat.le_of_ble_eq_true rfl) rfl (fun X hX hR => ?_)
  refine j_iload_n (pc := 0) hX dX9_feed_0 1 rfl ?_
  refine j_i2l (pc := 1) hX dX9_feed_1 ?_
  refine j_lconst (pc := 2) (v := 1) hX dX9_feed_2 (by decide) ?_
  refine j_ldc2 (pc := 3) (v := (127)) hX k_RX9_238 dX9_feed_3 ?_
  refine j_callS (pc := 6) hX kX9_isIn kSX9_isIn l_RX9_105 (fun l => c_X9_isIn G v.toInt64 1 (127) (rngB v (1) (127)) (inL_of (toL _) (show ((1) : Int64).toInt = 1 from by decide) (show ((127) : Int64).toInt = 127 from by decide)) l) [] [0, 1] [] rfl rfl rfl rfl ⟨rfl, rfl, by decide⟩ rfl rfl (Nat.le_of_ble_eq_true rfl) dX9_feed_6 (fun v w hq => ?_)
  obtain ⟨rfl, rfl⟩ := hq
  refine j_ws [0, 1] (ws' := [(md, .inr (9, [.int (nI W), .int (nI H), .int t, .int (nI m), .int (nI k), .ref zc, .ref zr, .ref zb, .ref z1, .ref z2, .ref z3, .ref z4, .ref z5, .ref zm, .ref zmr, .ref zmb, .int mt, .ref zca, .ref zcw, .int (nI c), .ref zg, .ref zt, .ref zs, .ref zf, .ref zy, .ref zso, .ref zsf, .ref zsm, .int nt, .int nsh, .ref ztp, .ref zrw, .ref zpp, .int (nI tn), .int (nI pn), .int rdw, .int rdh, .ref zsz, .ref zit, .ref zk, .int (bI itk)])), (ztp, ia G 300 ts)]) rfl rfl ?_
  refine j_ifB_ne (pc := 9) (tgt := 15) hX dX9_feed_9 (by decide) (fun c9 => ?_) (fun c9 => by rw [rng_t (x := v) (A := 1) (B := 127) hv] at c9; cases c9)
  refine j_aload_n (pc := 15) hX dX9_feed_15 0 rfl ?_
  refine j_get (pc := 16) hX f_RX9_240 0 rfl rfl dX9_feed_16 ?_
  refine j_sipush (pc := 19) (v := nI 300) hX dX9_feed_19 (by decide) ?_
  refine j_icmp_ne (pc := 22) (tgt := 28) hX dX9_feed_22 (by decide) (nI_toInt (n := tn) (by omega)) (nI_toInt (n := 300) (by decide)) (fun c22 => ?_) (fun c22 => by exfalso; omega)
  refine j_aload_n (pc := 28) hX dX9_feed_28 0 rfl ?_
  refine j_get (pc := 29) hX f_RX9_82 0 rfl rfl dX9_feed_29 ?_
  refine j_aload_n (pc := 32) hX dX9_feed_32 0 rfl ?_
  refine j_get (pc := 33) hX f_RX9_240 0 rfl rfl dX9_feed_33 ?_
  refine j_iload_n (pc := 36) hX dX9_feed_36 1 rfl ?_
  refine j_iastN (pc := 37) (j := tn) (ws' := [(md, .inr (9, [.int (nI W), .int (nI H), .int t, .int (nI m), .int (nI k), .ref zc, .ref zr, .ref zb, .ref z1, .ref z2, .ref z3, .ref z4, .ref z5, .ref zm, .ref zmr, .ref zmb, .int mt, .ref zca, .ref zcw, .int (nI c), .ref zg, .ref zt, .ref zs, .ref zf, .ref zy, .ref zso, .ref zsf, .ref zsm, .int nt, .int nsh, .ref ztp, .ref zrw, .ref zpp, .int (nI tn), .int (nI pn), .int rdw, .int rdh, .ref zsz, .ref zit, .ref zk, .int (bI itk)])), (ztp, ia G 300 (upd ts tn v))]) hX 1 rfl (by omega) (by omega) rfl dX9_feed_37 ?_
  refine j_aload_n (pc := 38) hX dX9_feed_38 0 rfl ?_
  refine j_dup (pc := 39) hX dX9_feed_39 rfl ?_
  refine j_get (pc := 40) hX f_RX9_240 0 rfl rfl dX9_feed_40 ?_
  refine j_iconstN (pc := 43) (j := 1) hX dX9_feed_43 rfl ?_
  refine j_iadd (pc := 44) hX dX9_feed_44 ?_
  refine j_topi (y := nI (tn + 1)) (nI_add _ _) ?_
  refine j_put (pc := 45) (ws' := [(md, .inr (9, [.int (nI W), .int (nI H), .int t, .int (nI m), .int (nI k), .ref zc, .ref zr, .ref zb, .ref z1, .ref z2, .ref z3, .ref z4, .ref z5, .ref zm, .ref zmr, .ref zmb, .int mt, .ref zca, .ref zcw, .int (nI c), .ref zg, .ref zt, .ref zs, .ref zf, .ref zy, .ref zso, .ref zsf, .ref zsm, .int nt, .int nsh, .ref ztp, .ref zrw, .ref zpp, .int (nI (tn + 1)), .int (nI pn), .int rdw, .int rdh, .ref zsz, .ref zit, .ref zk, .int (bI itk)])), (ztp, ia G 300 (upd ts tn v))]) hX f_RX9_240 0 rfl rfl rfl (Nat.le_of_ble_eq_true rfl) rfl dX9_feed_45 ?_
  refine j_aload_n (pc := 48) hX dX9_feed_48 0 rfl ?_
  refine j_get (pc := 49) hX f_RX9_240 0 rfl rfl dX9_feed_49 ?_
  exact j_iret (pc := 52) hX hR dX9_feed_52 ⟨rfl, rfl⟩
set_option maxHeartbeats 4000000 in
set_option maxRecDepth 100000 in
theorem c_X9_spell (G : GT) (md : Nat) (W : Nat) (H : Nat) (t : Int32) (m : Nat) (k : Nat) (zc : Nat) (zr : Nat) (zb : Nat) (z1 : Nat) (z2 : Nat) (z3 : Nat) (z4 : Nat) (z5 : Nat) (zm : Nat) (zmr : Nat) (zmb : Nat) (mt : Int32) (zca : Nat) (zcw : Nat) (c : Nat) (zg : Nat) (zt : Nat) (zs : Nat) (zf : Nat) (zy : Nat) (zso : Nat) (zsf : Nat) (zsm : Nat) (nt : Int32) (nsh : Int32) (ztp : Nat) (zrw : Nat) (zpp : Nat) (tn : Nat) (pn : Nat) (rdw : Int32) (rdh : Int32) (zsz : Nat) (zit : Nat) (zk : Nat) (itk : Bool) (f : Nat → Int32) (ps : Nat → Int32) (hW1 : 2 ≤ W) (hW2 : W ≤ 16) (hH1 : 2 ≤ H) (hH2 : H ≤ 16) (l : Launch) : CT l G yX9_spell cX9_spell 3 (some .int) { frames := 0, cells := 0, slots := 0, locals := 0 } [.ref md] [(md, .inr (9, [.int (nI W), .int (nI H), .int t, .int (nI m), .int (nI k), .ref zc, .ref zr, .ref zb, .ref z1, .ref z2, .ref z3, .ref z4, .ref z5, .ref zm, .ref zmr, .ref zmb, .int mt, .ref zca, .ref zcw, .int (nI c), .ref zg, .ref zt, .ref zs, .ref zf, .ref zy, .ref zso, .ref zsf, .ref zsm, .int nt, .int nsh, .ref ztp, .ref zrw, .ref zpp, .int (nI tn), .int (nI pn), .int rdw, .int rdh, .ref zsz, .ref zit, .ref zk, .int (bI itk)])), (zc, ia G 16 f), (zpp, ia G 300 ps)] (fun vv ww => vv = some (.int (nI ((spY W f ps H).1))) ∧ ww = [(md, .inr (9, [.int (nI W), .int (nI H), .int t, .int (nI m), .int (nI k), .ref zc, .ref zr, .ref zb, .ref z1, .ref z2, .ref z3, .ref z4, .ref z5, .ref zm, .ref zmr, .ref zmb, .int mt, .ref zca, .ref zcw, .int (nI c), .ref zg, .ref zt, .ref zs, .ref zf, .ref zy, .ref zso, .ref zsf, .ref zsm, .int nt, .int nsh, .ref ztp, .ref zrw, .ref zpp, .int (nI tn), .int (nI ((spY W f ps H).1)), .int rdw, .int rdh, .ref zsz, .ref zit, .ref zk, .int (bI itk)])), (zc, ia G 16 f), (zpp, ia G 300 ((spY W f ps H).2))]) := by
  refine CT.of (lv := [(0, .ref md)]) RX9 "spell" rfl rfl (by decide +kernel) (Nat.le_of_ble_eq_true rfl) rfl (fun X hX hR => ?_)
  refine j_aload_n (pc := 0) hX dX9_spell_0 0 rfl ?_
  refine j_iconstN (pc := 1) (j := 0) hX dX9_spell_1 rfl ?_
  refine j_put (pc := 2) (ws' := [(md, .inr (9, [.int (nI W), .int (nI H), .int t, .int (nI m), .int (nI k), .ref zc, .ref zr, .ref zb, .ref z1, .ref z2, .ref z3, .ref z4, .ref z5, .ref zm, .ref zmr, .ref zmb, .int mt, .ref zca, .ref zcw, .int (nI c), .ref zg, .ref zt, .ref zs, .ref zf, .ref zy, .ref zso, .ref zsf, .ref zsm, .int nt, .int nsh, .ref ztp, .ref zrw, .ref zpp, .int (nI tn), .int (nI 0), .int rdw, .int rdh, .ref zsz, .ref zit, .ref zk, .int (bI itk)])), (zc, ia G 16 f), (zpp, ia G 300 ps)]) hX f_RX9_252 0 rfl rfl rfl (Nat.le_of_ble_eq_true rfl) rfl dX9_spell_2 ?_
  refine j_iconstN (pc := 5) (j := 0) hX dX9_spell_5 rfl ?_
  refine j_istore_n (pc := 6) (lv' := [(1, .int (nI 0)), (0, .ref md)]) hX dX9_spell_6 (by decide) rfl ?_
  have L7 : ∀ (m7 : Nat) (y n : Nat) (s3 : Nat → Int32) (hy : y ≤ H) (h3 : (n, s3) = spY W f ps y) (hn : n = y * W + (y - 1)), H - y < m7 → J X G 3 0 0 [(md, .inr (9, [.int (nI W), .int (nI H), .int t, .int (nI m), .int (nI k), .ref zc, .ref zr, .ref zb, .ref z1, .ref z2, .ref z3, .ref z4, .ref z5, .ref zm, .ref zmr, .ref zmb, .int mt, .ref zca, .ref zcw, .int (nI c), .ref zg, .ref zt, .ref zs, .ref zf, .ref zy, .ref zso, .ref zsf, .ref zsm, .int nt, .int nsh, .ref ztp, .ref zrw, .ref zpp, .int (nI tn), .int (nI n), .int rdw, .int rdh, .ref zsz, .ref zit, .ref zk, .int (bI itk)])), (zc, ia G 16 f), (zpp, ia G 300 s3)] [(0, .ref md), (1, .int (nI y))] 7 [] := by
    intro m7
    induction m7 with
    | zero => intro y n s3 hy h3 hn hm7; exact absurd hm7 (Nat.not_lt_zero _)
    | succ m7 ih7 =>
      intro y n s3 hy h3 hn hm7
      refine j_iload_n (pc := 7) hX dX9_spell_7 1 rfl ?_
      refine j_aload_n (pc := 8) hX dX9_spell_8 0 rfl ?_
      refine j_get (pc := 9) hX f_RX9_15 0 rfl rfl dX9_spell_9 ?_
      refine j_icmp_ge (pc := 12) (tgt := 102) hX dX9_spell_12 (by decide) (nI_toInt (n := y) (by omega)) (nI_toInt (n := H) (by omega)) (fun c12 => ?_) (fun c12 => ?_)
      · skip
        refine j_aload_n (pc := 102) hX dX9_spell_102 0 rfl ?_
        refine j_get (pc := 103) hX f_RX9_252 0 rfl rfl dX9_spell_103 ?_
        have hyH : y = H := by omega
        refine j_ia (q0 := 2) (f := s3) (g := (spY W f ps H).2) rfl (fun z hz => by rw [← hyH, ← h3]) (ws' := [(md, .inr (9, [.int (nI W), .int (nI H), .int t, .int (nI m), .int (nI k), .ref zc, .ref zr, .ref zb, .ref z1, .ref z2, .ref z3, .ref z4, .ref z5, .ref zm, .ref zmr, .ref zmb, .int mt, .ref zca, .ref zcw, .int (nI c), .ref zg, .ref zt, .ref zs, .ref zf, .ref zy, .ref zso, .ref zsf, .ref zsm, .int nt, .int nsh, .ref ztp, .ref zrw, .ref zpp, .int (nI tn), .int (nI n), .int rdw, .int rdh, .ref zsz, .ref zit, .ref zk, .int (bI itk)])), (zc, ia G 16 f), (zpp, ia G 300 ((spY W f ps H).2))]) rfl ?_
        refine j_eqw (ws' := [(md, .inr (9, [.int (nI W), .int (nI H), .int t, .int (nI m), .int (nI k), .ref zc, .ref zr, .ref zb, .ref z1, .ref z2, .ref z3, .ref z4, .ref z5, .ref zm, .ref zmr, .ref zmb, .int mt, .ref zca, .ref zcw, .int (nI c), .ref zg, .ref zt, .ref zs, .ref zf, .ref zy, .ref zso, .ref zsf, .ref zsm, .int nt, .int nsh, .ref ztp, .ref zrw, .ref zpp, .int (nI tn), .int (nI ((spY W f ps H).1)), .int rdw, .int rdh, .ref zsz, .ref zit, .ref zk, .int (bI itk)])), (zc, ia G 16 f), (zpp, ia G 300 ((spY W f ps H).2))]) (congrArg (fun ζ : Int32 => ([(md, .inr (9, [.int (nI W), .int (nI H), .int t, .int (nI m), .int (nI k), .ref zc, .ref zr, .ref zb, .ref z1, .ref z2, .ref z3, .ref z4, .ref z5, .ref zm, .ref zmr, .ref zmb, .int mt, .ref zca, .ref zcw, .int (nI c), .ref zg, .ref zt, .ref zs, .ref zf, .ref zy, .ref zso, .ref zsf, .ref zsm, .int nt, .int nsh, .ref ztp, .ref zrw, .ref zpp, .int (nI tn), .int ζ, .int rdw, .int rdh, .ref zsz, .ref zit, .ref zk, .int (bI itk)])), (zc, ia G 16 f), (zpp, ia G 300 ((spY W f ps H).2))] : va_W)) (show nI n = nI ((spY W f ps H).1) from by rw [← hyH, ← h3])) ?_
        exact j_iret (pc := 106) hX hR dX9_spell_106 ⟨congrArg some (show Value.int (nI n) = Value.int (nI ((spY W f ps H).1)) from by rw [← hyH, ← h3]), rfl⟩
      · skip
        have hyw : y * W ≤ 15 * 16 := Nat.mul_le_mul (by omega) hW2
        refine j_iload_n (pc := 15) hX dX9_spell_15 1 rfl ?_
        refine j_if_le (pc := 16) (tgt := 40) hX dX9_spell_16 (by decide) (nI_toInt (n := y) (by omega)) (fun c16 => ?_) (fun c16 => ?_)
        · skip
          refine j_iconstN (pc := 40) (j := 0) hX dX9_spell_40 rfl ?_
          refine j_istore_n (pc := 41) (lv' := [(2, .int (nI 0)), (0, .ref md), (1, .int (nI y))]) hX dX9_spell_41 (by decide) rfl ?_
          have L42 : ∀ (m42 : Nat) (xx n4 : Nat) (s4 : Nat → Int32) (hxx : xx ≤ W) (h4 : (n4, s4) = spX f y xx (spS y (n, s3))) (hn4 : n4 = y * W + y + xx), W - xx < m42 → J X G 3 0 0 [(md, .inr (9, [.int (nI W), .int (nI H), .int t, .int (nI m), .int (nI k), .ref zc, .ref zr, .ref zb, .ref z1, .ref z2, .ref z3, .ref z4, .ref z5, .ref zm, .ref zmr, .ref zmb, .int mt, .ref zca, .ref zcw, .int (nI c), .ref zg, .ref zt, .ref zs, .ref zf, .ref zy, .ref zso, .ref zsf, .ref zsm, .int nt, .int nsh, .ref ztp, .ref zrw, .ref zpp, .int (nI tn), .int (nI n4), .int rdw, .int rdh, .ref zsz, .ref zit, .ref zk, .int (bI itk)])), (zc, ia G 16 f), (zpp, ia G 300 s4)] [(0, .ref md), (1, .int (nI y)), (2, .int (nI xx))] 42 [] := by
            intro m42
            induction m42 with
            | zero => intro xx n4 s4 hxx h4 hn4 hm42; exact absurd hm42 (Nat.not_lt_zero _)
            | succ m42 ih42 =>
              intro xx n4 s4 hxx h4 hn4 hm42
              refine j_iload_n (pc := 42) hX dX9_spell_42 2 rfl ?_
              refine j_aload_n (pc := 43) hX dX9_spell_43 0 rfl ?_
              refine j_get (pc := 44) hX f_RX9_9 0 rfl rfl dX9_spell_44 ?_
              refine j_icmp_ge (pc := 47) (tgt := 96) hX dX9_spell_47 (by decide) (nI_toInt (n := xx) (by omega)) (nI_toInt (n := W) (by omega)) (fun c47 => ?_) (fun c47 => ?_)
              · skip
                refine j_iinc (pc := 96) (q := 1) (v := nI (y + 1)) (lv' := [(1, .int (nI (y + 1))), (0, .ref md), (2, .int (nI xx))]) hX dX9_spell_96 rfl (nI_inc _ 1) (by decide) rfl ?_
                refine j_goto (pc := 99) (tgt := 7) hX dX9_spell_99 (by decide) ?_
                refine j_lv [1, 0] (lv' := [(0, .ref md), (1, .int (nI (y + 1)))]) rfl ?_
                exact ih7 (y + 1) n4 s4 (by omega) (by rw [h4, show xx = W from by omega]; show spX f y W (spS y (n, s3)) = spX f y W (spS y (spY W f ps y)); rw [h3]) (by rw [Nat.succ_mul]; omega) (by omega)
              · skip
                refine j_aload_n (pc := 50) hX dX9_spell_50 0 rfl ?_
                refine j_get (pc := 51) hX f_RX9_88 0 rfl rfl dX9_spell_51 ?_
                refine j_aload_n (pc := 54) hX dX9_spell_54 0 rfl ?_
                refine j_get (pc := 55) hX f_RX9_252 0 rfl rfl dX9_spell_55 ?_
                refine j_aload_n (pc := 58) hX dX9_spell_58 0 rfl ?_
                refine j_get (pc := 59) hX f_RX9_18 0 rfl rfl dX9_spell_59 ?_
                refine j_iload_n (pc := 62) hX dX9_spell_62 1 rfl ?_
                refine j_ialdN (pc := 63) (j := y) hX 1 rfl (by omega) (by omega) dX9_spell_63 ?_
                refine j_iload_n (pc := 64) hX dX9_spell_64 2 rfl ?_
                refine j_ishr (pc := 65) hX dX9_spell_65 ?_
                refine j_iconstN (pc := 66) (j := 1) hX dX9_spell_66 rfl ?_
                refine j_iand (pc := 67) hX dX9_spell_67 ?_
                refine j_topi (y := bI (bt (f y) xx)) (bt_raw _ (by omega)) ?_
                refine j_iconstN (pc := 68) (j := 1) hX dX9_spell_68 rfl ?_
                refine j_icmp_ne (pc := 69) (tgt := 77) hX dX9_spell_69 (by decide) (bI_toInt (bt (f y) xx)) (nI_toInt (n := 1) (by decide)) (fun c69 => ?_) (fun c69 => ?_)
                · skip
                  have c69 := bne1 c69
                  refine j_bipush (pc := 77) (v := nI 46) hX dX9_spell_77 (by decide) ?_
                  refine j_iastN (pc := 79) (j := n4) (ws' := [(md, .inr (9, [.int (nI W), .int (nI H), .int t, .int (nI m), .int (nI k), .ref zc, .ref zr, .ref zb, .ref z1, .ref z2, .ref z3, .ref z4, .ref z5, .ref zm, .ref zmr, .ref zmb, .int mt, .ref zca, .ref zcw, .int (nI c), .ref zg, .ref zt, .ref zs, .ref zf, .ref zy, .ref zso, .ref zsf, .ref zsm, .int nt, .int nsh, .ref ztp, .ref zrw, .ref zpp, .int (nI tn), .int (nI n4), .int rdw, .int rdh, .ref zsz, .ref zit, .ref zk, .int (bI itk)])), (zc, ia G 16 f), (zpp, ia G 300 (upd s4 n4 (nI 46)))]) hX 2 rfl (by omega) (by omega) rfl dX9_spell_79 ?_
                  refine j_aload_n (pc := 80) hX dX9_spell_80 0 rfl ?_
                  refine j_dup (pc := 81) hX dX9_spell_81 rfl ?_
                  refine j_get (pc := 82) hX f_RX9_252 0 rfl rfl dX9_spell_82 ?_
                  refine j_iconstN (pc := 85) (j := 1) hX dX9_spell_85 rfl ?_
                  refine j_iadd (pc := 86) hX dX9_spell_86 ?_
                  refine j_topi (y := nI (n4 + 1)) (nI_add _ _) ?_
                  refine j_put (pc := 87) (ws' := [(md, .inr (9, [.int (nI W), .int (nI H), .int t, .int (nI m), .int (nI k), .ref zc, .ref zr, .ref zb, .ref z1, .ref z2, .ref z3, .ref z4, .ref z5, .ref zm, .ref zmr, .ref zmb, .int mt, .ref zca, .ref zcw, .int (nI c), .ref zg, .ref zt, .ref zs, .ref zf, .ref zy, .ref zso, .ref zsf, .ref zsm, .int nt, .int nsh, .ref ztp, .ref zrw, .ref zpp, .int (nI tn), .int (nI (n4 + 1)), .int rdw, .int rdh, .ref zsz, .ref zit, .ref zk, .int (bI itk)])), (zc, ia G 16 f), (zpp, ia G 300 (upd s4 n4 (nI 46)))]) hX f_RX9_252 0 rfl rfl rfl (Nat.le_of_ble_eq_true rfl) rfl dX9_spell_87 ?_
                  refine j_iinc (pc := 90) (q := 2) (v := nI (xx + 1)) (lv' := [(2, .int (nI (xx + 1))), (0, .ref md), (1, .int (nI y))]) hX dX9_spell_90 rfl (nI_inc _ 1) (by decide) rfl ?_
                  refine j_goto (pc := 93) (tgt := 42) hX dX9_spell_93 (by decide) ?_
                  refine j_lv [1, 2, 0] (lv' := [(0, .ref md), (1, .int (nI y)), (2, .int (nI (xx + 1)))]) rfl ?_
                  exact ih42 (xx + 1) (n4 + 1) (upd s4 n4 (nI 46)) (by omega) (by show _ = ((spX f y xx (spS y (n, s3))).1 + 1, upd (spX f y xx (spS y (n, s3))).2 (spX f y xx (spS y (n, s3))).1 (if bt (f y) xx then nI 35 else nI 46)); rw [← h4, c69]; rfl) (by omega) (by omega)
                · skip
                  have c69 := beq1 c69
                  refine j_bipush (pc := 72) (v := nI 35) hX dX9_spell_72 (by decide) ?_
                  refine j_goto (pc := 74) (tgt := 79) hX dX9_spell_74 (by decide) ?_
                  refine j_iastN (pc := 79) (j := n4) (ws' := [(md, .inr (9, [.int (nI W), .int (nI H), .int t, .int (nI m), .int (nI k), .ref zc, .ref zr, .ref zb, .ref z1, .ref z2, .ref z3, .ref z4, .ref z5, .ref zm, .ref zmr, .ref zmb, .int mt, .ref zca, .ref zcw, .int (nI c), .ref zg, .ref zt, .ref zs, .ref zf, .ref zy, .ref zso, .ref zsf, .ref zsm, .int nt, .int nsh, .ref ztp, .ref zrw, .ref zpp, .int (nI tn), .int (nI n4), .int rdw, .int rdh, .ref zsz, .ref zit, .ref zk, .int (bI itk)])), (zc, ia G 16 f), (zpp, ia G 300 (upd s4 n4 (nI 35)))]) hX 2 rfl (by omega) (by omega) rfl dX9_spell_79 ?_
                  refine j_aload_n (pc := 80) hX dX9_spell_80 0 rfl ?_
                  refine j_dup (pc := 81) hX dX9_spell_81 rfl ?_
                  refine j_get (pc := 82) hX f_RX9_252 0 rfl rfl dX9_spell_82 ?_
                  refine j_iconstN (pc := 85) (j := 1) hX dX9_spell_85 rfl ?_
                  refine j_iadd (pc := 86) hX dX9_spell_86 ?_
                  refine j_topi (y := nI (n4 + 1)) (nI_add _ _) ?_
                  refine j_put (pc := 87) (ws' := [(md, .inr (9, [.int (nI W), .int (nI H), .int t, .int (nI m), .int (nI k), .ref zc, .ref zr, .ref zb, .ref z1, .ref z2, .ref z3, .ref z4, .ref z5, .ref zm, .ref zmr, .ref zmb, .int mt, .ref zca, .ref zcw, .int (nI c), .ref zg, .ref zt, .ref zs, .ref zf, .ref zy, .ref zso, .ref zsf, .ref zsm, .int nt, .int nsh, .ref ztp, .ref zrw, .ref zpp, .int (nI tn), .int (nI (n4 + 1)), .int rdw, .int rdh, .ref zsz, .ref zit, .ref zk, .int (bI itk)])), (zc, ia G 16 f), (zpp, ia G 300 (upd s4 n4 (nI 35)))]) hX f_RX9_252 0 rfl rfl rfl (Nat.le_of_ble_eq_true rfl) rfl dX9_spell_87 ?_
                  refine j_iinc (pc := 90) (q := 2) (v := nI (xx + 1)) (lv' := [(2, .int (nI (xx + 1))), (0, .ref md), (1, .int (nI y))]) hX dX9_spell_90 rfl (nI_inc _ 1) (by decide) rfl ?_
                  refine j_goto (pc := 93) (tgt := 42) hX dX9_spell_93 (by decide) ?_
                  refine j_lv [1, 2, 0] (lv' := [(0, .ref md), (1, .int (nI y)), (2, .int (nI (xx + 1)))]) rfl ?_
                  exact ih42 (xx + 1) (n4 + 1) (upd s4 n4 (nI 35)) (by omega) (by show _ = ((spX f y xx (spS y (n, s3))).1 + 1, upd (spX f y xx (spS y (n, s3))).2 (spX f y xx (spS y (n, s3))).1 (if bt (f y) xx then nI 35 else nI 46)); rw [← h4, c69]; rfl) (by omega) (by omega)
          refine j_lv [1, 2, 0] (lv' := [(0, .ref md), (1, .int (nI y)), (2, .int (nI 0))]) rfl ?_
          exact L42 ((W - 0) + 1) 0 n s3 (by omega) (by first | (show _ = spS y (n, s3); rw [spS, if_pos (by omega)]; done) | (show _ = spS y (n, s3); rw [spS, if_neg (by omega)]; done)) (by omega) (Nat.lt_succ_self _)
        · skip
          refine j_aload_n (pc := 19) hX dX9_spell_19 0 rfl ?_
          refine j_get (pc := 20) hX f_RX9_88 0 rfl rfl dX9_spell_20 ?_
          refine j_aload_n (pc := 23) hX dX9_spell_23 0 rfl ?_
          refine j_get (pc := 24) hX f_RX9_252 0 rfl rfl dX9_spell_24 ?_
          refine j_bipush (pc := 27) (v := nI 47) hX dX9_spell_27 (by decide) ?_
          refine j_iastN (pc := 29) (j := n) (ws' := [(md, .inr (9, [.int (nI W), .int (nI H), .int t, .int (nI m), .int (nI k), .ref zc, .ref zr, .ref zb, .ref z1, .ref z2, .ref z3, .ref z4, .ref z5, .ref zm, .ref zmr, .ref zmb, .int mt, .ref zca, .ref zcw, .int (nI c), .ref zg, .ref zt, .ref zs, .ref zf, .ref zy, .ref zso, .ref zsf, .ref zsm, .int nt, .int nsh, .ref ztp, .ref zrw, .ref zpp, .int (nI tn), .int (nI n), .int rdw, .int rdh, .ref zsz, .ref zit, .ref zk, .int (bI itk)])), (zc, ia G 16 f), (zpp, ia G 300 (upd s3 n (nI 47)))]) hX 2 rfl (by omega) (by omega) rfl dX9_spell_29 ?_
          refine j_aload_n (pc := 30) hX dX9_spell_30 0 rfl ?_
          refine j_dup (pc := 31) hX dX9_spell_31 rfl ?_
          refine j_get (pc := 32) hX f_RX9_252 0 rfl rfl dX9_spell_32 ?_
          refine j_iconstN (pc := 35) (j := 1) hX dX9_spell_35 rfl ?_
          refine j_iadd (pc := 36) hX dX9_spell_36 ?_
          refine j_topi (y := nI (n + 1)) (nI_add _ _) ?_
          refine j_put (pc := 37) (ws' := [(md, .inr (9, [.int (nI W), .int (nI H), .int t, .int (nI m), .int (nI k), .ref zc, .ref zr, .ref zb, .ref z1, .ref z2, .ref z3, .ref z4, .ref z5, .ref zm, .ref zmr, .ref zmb, .int mt, .ref zca, .ref zcw, .int (nI c), .ref zg, .ref zt, .ref zs, .ref zf, .ref zy, .ref zso, .ref zsf, .ref zsm, .int nt, .int nsh, .ref ztp, .ref zrw, .ref zpp, .int (nI tn), .int (nI (n + 1)), .int rdw, .int rdh, .ref zsz, .ref zit, .ref zk, .int (bI itk)])), (zc, ia G 16 f), (zpp, ia G 300 (upd s3 n (nI 47)))]) hX f_RX9_252 0 rfl rfl rfl (Nat.le_of_ble_eq_true rfl) rfl dX9_spell_37 ?_
          refine j_iconstN (pc := 40) (j := 0) hX dX9_spell_40 rfl ?_
          refine j_istore_n (pc := 41) (lv' := [(2, .int (nI 0)), (0, .ref md), (1, .int (nI y))]) hX dX9_spell_41 (by decide) rfl ?_
          have L42 : ∀ (m42 : Nat) (xx n4 : Nat) (s4 : Nat → Int32) (hxx : xx ≤ W) (h4 : (n4, s4) = spX f y xx (spS y (n, s3))) (hn4 : n4 = y * W + y + xx), W - xx < m42 → J X G 3 0 0 [(md, .inr (9, [.int (nI W), .int (nI H), .int t, .int (nI m), .int (nI k), .ref zc, .ref zr, .ref zb, .ref z1, .ref z2, .ref z3, .ref z4, .ref z5, .ref zm, .ref zmr, .ref zmb, .int mt, .ref zca, .ref zcw, .int (nI c), .ref zg, .ref zt, .ref zs, .ref zf, .ref zy, .ref zso, .ref zsf, .ref zsm, .int nt, .int nsh, .ref ztp, .ref zrw, .ref zpp, .int (nI tn), .int (nI n4), .int rdw, .int rdh, .ref zsz, .ref zit, .ref zk, .int (bI itk)])), (zc, ia G 16 f), (zpp, ia G 300 s4)] [(0, .ref md), (1, .int (nI y)), (2, .int (nI xx))] 42 [] := by
            intro m42
            induction m42 with
            | zero => intro xx n4 s4 hxx h4 hn4 hm42; exact absurd hm42 (Nat.not_lt_zero _)
            | succ m42 ih42 =>
              intro xx n4 s4 hxx h4 hn4 hm42
              refine j_iload_n (pc := 42) hX dX9_spell_42 2 rfl ?_
              refine j_aload_n (pc := 43) hX dX9_spell_43 0 rfl ?_
              refine j_get (pc := 44) hX f_RX9_9 0 rfl rfl dX9_spell_44 ?_
              refine j_icmp_ge (pc := 47) (tgt := 96) hX dX9_spell_47 (by decide) (nI_toInt (n := xx) (by omega)) (nI_toInt (n := W) (by omega)) (fun c47 => ?_) (fun c47 => ?_)
              · skip
                refine j_iinc (pc := 96) (q := 1) (v := nI (y + 1)) (lv' := [(1, .int (nI (y + 1))), (0, .ref md), (2, .int (nI xx))]) hX dX9_spell_96 rfl (nI_inc _ 1) (by decide) rfl ?_
                refine j_goto (pc := 99) (tgt := 7) hX dX9_spell_99 (by decide) ?_
                refine j_lv [1, 0] (lv' := [(0, .ref md), (1, .int (nI (y + 1)))]) rfl ?_
                exact ih7 (y + 1) n4 s4 (by omega) (by rw [h4, show xx = W from by omega]; show spX f y W (spS y (n, s3)) = spX f y W (spS y (spY W f ps y)); rw [h3]) (by rw [Nat.succ_mul]; omega) (by omega)
              · skip
                refine j_aload_n (pc := 50) hX dX9_spell_50 0 rfl ?_
                refine j_get (pc := 51) hX f_RX9_88 0 rfl rfl dX9_spell_51 ?_
                refine j_aload_n (pc := 54) hX dX9_spell_54 0 rfl ?_
                refine j_get (pc := 55) hX f_RX9_252 0 rfl rfl dX9_spell_55 ?_
                refine j_aload_n (pc := 58) hX dX9_spell_58 0 rfl ?_
                refine j_get (pc := 59) hX f_RX9_18 0 rfl rfl dX9_spell_59 ?_
                refine j_iload_n (pc := 62) hX dX9_spell_62 1 rfl ?_
                refine j_ialdN (pc := 63) (j := y) hX 1 rfl (by omega) (by omega) dX9_spell_63 ?_
                refine j_iload_n (pc := 64) hX dX9_spell_64 2 rfl ?_
                refine j_ishr (pc := 65) hX dX9_spell_65 ?_
                refine j_iconstN (pc := 66) (j := 1) hX dX9_spell_66 rfl ?_
                refine j_iand (pc := 67) hX dX9_spell_67 ?_
                refine j_topi (y := bI (bt (f y) xx)) (bt_raw _ (by omega)) ?_
                refine j_iconstN (pc := 68) (j := 1) hX dX9_spell_68 rfl ?_
                refine j_icmp_ne (pc := 69) (tgt := 77) hX dX9_spell_69 (by decide) (bI_toInt (bt (f y) xx)) (nI_toInt (n := 1) (by decide)) (fun c69 => ?_) (fun c69 => ?_)
                · skip
                  have c69 := bne1 c69
                  refine j_bipush (pc := 77) (v := nI 46) hX dX9_spell_77 (by decide) ?_
                  refine j_iastN (pc := 79) (j := n4) (ws' := [(md, .inr (9, [.int (nI W), .int (nI H), .int t, .int (nI m), .int (nI k), .ref zc, .ref zr, .ref zb, .ref z1, .ref z2, .ref z3, .ref z4, .ref z5, .ref zm, .ref zmr, .ref zmb, .int mt, .ref zca, .ref zcw, .int (nI c), .ref zg, .ref zt, .ref zs, .ref zf, .ref zy, .ref zso, .ref zsf, .ref zsm, .int nt, .int nsh, .ref ztp, .ref zrw, .ref zpp, .int (nI tn), .int (nI n4), .int rdw, .int rdh, .ref zsz, .ref zit, .ref zk, .int (bI itk)])), (zc, ia G 16 f), (zpp, ia G 300 (upd s4 n4 (nI 46)))]) hX 2 rfl (by omega) (by omega) rfl dX9_spell_79 ?_
                  refine j_aload_n (pc := 80) hX dX9_spell_80 0 rfl ?_
                  refine j_dup (pc := 81) hX dX9_spell_81 rfl ?_
                  refine j_get (pc := 82) hX f_RX9_252 0 rfl rfl dX9_spell_82 ?_
                  refine j_iconstN (pc := 85) (j := 1) hX dX9_spell_85 rfl ?_
                  refine j_iadd (pc := 86) hX dX9_spell_86 ?_
                  refine j_topi (y := nI (n4 + 1)) (nI_add _ _) ?_
                  refine j_put (pc := 87) (ws' := [(md, .inr (9, [.int (nI W), .int (nI H), .int t, .int (nI m), .int (nI k), .ref zc, .ref zr, .ref zb, .ref z1, .ref z2, .ref z3, .ref z4, .ref z5, .ref zm, .ref zmr, .ref zmb, .int mt, .ref zca, .ref zcw, .int (nI c), .ref zg, .ref zt, .ref zs, .ref zf, .ref zy, .ref zso, .ref zsf, .ref zsm, .int nt, .int nsh, .ref ztp, .ref zrw, .ref zpp, .int (nI tn), .int (nI (n4 + 1)), .int rdw, .int rdh, .ref zsz, .ref zit, .ref zk, .int (bI itk)])), (zc, ia G 16 f), (zpp, ia G 300 (upd s4 n4 (nI 46)))]) hX f_RX9_252 0 rfl rfl rfl (Nat.le_of_ble_eq_true rfl) rfl dX9_spell_87 ?_
                  refine j_iinc (pc := 90) (q := 2) (v := nI (xx + 1)) (lv' := [(2, .int (nI (xx + 1))), (0, .ref md), (1, .int (nI y))]) hX dX9_spell_90 rfl (nI_inc _ 1) (by decide) rfl ?_
                  refine j_goto (pc := 93) (tgt := 42) hX dX9_spell_93 (by decide) ?_
                  refine j_lv [1, 2, 0] (lv' := [(0, .ref md), (1, .int (nI y)), (2, .int (nI (xx + 1)))]) rfl ?_
                  exact ih42 (xx + 1) (n4 + 1) (upd s4 n4 (nI 46)) (by omega) (by show _ = ((spX f y xx (spS y (n, s3))).1 + 1, upd (spX f y xx (spS y (n, s3))).2 (spX f y xx (spS y (n, s3))).1 (if bt (f y) xx then nI 35 else nI 46)); rw [← h4, c69]; rfl) (by omega) (by omega)
                · skip
                  have c69 := beq1 c69
                  refine j_bipush (pc := 72) (v := nI 35) hX dX9_spell_72 (by decide) ?_
                  refine j_goto (pc := 74) (tgt := 79) hX dX9_spell_74 (by decide) ?_
                  refine j_iastN (pc := 79) (j := n4) (ws' := [(md, .inr (9, [.int (nI W), .int (nI H), .int t, .int (nI m), .int (nI k), .ref zc, .ref zr, .ref zb, .ref z1, .ref z2, .ref z3, .ref z4, .ref z5, .ref zm, .ref zmr, .ref zmb, .int mt, .ref zca, .ref zcw, .int (nI c), .ref zg, .ref zt, .ref zs, .ref zf, .ref zy, .ref zso, .ref zsf, .ref zsm, .int nt, .int nsh, .ref ztp, .ref zrw, .ref zpp, .int (nI tn), .int (nI n4), .int rdw, .int rdh, .ref zsz, .ref zit, .ref zk, .int (bI itk)])), (zc, ia G 16 f), (zpp, ia G 300 (upd s4 n4 (nI 35)))]) hX 2 rfl (by omega) (by omega) rfl dX9_spell_79 ?_
                  refine j_aload_n (pc := 80) hX dX9_spell_80 0 rfl ?_
                  refine j_dup (pc := 81) hX dX9_spell_81 rfl ?_
                  refine j_get (pc := 82) hX f_RX9_252 0 rfl rfl dX9_spell_82 ?_
                  refine j_iconstN (pc := 85) (j := 1) hX dX9_spell_85 rfl ?_
                  refine j_iadd (pc := 86) hX dX9_spell_86 ?_
                  refine j_topi (y := nI (n4 + 1)) (nI_add _ _) ?_
                  refine j_put (pc := 87) (ws' := [(md, .inr (9, [.int (nI W), .int (nI H), .int t, .int (nI m), .int (nI k), .ref zc, .ref zr, .ref zb, .ref z1, .ref z2, .ref z3, .ref z4, .ref z5, .ref zm, .ref zmr, .ref zmb, .int mt, .ref zca, .ref zcw, .int (nI c), .ref zg, .ref zt, .ref zs, .ref zf, .ref zy, .ref zso, .ref zsf, .ref zsm, .int nt, .int nsh, .ref ztp, .ref zrw, .ref zpp, .int (nI tn), .int (nI (n4 + 1)), .int rdw, .int rdh, .ref zsz, .ref zit, .ref zk, .int (bI itk)])), (zc, ia G 16 f), (zpp, ia G 300 (upd s4 n4 (nI 35)))]) hX f_RX9_252 0 rfl rfl rfl (Nat.le_of_ble_eq_true rfl) rfl dX9_spell_87 ?_
                  refine j_iinc (pc := 90) (q := 2) (v := nI (xx + 1)) (lv' := [(2, .int (nI (xx + 1))), (0, .ref md), (1, .int (nI y))]) hX dX9_spell_90 rfl (nI_inc _ 1) (by decide) rfl ?_
                  refine j_goto (pc := 93) (tgt := 42) hX dX9_spell_93 (by decide) ?_
                  refine j_lv [1, 2, 0] (lv' := [(0, .ref md), (1, .int (nI y)), (2, .int (nI (xx + 1)))]) rfl ?_
                  exact ih42 (xx + 1) (n4 + 1) (upd s4 n4 (nI 35)) (by omega) (by show _ = ((spX f y xx (spS y (n, s3))).1 + 1, upd (spX f y xx (spS y (n, s3))).2 (spX f y xx (spS y (n, s3))).1 (if bt (f y) xx then nI 35 else nI 46)); rw [← h4, c69]; rfl) (by omega) (by omega)
          refine j_lv [1, 2, 0] (lv' := [(0, .ref md), (1, .int (nI y)), (2, .int (nI 0))]) rfl ?_
          exact L42 ((W - 0) + 1) 0 (n + 1) (upd s3 n (nI 47)) (by omega) (by first | (show _ = spS y (n, s3); rw [spS, if_pos (by omega)]; done) | (show _ = spS y (n, s3); rw [spS, if_neg (by omega)]; done)) (by omega) (Nat.lt_succ_self _)
  refine j_lv [1, 0] (lv' := [(0, .ref md), (1, .int (nI 0))]) rfl ?_
  exact L7 ((H - 0) + 1) 0 0 ps (by omega) (rfl) (by omega) (Nat.lt_succ_self _)
set_option maxHeartbeats 4000000 in
set_option maxRecDepth 100000 in
theorem c_X9_paper_neg (G : GT) (md : Nat) (W : Nat) (H : Nat) (t : Int32) (m : Nat) (k : Nat) (zc : Nat) (zr : Nat) (zb : Nat) (z1 : Nat) (z2 : Nat) (z3 : Nat) (z4 : Nat) (z5 : Nat) (zm : Nat) (zmr : Nat) (zmb : Nat) (mt : Int32) (zca : Nat) (zcw : Nat) (c : Nat) (zg : Nat) (zt : Nat) (zs : Nat) (zf : Nat) (zy : Nat) (zso : Nat) (zsf : Nat) (zsm : Nat) (nt : Int32) (nsh : Int32) (ztp : Nat) (zrw : Nat) (zpp : Nat) (tn : Nat) (pn : Nat) (rdw : Int32) (rdh : Int32) (zsz : Nat) (zit : Nat) (zk : Nat) (itk : Bool) (i : Int32) (hb : i.toInt < 0) (l : Launch) : CT l G yX9_paper cX9_paper 2 (some .int) { frames := 0, cells := 0, slots := 0, locals := 0 } [.ref md, .int i] [(md, .inr (9, [.int (nI W), .int (nI H), .int t, .int (nI m), .int (nI k), .ref zc, .ref zr, .ref zb, .ref z1, .ref z2, .ref z3, .ref z4, .ref z5, .ref zm, .ref zmr, .ref zmb, .int mt, .ref zca, .ref zcw, .int (nI c), .ref zg, .ref zt, .ref zs, .ref zf, .ref zy, .ref zso, .ref zsf, .ref zsm, .int nt, .int nsh, .ref ztp, .ref zrw, .ref zpp, .int (nI tn), .int (nI pn), .int rdw, .int rdh, .ref zsz, .ref zit, .ref zk, .int (bI itk)]))] (fun vv ww => vv = some (.int (-1)) ∧ ww = [(md, .inr (9, [.int (nI W), .int (nI H), .int t, .int (nI m), .int (nI k), .ref zc, .ref zr, .ref zb, .ref z1, .ref z2, .ref z3, .ref z4, .ref z5, .ref zm, .ref zmr, .ref zmb, .int mt, .ref zca, .ref zcw, .int (nI c), .ref zg, .ref zt, .ref zs, .ref zf, .ref zy, .ref zso, .ref zsf, .ref zsm, .int nt, .int nsh, .ref ztp, .ref zrw, .ref zpp, .int (nI tn), .int (nI pn), .int rdw, .int rdh, .ref zsz, .ref zit, .ref zk, .int (bI itk)]))]) := by
  refine CT.of (lv := [(0, .ref md), (1, .int i)]) RX9 "paper" rfl rfl (by decide +kernel) (Nat.le_of_ble_eq_true rfl) rfl (fun X hX hR => ?_)
  refine j_iload_n (pc := 0) hX dX9_paper_0 1 rfl ?_
  refine j_if_ge (pc := 1) (tgt := 8) hX dX9_paper_1 (by decide) rfl (fun c1 => by exfalso; omega) (fun c1 => ?_)
  refine j_iconst (pc := 4) (v := (-1)) hX dX9_paper_4 (by decide) ?_
  refine j_goto (pc := 5) (tgt := 27) hX dX9_paper_5 (by decide) ?_
  exact j_iret (pc := 27) hX hR dX9_paper_27 ⟨rfl, rfl⟩
set_option maxHeartbeats 4000000 in
set_option maxRecDepth 100000 in
theorem c_X9_paper_in (G : GT) (md : Nat) (W : Nat) (H : Nat) (t : Int32) (m : Nat) (k : Nat) (zc : Nat) (zr : Nat) (zb : Nat) (z1 : Nat) (z2 : Nat) (z3 : Nat) (z4 : Nat) (z5 : Nat) (zm : Nat) (zmr : Nat) (zmb : Nat) (mt : Int32) (zca : Nat) (zcw : Nat) (c : Nat) (zg : Nat) (zt : Nat) (zs : Nat) (zf : Nat) (zy : Nat) (zso : Nat) (zsf : Nat) (zsm : Nat) (nt : Int32) (nsh : Int32) (ztp : Nat) (zrw : Nat) (zpp : Nat) (tn : Nat) (pn : Nat) (rdw : Int32) (rdh : Int32) (zsz : Nat) (zit : Nat) (zk : Nat) (itk : Bool) (ps : Nat → Int32) (i : Nat) (hi : i < pn) (hp : pn ≤ 271) (l : Launch) : CT l G yX9_paper cX9_paper 2 (some .int) { frames := 0, cells := 0, slots := 0, locals := 0 } [.ref md, .int (nI i)] [(md, .inr (9, [.int (nI W), .int (nI H), .int t, .int (nI m), .int (nI k), .ref zc, .ref zr, .ref zb, .ref z1, .ref z2, .ref z3, .ref z4, .ref z5, .ref zm, .ref zmr, .ref zmb, .int mt, .ref zca, .ref zcw, .int (nI c), .ref zg, .ref zt, .ref zs, .ref zf, .ref zy, .ref zso, .ref zsf, .ref zsm, .int nt, .int nsh, .ref ztp, .ref zrw, .ref zpp, .int (nI tn), .int (nI pn), .int rdw, .int rdh, .ref zsz, .ref zit, .ref zk, .int (bI itk)])), (zpp, ia G 300 ps)] (fun vv ww => vv = some (.int (ps i)) ∧ ww = [(md, .inr (9, [.int (nI W), .int (nI H), .int t, .int (nI m), .int (nI k), .ref zc, .ref zr, .ref zb, .ref z1, .ref z2, .ref z3, .ref z4, .ref z5, .ref zm, .ref zmr, .ref zmb, .int mt, .ref zca, .ref zcw, .int (nI c), .ref zg, .ref zt, .ref zs, .ref zf, .ref zy, .ref zso, .ref zsf, .ref zsm, .int nt, .int nsh, .ref ztp, .ref zrw, .ref zpp, .int (nI tn), .int (nI pn), .int rdw, .int rdh, .ref zsz, .ref zit, .ref zk, .int (bI itk)])), (zpp, ia G 300 ps)]) := by
  refine CT.of (lv := [(0, .ref md), (1, .int (nI i))]) RX9 "paper" rfl rfl (by decide +kernel) (Nat.le_of_ble_eq_true rfl) rfl (fun X hX hR => ?_)
  refine j_iload_n (pc := 0) hX dX9_paper_0 1 rfl ?_
  refine j_if_ge (pc := 1) (tgt := 8) hX dX9_paper_1 (by decide) (nI_toInt (n := i) (by omega)) (fun c1 => ?_) (fun c1 => by exfalso; omega)
  refine j_iload_n (pc := 8) hX dX9_paper_8 1 rfl ?_
  refine j_aload_n (pc := 9) hX dX9_paper_9 0 rfl ?_
  refine j_get (pc := 10) hX f_RX9_252 0 rfl rfl dX9_paper_10 ?_
  refine j_icmp_ge (pc := 13) (tgt := 25) hX dX9_paper_13 (by decide) (nI_toInt (n := i) (by omega)) (nI_toInt (n := pn) (by omega)) (fun c13 => by exfalso; omega) (fun c13 => ?_)
  refine j_aload_n (pc := 16) hX dX9_paper_16 0 rfl ?_
  refine j_get (pc := 17) hX f_RX9_88 0 rfl rfl dX9_paper_17 ?_
  refine j_iload_n (pc := 20) hX dX9_paper_20 1 rfl ?_
  refine j_ialdN (pc := 21) (j := i) hX 1 rfl (by omega) (by omega) dX9_paper_21 ?_
  refine j_goto (pc := 22) (tgt := 27) hX dX9_paper_22 (by decide) ?_
  exact j_iret (pc := 27) hX hR dX9_paper_27 ⟨rfl, rfl⟩
set_option maxHeartbeats 4000000 in
set_option maxRecDepth 100000 in
theorem c_X9_paper_out (G : GT) (md : Nat) (W : Nat) (H : Nat) (t : Int32) (m : Nat) (k : Nat) (zc : Nat) (zr : Nat) (zb : Nat) (z1 : Nat) (z2 : Nat) (z3 : Nat) (z4 : Nat) (z5 : Nat) (zm : Nat) (zmr : Nat) (zmb : Nat) (mt : Int32) (zca : Nat) (zcw : Nat) (c : Nat) (zg : Nat) (zt : Nat) (zs : Nat) (zf : Nat) (zy : Nat) (zso : Nat) (zsf : Nat) (zsm : Nat) (nt : Int32) (nsh : Int32) (ztp : Nat) (zrw : Nat) (zpp : Nat) (tn : Nat) (pn : Nat) (rdw : Int32) (rdh : Int32) (zsz : Nat) (zit : Nat) (zk : Nat) (itk : Bool) (i : Int32) (hi : (pn : Int) ≤ i.toInt) (hp : pn ≤ 271) (l : Launch) : CT l G yX9_paper cX9_paper 2 (some .int) { frames := 0, cells := 0, slots := 0, locals := 0 } [.ref md, .int i] [(md, .inr (9, [.int (nI W), .int (nI H), .int t, .int (nI m), .int (nI k), .ref zc, .ref zr, .ref zb, .ref z1, .ref z2, .ref z3, .ref z4, .ref z5, .ref zm, .ref zmr, .ref zmb, .int mt, .ref zca, .ref zcw, .int (nI c), .ref zg, .ref zt, .ref zs, .ref zf, .ref zy, .ref zso, .ref zsf, .ref zsm, .int nt, .int nsh, .ref ztp, .ref zrw, .ref zpp, .int (nI tn), .int (nI pn), .int rdw, .int rdh, .ref zsz, .ref zit, .ref zk, .int (bI itk)]))] (fun vv ww => vv = some (.int (-5)) ∧ ww = [(md, .inr (9, [.int (nI W), .int (nI H), .int t, .int (nI m), .int (nI k), .ref zc, .ref zr, .ref zb, .ref z1, .ref z2, .ref z3, .ref z4, .ref z5, .ref zm, .ref zmr, .ref zmb, .int mt, .ref zca, .ref zcw, .int (nI c), .ref zg, .ref zt, .ref zs, .ref zf, .ref zy, .ref zso, .ref zsf, .ref zsm, .int nt, .int nsh, .ref ztp, .ref zrw, .ref zpp, .int (nI tn), .int (nI pn), .int rdw, .int rdh, .ref zsz, .ref zit, .ref zk, .int (bI itk)]))]) := by
  refine CT.of (lv := [(0, .ref md), (1, .int i)]) RX9 "paper" rfl rfl (by decide +kernel) (Nat.le_of_ble_eq_true rfl) rfl (fun X hX hR => ?_)
  refine j_iload_n (pc := 0) hX dX9_paper_0 1 rfl ?_
  refine j_if_ge (pc := 1) (tgt := 8) hX dX9_paper_1 (by decide) rfl (fun c1 => ?_) (fun c1 => by exfalso; omega)
  refine j_iload_n (pc := 8) hX dX9_paper_8 1 rfl ?_
  refine j_aload_n (pc := 9) hX dX9_paper_9 0 rfl ?_
  refine j_get (pc := 10) hX f_RX9_252 0 rfl rfl dX9_paper_10 ?_
  refine j_icmp_ge (pc := 13) (tgt := 25) hX dX9_paper_13 (by decide) rfl (nI_toInt (n := pn) (by omega)) (fun c13 => ?_) (fun c13 => by exfalso; omega)
  refine j_bipush (pc := 25) (v := (-5)) hX dX9_paper_25 (by decide) ?_
  exact j_iret (pc := 27) hX hR dX9_paper_27 ⟨rfl, rfl⟩
