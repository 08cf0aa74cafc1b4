set_option maxHeartbeats 4000000 in
set_option maxRecDepth 100000 in
theorem c_X9_told100 (G : GT) (a_ : Nat) (ha : a_ < 256) (l : Launch) : CT l G yX9_told100 cX9_told100 1 (some .int) { frames := 0, cells := 0, slots := 0, locals := 0 } [.int (nI a_)] [] (fun vv ww => vv = some (.int (nI (100 * (a_ % 16) + a_ / 16))) ∧ ww = []) := by
  refine CT.of (lv := [(0, .int (nI a_))]) RX9 "told100" rfl rfl (by decide +kernel) (Nat.le_of_ble_eq_true rfl) rfl (fun X hX hR => ?_)
  refine j_bipush (pc := 0) (v := nI 100) hX dX9_told100_0 (by decide) ?_
  refine j_iload_n (pc := 2) hX dX9_told100_2 0 rfl ?_
  refine j_bipush (pc := 3) (v := nI 16) hX dX9_told100_3 (by decide) ?_
  refine j_irem (pc := 5) hX dX9_told100_5 (by decide) ?_
  refine j_topi (y := nI (a_ % 16)) (pk_rem (by omega) (by omega) (by omega)) ?_
  refine j_imul (pc := 6) hX dX9_told100_6 ?_
  refine j_topi (y := nI (100 * (a_ % 16))) (pk_mul _ _) ?_
  refine j_iload_n (pc := 7) hX dX9_told100_7 0 rfl ?_
  refine j_bipush (pc := 8) (v := nI 16) hX dX9_told100_8 (by decide) ?_
  refine j_idiv (pc := 10) hX dX9_told100_10 (by decide) ?_
  refine j_topi (y := nI (a_ / 16)) (pk_div (by omega) (by omega) (by omega)) ?_
  refine j_iadd (pc := 11) hX dX9_told100_11 ?_
  refine j_topi (y := nI (100 * (a_ % 16) + (a_ / 16))) (nI_add _ _) ?_
  exact j_iret (pc := 12) hX hR dX9_told100_12 ⟨congrArg some (show Value.int (nI (100 * (a_ % 16) + (a_ / 16))) = Value.int (nI (100 * (a_ % 16) + a_ / 16)) from by rfl), rfl⟩
set_option maxHeartbeats 4000000 in
set_option maxRecDepth 100000 in
theorem c_X9_findThing (G : GT) (md : Nat) (W : Nat) (H : Nat) (t : Int32) (m : Nat) (k : Nat) (zc : Nat) (zr : Nat) (zb : Nat) (z1 : Nat) (z2 : Nat) (z3 : Nat) (z4 : Nat) (z5 : Nat) (zm : Nat) (zmr : Nat) (zmb : Nat) (mt : Int32) (zca : Nat) (zcw : Nat) (c : Nat) (zg : Nat) (zt : Nat) (zs : Nat) (zf : Nat) (zy : Nat) (zso : Nat) (zsf : Nat) (zsm : Nat) (M_ : Nat) (nsh : Int32) (ztp : Nat) (zrw : Nat) (zpp : Nat) (tn : Nat) (pn : Nat) (rdw : Int32) (rdh : Int32) (zsz : Nat) (zit : Nat) (zk : Nat) (itk : Bool) (f : Nat → Int32) (La : Nat → Int32) (Sk : Nat → Nat) (Ff : Nat → Nat) (Zy : Nat → Nat) (a c0_ : Nat) (f : Nat → Int32) (E st_ : Nat → Nat) (hW1 : 2 ≤ W) (hW2 : W ≤ 16) (hH1 : 2 ≤ H) (hH2 : H ≤ 16) (hP : ThP (-5) W H f M_ La E st_) (hF : FZ M_ E st_ Ff Zy) (ho : onC W H f c0_) (h0 : La c0_ = -5) (hb : ∀ c_, onC W H f c_ → c_ < c0_ → La c_ ≠ -5) (l : Launch) : CT l G yX9_findThing cX9_findThing 8 none { frames := 0, cells := 0, slots := 0, locals := 0 } [.ref md, .ref a, .int (nI c0_)] [(md, .inr (9, [.int (nI W), .int (nI H), .int t, .int (nI m), .int (nI k), .ref zc, .ref zr, .ref zb, .ref z1, .ref z2, .ref z3, .ref z4, .ref z5, .ref zm, .ref zmr, .ref zmb, .int mt, .ref zca, .ref zcw, .int (nI c), .ref zg, .ref zt, .ref zs, .ref zf, .ref zy, .ref zso, .ref zsf, .ref zsm, .int (nI M_), .int nsh, .ref ztp, .ref zrw, .ref zpp, .int (nI tn), .int (nI pn), .int rdw, .int rdh, .ref zsz, .ref zit, .ref zk, .int (bI itk)])), (a, ia G 16 f), (zt, ia G 256 La), (zs, ia G 256 (fun ι => nI (Sk ι))), (zf, ia G 256 (fun ι => nI (Ff ι))), (zy, ia G 256 (fun ι => nI (Zy ι)))] (fun vv ww => ∃ (La2 : Nat → Int32) (Sk2 Ff2 Zy2 E2 : Nat → Nat) (nP2 : Nat), vv = none ∧ ww = [(md, .inr (9, [.int (nI W), .int (nI H), .int t, .int (nI m), .int (nI k), .ref zc, .ref zr, .ref zb, .ref z1, .ref z2, .ref z3, .ref z4, .ref z5, .ref zm, .ref zmr, .ref zmb, .int mt, .ref zca, .ref zcw, .int (nI c), .ref zg, .ref zt, .ref zs, .ref zf, .ref zy, .ref zso, .ref zsf, .ref zsm, .int (nI (M_ + 1)), .int nsh, .ref ztp, .ref zrw, .ref zpp, .int (nI tn), .int (nI pn), .int rdw, .int rdh, .ref zsz, .ref zit, .ref zk, .int (bI itk)])), (a, ia G 16 f), (zt, ia G 256 La2), (zs, ia G 256 (fun ι => nI (Sk2 ι))), (zf, ia G 256 (fun ι => nI (Ff2 ι))), (zy, ia G 256 (fun ι => nI (Zy2 ι)))] ∧ (ThP (-5) W H f (M_ + 1) La2 E2 (updN st_ (M_ + 1) nP2)) ∧ (FZ (M_ + 1) E2 (updN st_ (M_ + 1) nP2) Ff2 Zy2) ∧ (La2 c0_ ≠ -5) ∧ (∀ c_, La c_ ≠ -5 → La2 c_ = La c_) ∧ (∀ c_, ¬ onC W H f c_ → La2 c_ = La c_)) := by
  refine CT.of (lv := [(0, .ref md), (1, .ref a), (2, .int (nI c0_))]) RX9 "findThing" rfl rfl (by decide +kernel) (Nat.le_of_ble_eq_true rfl) rfl (fun X hX hR => ?_)
  have hM := ThP_64 hW2 hH2 hP
  have hc0 := onC_lt hH2 ho
  refine j_iconstN (pc := 0) (j := 1) hX dX9_findThing_0 rfl ?_
  refine j_istore_n (pc := 1) (lv' := [(3, .int (nI 1)), (0, .ref md), (1, .ref a), (2, .int (nI c0_))]) hX dX9_findThing_1 (by decide) rfl ?_
  refine j_aload_n (pc := 2) hX dX9_findThing_2 1 rfl ?_
  refine j_get (pc := 3) hX f_RX9_64 0 rfl rfl dX9_findThing_3 ?_
  refine j_iconstN (pc := 6) (j := 0) hX dX9_findThing_6 rfl ?_
  refine j_iload_n (pc := 7) hX dX9_findThing_7 3 rfl ?_
  refine j_iastN (pc := 8) (j := 0) (ws' := [(md, .inr (9, [.int (nI W), .int (nI H), .int t, .int (nI m), .int (nI k), .ref zc, .ref zr, .ref zb, .ref z1, .ref z2, .ref z3, .ref z4, .ref z5, .ref zm, .ref zmr, .ref zmb, .int mt, .ref zca, .ref zcw, .int (nI c), .ref zg, .ref zt, .ref zs, .ref zf, .ref zy, .ref zso, .ref zsf, .ref zsm, .int (nI M_), .int nsh, .ref ztp, .ref zrw, .ref zpp, .int (nI tn), .int (nI pn), .int rdw, .int rdh, .ref zsz, .ref zit, .ref zk, .int (bI itk)])), (a, ia G 16 f), (zt, ia G 256 La), (zs, ia G 256 (upd (fun ι => nI (Sk ι)) 0 (nI c0_))), (zf, ia G 256 (fun ι => nI (Ff ι))), (zy, ia G 256 (fun ι => nI (Zy ι)))]) hX 3 rfl (by omega) (by omega) rfl dX9_findThing_8 ?_
  refine j_ia (q0 := 3) (f := upd (fun ι => nI (Sk ι)) 0 (nI c0_)) (g := fun ι => nI (updN Sk 0 c0_ ι)) rfl (fun z hz => by exact updNI) (ws' := [(md, .inr (9, [.int (nI W), .int (nI H), .int t, .int (nI m), .int (nI k), .ref zc, .ref zr, .ref zb, .ref z1, .ref z2, .ref z3, .ref z4, .ref z5, .ref zm, .ref zmr, .ref zmb, .int mt, .ref zca, .ref zcw, .int (nI c), .ref zg, .ref zt, .ref zs, .ref zf, .ref zy, .ref zso, .ref zsf, .ref zsm, .int (nI M_), .int nsh, .ref ztp, .ref zrw, .ref zpp, .int (nI tn), .int (nI pn), .int rdw, .int rdh, .ref zsz, .ref zit, .ref zk, .int (bI itk)])), (a, ia G 16 f), (zt, ia G 256 La), (zs, ia G 256 (fun ι => nI (updN Sk 0 c0_ ι))), (zf, ia G 256 (fun ι => nI (Ff ι))), (zy, ia G 256 (fun ι => nI (Zy ι)))]) rfl ?_
  refine j_aload_n (pc := 9) hX dX9_findThing_9 1 rfl ?_
  refine j_get (pc := 10) hX f_RX9_61 0 rfl rfl dX9_findThing_10 ?_
  refine j_iload_n (pc := 13) hX dX9_findThing_13 3 rfl ?_
  refine j_aload_n (pc := 14) hX dX9_findThing_14 1 rfl ?_
  refine j_get (pc := 15) hX f_RX9_175 0 rfl rfl dX9_findThing_15 ?_
  refine j_iastN (pc := 18) (j := c0_) (ws' := [(md, .inr (9, [.int (nI W), .int (nI H), .int t, .int (nI m), .int (nI k), .ref zc, .ref zr, .ref zb, .ref z1, .ref z2, .ref z3, .ref z4, .ref z5, .ref zm, .ref zmr, .ref zmb, .int mt, .ref zca, .ref zcw, .int (nI c), .ref zg, .ref zt, .ref zs, .ref zf, .ref zy, .ref zso, .ref zsf, .ref zsm, .int (nI M_), .int nsh, .ref ztp, .ref zrw, .ref zpp, .int (nI tn), .int (nI pn), .int rdw, .int rdh, .ref zsz, .ref zit, .ref zk, .int (bI itk)])), (a, ia G 16 f), (zt, ia G 256 (upd La c0_ (nI M_))), (zs, ia G 256 (fun ι => nI (updN Sk 0 c0_ ι))), (zf, ia G 256 (fun ι => nI (Ff ι))), (zy, ia G 256 (fun ι => nI (Zy ι)))]) hX 2 rfl (by omega) (by omega) rfl dX9_findThing_18 ?_
  refine j_aload_n (pc := 19) hX dX9_findThing_19 1 rfl ?_
  refine j_get (pc := 20) hX f_RX9_67 0 rfl rfl dX9_findThing_20 ?_
  refine j_aload_n (pc := 23) hX dX9_findThing_23 1 rfl ?_
  refine j_get (pc := 24) hX f_RX9_175 0 rfl rfl dX9_findThing_24 ?_
  refine j_iload_n (pc := 27) hX dX9_findThing_27 3 rfl ?_
  refine j_iastN (pc := 28) (j := M_) (ws' := [(md, .inr (9, [.int (nI W), .int (nI H), .int t, .int (nI m), .int (nI k), .ref zc, .ref zr, .ref zb, .ref z1, .ref z2, .ref z3, .ref z4, .ref z5, .ref zm, .ref zmr, .ref zmb, .int mt, .ref zca, .ref zcw, .int (nI c), .ref zg, .ref zt, .ref zs, .ref zf, .ref zy, .ref zso, .ref zsf, .ref zsm, .int (nI M_), .int nsh, .ref ztp, .ref zrw, .ref zpp, .int (nI tn), .int (nI pn), .int rdw, .int rdh, .ref zsz, .ref zit, .ref zk, .int (bI itk)])), (a, ia G 16 f), (zt, ia G 256 (upd La c0_ (nI M_))), (zs, ia G 256 (fun ι => nI (updN Sk 0 c0_ ι))), (zf, ia G 256 (upd (fun ι => nI (Ff ι)) M_ (nI c0_))), (zy, ia G 256 (fun ι => nI (Zy ι)))]) hX 4 rfl (by omega) (by omega) rfl dX9_findThing_28 ?_
  refine j_ia (q0 := 4) (f := upd (fun ι => nI (Ff ι)) M_ (nI c0_)) (g := fun ι => nI (updN Ff M_ c0_ ι)) rfl (fun z hz => by exact updNI) (ws' := [(md, .inr (9, [.int (nI W), .int (nI H), .int t, .int (nI m), .int (nI k), .ref zc, .ref zr, .ref zb, .ref z1, .ref z2, .ref z3, .ref z4, .ref z5, .ref zm, .ref zmr, .ref zmb, .int mt, .ref zca, .ref zcw, .int (nI c), .ref zg, .ref zt, .ref zs, .ref zf, .ref zy, .ref zso, .ref zsf, .ref zsm, .int (nI M_), .int nsh, .ref ztp, .ref zrw, .ref zpp, .int (nI tn), .int (nI pn), .int rdw, .int rdh, .ref zsz, .ref zit, .ref zk, .int (bI itk)])), (a, ia G 16 f), (zt, ia G 256 (upd La c0_ (nI M_))), (zs, ia G 256 (fun ι => nI (updN Sk 0 c0_ ι))), (zf, ia G 256 (fun ι => nI (updN Ff M_ c0_ ι))), (zy, ia G 256 (fun ι => nI (Zy ι)))]) rfl ?_
  refine j_aload_n (pc := 29) hX dX9_findThing_29 1 rfl ?_
  refine j_get (pc := 30) hX f_RX9_70 0 rfl rfl dX9_findThing_30 ?_
  refine j_aload_n (pc := 33) hX dX9_findThing_33 1 rfl ?_
  refine j_get (pc := 34) hX f_RX9_175 0 rfl rfl dX9_findThing_34 ?_
  refine j_iconstN (pc := 37) (j := 0) hX dX9_findThing_37 rfl ?_
  refine j_iastN (pc := 38) (j := M_) (ws' := [(md, .inr (9, [.int (nI W), .int (nI H), .int t, .int (nI m), .int (nI k), .ref zc, .ref zr, .ref zb, .ref z1, .ref z2, .ref z3, .ref z4, .ref z5, .ref zm, .ref zmr, .ref zmb, .int mt, .ref zca, .ref zcw, .int (nI c), .ref zg, .ref zt, .ref zs, .ref zf, .ref zy, .ref zso, .ref zsf, .ref zsm, .int (nI M_), .int nsh, .ref ztp, .ref zrw, .ref zpp, .int (nI tn), .int (nI pn), .int rdw, .int rdh, .ref zsz, .ref zit, .ref zk, .int (bI itk)])), (a, ia G 16 f), (zt, ia G 256 (upd La c0_ (nI M_))), (zs, ia G 256 (fun ι => nI (updN Sk 0 c0_ ι))), (zf, ia G 256 (fun ι => nI (updN Ff M_ c0_ ι))), (zy, ia G 256 (upd (fun ι => nI (Zy ι)) M_ (nI 0)))]) hX 5 rfl (by omega) (by omega) rfl dX9_findThing_38 ?_
  refine j_ia (q0 := 5) (f := upd (fun ι => nI (Zy ι)) M_ (nI 0)) (g := fun ι => nI (updN Zy M_ 0 ι)) rfl (fun z hz => by exact updNI) (ws' := [(md, .inr (9, [.int (nI W), .int (nI H), .int t, .int (nI m), .int (nI k), .ref zc, .ref zr, .ref zb, .ref z1, .ref z2, .ref z3, .ref z4, .ref z5, .ref zm, .ref zmr, .ref zmb, .int mt, .ref zca, .ref zcw, .int (nI c), .ref zg, .ref zt, .ref zs, .ref zf, .ref zy, .ref zso, .ref zsf, .ref zsm, .int (nI M_), .int nsh, .ref ztp, .ref zrw, .ref zpp, .int (nI tn), .int (nI pn), .int rdw, .int rdh, .ref zsz, .ref zit, .ref zk, .int (bI itk)])), (a, ia G 16 f), (zt, ia G 256 (upd La c0_ (nI M_))), (zs, ia G 256 (fun ι => nI (updN Sk 0 c0_ ι))), (zf, ia G 256 (fun ι => nI (updN Ff M_ c0_ ι))), (zy, ia G 256 (fun ι => nI (updN Zy M_ 0 ι)))]) rfl ?_
  have L39 : ∀ (m39 : Nat) (top n3 : Nat) (La3 : Nat → Int32) (Sk3 E3 Zy3 : Nat → Nat) (hFl : Flo W H f M_ c0_ La E (st_ M_) La3 E3 n3 Sk3 top (fun _ => False)) (hn : n3 = st_ M_ + Zy3 M_ + top) (hz : ∀ k, k < M_ → Zy3 k = Zy k), 256 - Zy3 M_ < m39 → J X G 8 0 0 [(md, .inr (9, [.int (nI W), .int (nI H), .int t, .int (nI m), .int (nI k), .ref zc, .ref zr, .ref zb, .ref z1, .ref z2, .ref z3, .ref z4, .ref z5, .ref zm, .ref zmr, .ref zmb, .int mt, .ref zca, .ref zcw, .int (nI c), .ref zg, .ref zt, .ref zs, .ref zf, .ref zy, .ref zso, .ref zsf, .ref zsm, .int (nI M_), .int nsh, .ref ztp, .ref zrw, .ref zpp, .int (nI tn), .int (nI pn), .int rdw, .int rdh, .ref zsz, .ref zit, .ref zk, .int (bI itk)])), (a, ia G 16 f), (zt, ia G 256 La3), (zs, ia G 256 (fun ι => nI (Sk3 ι))), (zf, ia G 256 (fun ι => nI (updN Ff M_ c0_ ι))), (zy, ia G 256 (fun ι => nI (Zy3 ι)))] [(0, .ref md), (1, .ref a), (2, .int (nI c0_)), (3, .int (nI top))] 39 [] := by
    intro m39
    induction m39 with
    | zero => intro top n3 La3 Sk3 E3 Zy3 hFl hn hz hm39; exact absurd hm39 (Nat.not_lt_zero _)
    | succ m39 ih39 =>
      intro top n3 La3 Sk3 E3 Zy3 hFl hn hz hm39
      have hle := Ls_le (Flo_le hH2 (by omega) hP hFl)
      refine j_iload_n (pc := 39) hX dX9_findThing_39 3 rfl ?_
      refine j_if_le (pc := 40) (tgt := 199) hX dX9_findThing_40 (by decide) (nI_toInt (n := top) (by omega)) (fun c40 => ?_) (fun c40 => ?_)
      · skip
        have htop : top = 0 := by omega
        subst htop
        have hS := Flo_fin ⟨hW1, hW2⟩ ⟨hH1, hH2⟩ (by omega) hP ho h0 hb hFl
        have hF2 := FZ_s hP hFl hF (by omega) hz
        refine j_aload_n (pc := 199) hX dX9_findThing_199 0 rfl ?_
        refine j_dup (pc := 200) hX dX9_findThing_200 rfl ?_
        refine j_get (pc := 201) hX f_RX9_175 0 rfl rfl dX9_findThing_201 ?_
        refine j_iconstN (pc := 204) (j := 1) hX dX9_findThing_204 rfl ?_
        refine j_iadd (pc := 205) hX dX9_findThing_205 ?_
        refine j_topi (y := nI (M_ + 1)) (nI_add _ _) ?_
        refine j_put (pc := 206) (ws' := [(md, .inr (9, [.int (nI W), .int (nI H), .int t, .int (nI m), .int (nI k), .ref zc, .ref zr, .ref zb, .ref z1, .ref z2, .ref z3, .ref z4, .ref z5, .ref zm, .ref zmr, .ref zmb, .int mt, .ref zca, .ref zcw, .int (nI c), .ref zg, .ref zt, .ref zs, .ref zf, .ref zy, .ref zso, .ref zsf, .ref zsm, .int (nI (M_ + 1)), .int nsh, .ref ztp, .ref zrw, .ref zpp, .int (nI tn), .int (nI pn), .int rdw, .int rdh, .ref zsz, .ref zit, .ref zk, .int (bI itk)])), (a, ia G 16 f), (zt, ia G 256 La3), (zs, ia G 256 (fun ι => nI (Sk3 ι))), (zf, ia G 256 (fun ι => nI (updN Ff M_ c0_ ι))), (zy, ia G 256 (fun ι => nI (Zy3 ι)))]) hX f_RX9_175 0 rfl rfl rfl (Nat.le_of_ble_eq_true rfl) rfl dX9_findThing_206 ?_
        refine j_ia (q0 := 4) (f := fun ι => nI (updN Ff M_ c0_ ι)) (g := fun ι => nI ((updN Ff M_ c0_) ι)) rfl (fun z hz => by rfl) (ws' := [(md, .inr (9, [.int (nI W), .int (nI H), .int t, .int (nI m), .int (nI k), .ref zc, .ref zr, .ref zb, .ref z1, .ref z2, .ref z3, .ref z4, .ref z5, .ref zm, .ref zmr, .ref zmb, .int mt, .ref zca, .ref zcw, .int (nI c), .ref zg, .ref zt, .ref zs, .ref zf, .ref zy, .ref zso, .ref zsf, .ref zsm, .int (nI (M_ + 1)), .int nsh, .ref ztp, .ref zrw, .ref zpp, .int (nI tn), .int (nI pn), .int rdw, .int rdh, .ref zsz, .ref zit, .ref zk, .int (bI itk)])), (a, ia G 16 f), (zt, ia G 256 La3), (zs, ia G 256 (fun ι => nI (Sk3 ι))), (zf, ia G 256 (fun ι => nI ((updN Ff M_ c0_) ι))), (zy, ia G 256 (fun ι => nI (Zy3 ι)))]) rfl ?_
        exact j_vret (pc := 209) hX hR dX9_findThing_209 ⟨La3, Sk3, (updN Ff M_ c0_), Zy3, E3, n3, rfl, rfl, (hS), (hF2), (fun z => nIm5 (M := M_) (by omega) (by rw [← (hFl.1.2.2.2.2.1 (st_ M_) (Nat.le_refl _) hFl.2.2.1).2.2, hFl.2.1, z])), (hFl.1.2.2.1), (fun c_ hno => Classical.byContradiction fun z => by by_cases q : La c_ = -5; (rcases hFl.1.2.2.2.1 c_ q with e | ⟨_, i, i1, i2, e⟩; exact z (e.trans q.symm); exact hno (by rw [← e]; exact (hFl.1.2.2.2.2.1 i i1 i2).1.1)); exact z (hFl.1.2.2.1 c_ q))⟩
      · skip
        refine j_iinc (pc := 43) (q := 3) (v := nI (top - 1)) (lv' := [(3, .int (nI (top - 1))), (0, .ref md), (1, .ref a), (2, .int (nI c0_))]) hX dX9_findThing_43 rfl (nI_dec _ 1 (by omega)) (by decide) rfl ?_
        have hat := Flo_at hFl (j := top - 1) (by omega)
        have ha2 := onC_lt hH2 hat.1
        refine j_aload_n (pc := 46) hX dX9_findThing_46 1 rfl ?_
        refine j_get (pc := 47) hX f_RX9_64 0 rfl rfl dX9_findThing_47 ?_
        refine j_iload_n (pc := 50) hX dX9_findThing_50 0 rfl ?_
        refine j_ialdN (pc := 51) (j := top - 1) hX 3 rfl (by omega) (by omega) dX9_findThing_51 ?_
        refine j_istore (pc := 52) (lv' := [(4, .int (nI (Sk3 (top - 1)))), (3, .int (nI (top - 1))), (0, .ref md), (1, .ref a), (2, .int (nI c0_))]) hX dX9_findThing_52 (by decide) rfl ?_
        refine j_aload_n (pc := 54) hX dX9_findThing_54 2 rfl ?_
        refine j_get (pc := 55) hX f_RX9_70 0 rfl rfl dX9_findThing_55 ?_
        refine j_aload_n (pc := 58) hX dX9_findThing_58 2 rfl ?_
        refine j_get (pc := 59) hX f_RX9_175 0 rfl rfl dX9_findThing_59 ?_
        refine j_dup2 (pc := 62) hX dX9_findThing_62 rfl rfl ?_
        refine j_ialdN (pc := 63) (j := M_) hX 5 rfl (by omega) (by omega) dX9_findThing_63 ?_
        refine j_iconstN (pc := 64) (j := 1) hX dX9_findThing_64 rfl ?_
        refine j_iadd (pc := 65) hX dX9_findThing_65 ?_
        refine j_topi (y := nI (Zy3 M_ + 1)) (nI_add _ _) ?_
        refine j_iastN (pc := 66) (j := M_) (ws' := [(md, .inr (9, [.int (nI W), .int (nI H), .int t, .int (nI m), .int (nI k), .ref zc, .ref zr, .ref zb, .ref z1, .ref z2, .ref z3, .ref z4, .ref z5, .ref zm, .ref zmr, .ref zmb, .int mt, .ref zca, .ref zcw, .int (nI c), .ref zg, .ref zt, .ref zs, .ref zf, .ref zy, .ref zso, .ref zsf, .ref zsm, .int (nI M_), .int nsh, .ref ztp, .ref zrw, .ref zpp, .int (nI tn), .int (nI pn), .int rdw, .int rdh, .ref zsz, .ref zit, .ref zk, .int (bI itk)])), (a, ia G 16 f), (zt, ia G 256 La3), (zs, ia G 256 (fun ι => nI (Sk3 ι))), (zf, ia G 256 (fun ι => nI (updN Ff M_ c0_ ι))), (zy, ia G 256 (upd (fun ι => nI (Zy3 ι)) M_ (nI (Zy3 M_ + 1))))]) hX 5 rfl (by omega) (by omega) rfl dX9_findThing_66 ?_
        refine j_ia (q0 := 5) (f := upd (fun ι => nI (Zy3 ι)) M_ (nI (Zy3 M_ + 1))) (g := fun ι => nI (updN Zy3 M_ (Zy3 M_ + 1) ι)) rfl (fun z hz => by exact updNI) (ws' := [(md, .inr (9, [.int (nI W), .int (nI H), .int t, .int (nI m), .int (nI k), .ref zc, .ref zr, .ref zb, .ref z1, .ref z2, .ref z3, .ref z4, .ref z5, .ref zm, .ref zmr, .ref zmb, .int mt, .ref zca, .ref zcw, .int (nI c), .ref zg, .ref zt, .ref zs, .ref zf, .ref zy, .ref zso, .ref zsf, .ref zsm, .int (nI M_), .int nsh, .ref ztp, .ref zrw, .ref zpp, .int (nI tn), .int (nI pn), .int rdw, .int rdh, .ref zsz, .ref zit, .ref zk, .int (bI itk)])), (a, ia G 16 f), (zt, ia G 256 La3), (zs, ia G 256 (fun ι => nI (Sk3 ι))), (zf, ia G 256 (fun ι => nI (updN Ff M_ c0_ ι))), (zy, ia G 256 (fun ι => nI (updN Zy3 M_ (Zy3 M_ + 1) ι)))]) rfl ?_
        refine j_iconstN (pc := 67) (j := 0) hX dX9_findThing_67 rfl ?_
        refine j_istore (pc := 68) (lv' := [(5, .int (nI 0)), (4, .int (nI (Sk3 (top - 1)))), (3, .int (nI (top - 1))), (0, .ref md), (1, .ref a), (2, .int (nI c0_))]) hX dX9_findThing_68 (by decide) rfl ?_
        have L70 : ∀ (m70 : Nat) (k_ top4 n4 : Nat) (La4 : Nat → Int32) (Sk4 E4 : Nat → Nat) (hk : k_ ≤ 9) (hFl4 : Flo W H f M_ c0_ La E (st_ M_) La4 E4 n4 Sk4 top4 (fun c_ => c_ = Sk3 (top - 1))) (hn4 : n4 = st_ M_ + (Zy3 M_ + 1) + top4) (hdo : ∀ d, d < k_ → onC W H f (nbC W H (Sk3 (top - 1)) d) → La4 (nbC W H (Sk3 (top - 1)) d) ≠ -5), 9 - k_ < m70 → J X G 8 0 0 [(md, .inr (9, [.int (nI W), .int (nI H), .int t, .int (nI m), .int (nI k), .ref zc, .ref zr, .ref zb, .ref z1, .ref z2, .ref z3, .ref z4, .ref z5, .ref zm, .ref zmr, .ref zmb, .int mt, .ref zca, .ref zcw, .int (nI c), .ref zg, .ref zt, .ref zs, .ref zf, .ref zy, .ref zso, .ref zsf, .ref zsm, .int (nI M_), .int nsh, .ref ztp, .ref zrw, .ref zpp, .int (nI tn), .int (nI pn), .int rdw, .int rdh, .ref zsz, .ref zit, .ref zk, .int (bI itk)])), (a, ia G 16 f), (zt, ia G 256 La4), (zs, ia G 256 (fun ι => nI (Sk4 ι))), (zf, ia G 256 (fun ι => nI (updN Ff M_ c0_ ι))), (zy, ia G 256 (fun ι => nI (updN Zy3 M_ (Zy3 M_ + 1) ι)))] [(0, .ref md), (1, .ref a), (2, .int (nI c0_)), (3, .int (nI top4)), (4, .int (nI (Sk3 (top - 1)))), (5, .int (nI k_))] 70 [] := by
          intro m70
          induction m70 with
          | zero => intro k_ top4 n4 La4 Sk4 E4 hk hFl4 hn4 hdo hm70; exact absurd hm70 (Nat.not_lt_zero _)
          | succ m70 ih70 =>
            intro k_ top4 n4 La4 Sk4 E4 hk hFl4 hn4 hdo hm70
            refine j_iload (pc := 70) hX dX9_findThing_70 5 rfl ?_
            refine j_bipush (pc := 72) (v := nI 9) hX dX9_findThing_72 (by decide) ?_
            have hle4 := Ls_le (Flo_le hH2 (by omega) hP hFl4)
            refine j_icmp_ge (pc := 74) (tgt := 196) hX dX9_findThing_74 (by decide) (nI_toInt (n := k_) (by omega)) (nI_toInt (n := 9) (by decide)) (fun c74 => ?_) (fun c74 => ?_)
            · skip
              refine j_goto (pc := 196) (tgt := 39) hX dX9_findThing_196 (by decide) ?_
              refine j_ia (q0 := 5) (f := fun ι => nI (updN Zy3 M_ (Zy3 M_ + 1) ι)) (g := fun ι => nI ((updN Zy3 M_ (Zy3 M_ + 1)) ι)) rfl (fun z hz => by rfl) (ws' := [(md, .inr (9, [.int (nI W), .int (nI H), .int t, .int (nI m), .int (nI k), .ref zc, .ref zr, .ref zb, .ref z1, .ref z2, .ref z3, .ref z4, .ref z5, .ref zm, .ref zmr, .ref zmb, .int mt, .ref zca, .ref zcw, .int (nI c), .ref zg, .ref zt, .ref zs, .ref zf, .ref zy, .ref zso, .ref zsf, .ref zsm, .int (nI M_), .int nsh, .ref ztp, .ref zrw, .ref zpp, .int (nI tn), .int (nI pn), .int rdw, .int rdh, .ref zsz, .ref zit, .ref zk, .int (bI itk)])), (a, ia G 16 f), (zt, ia G 256 La4), (zs, ia G 256 (fun ι => nI (Sk4 ι))), (zf, ia G 256 (fun ι => nI (updN Ff M_ c0_ ι))), (zy, ia G 256 (fun ι => nI ((updN Zy3 M_ (Zy3 M_ + 1)) ι)))]) rfl ?_
              refine j_lv [0, 1, 2, 3] (lv' := [(0, .ref md), (1, .ref a), (2, .int (nI c0_)), (3, .int (nI top4))]) rfl ?_
              exact ih39 top4 n4 La4 Sk4 E4 (updN Zy3 M_ (Zy3 M_ + 1)) (Flo_end hFl4 (fun d hd hod => hdo d (by omega) hod)) (by rw [updN_eq]; omega) (fun k hk => (updN_ne (by omega)).trans (hz k hk)) (by rw [updN_eq]; omega)
            · skip
              refine j_iload (pc := 77) hX dX9_findThing_77 4 rfl ?_
              refine j_bipush (pc := 79) (v := nI 16) hX dX9_findThing_79 (by decide) ?_
              refine j_irem (pc := 81) hX dX9_findThing_81 (by decide) ?_
              refine j_topi (y := nI ((Sk3 (top - 1)) % 16)) (pk_rem (by omega) (by omega) (by omega)) ?_
              refine j_iload (pc := 82) hX dX9_findThing_82 5 rfl ?_
              refine j_iconstN (pc := 84) (j := 3) hX dX9_findThing_84 rfl ?_
              refine j_irem (pc := 85) hX dX9_findThing_85 (by decide) ?_
              refine j_topi (y := nI (k_ % 3)) (pk_rem (by omega) (by omega) (by omega)) ?_
              refine j_iadd (pc := 86) hX dX9_findThing_86 ?_
              refine j_topi (y := nI ((Sk3 (top - 1)) % 16 + (k_ % 3))) (nI_add _ _) ?_
              refine j_iconstN (pc := 87) (j := 1) hX dX9_findThing_87 rfl ?_
              refine j_isub (pc := 88) hX dX9_findThing_88 ?_
              refine j_aload_n (pc := 89) hX dX9_findThing_89 0 rfl ?_
              refine j_get (pc := 90) hX f_RX9_9 0 rfl rfl dX9_findThing_90 ?_
              refine j_iadd (pc := 93) hX dX9_findThing_93 ?_
              refine j_topi (y := nI (Sk3 (top - 1) % 16 + k_ % 3 + W - 1)) (sub1_nI (by omega) (by omega)) ?_
              refine j_aload_n (pc := 94) hX dX9_findThing_94 0 rfl ?_
              refine j_get (pc := 95) hX f_RX9_9 0 rfl rfl dX9_findThing_95 ?_
              refine j_irem (pc := 98) hX dX9_findThing_98 (nI_ne0 (by omega) (by omega)) ?_
              refine j_topi (y := nI (crI (((Sk3 (top - 1) % 16 : Nat) : Int) + ((k_ % 3 : Nat) : Int) - 1) W)) (by rw [pk_rem (by omega) (by omega) (by omega), crI_m1 (by have := hat.1.1; omega) (by omega) hW1]) ?_
              refine j_istore (pc := 99) (lv' := [(6, .int (nI (crI (((Sk3 (top - 1) % 16 : Nat) : Int) + ((k_ % 3 : Nat) : Int) - 1) W))), (0, .ref md), (1, .ref a), (2, .int (nI c0_)), (3, .int (nI top4)), (4, .int (nI (Sk3 (top - 1)))), (5, .int (nI k_))]) hX dX9_findThing_99 (by decide) rfl ?_
              refine j_iload (pc := 101) hX dX9_findThing_101 5 rfl ?_
              refine j_bipush (pc := 103) (v := nI 16) hX dX9_findThing_103 (by decide) ?_
              refine j_idiv (pc := 105) hX dX9_findThing_105 (by decide) ?_
              refine j_topi (y := nI ((Sk3 (top - 1)) / 16)) (pk_div (by omega) (by omega) (by omega)) ?_
              refine j_iload (pc := 106) hX dX9_findThing_106 6 rfl ?_
              refine j_iconstN (pc := 108) (j := 3) hX dX9_findThing_108 rfl ?_
              refine j_idiv (pc := 109) hX dX9_findThing_109 (by decide) ?_
              refine j_topi (y := nI (k_ / 3)) (pk_div (by omega) (by omega) (by omega)) ?_
              refine j_iadd (pc := 110) hX dX9_findThing_110 ?_
              refine j_topi (y := nI ((Sk3 (top - 1)) / 16 + (k_ / 3))) (nI_add _ _) ?_
              refine j_iconstN (pc := 111) (j := 1) hX dX9_findThing_111 rfl ?_
              refine j_isub (pc := 112) hX dX9_findThing_112 ?_
              refine j_aload_n (pc := 113) hX dX9_findThing_113 1 rfl ?_
              refine j_get (pc := 114) hX f_RX9_15 0 rfl rfl dX9_findThing_114 ?_
              refine j_iadd (pc := 117) hX dX9_findThing_117 ?_
              refine j_topi (y := nI (Sk3 (top - 1) / 16 + k_ / 3 + H - 1)) (sub1_nI (by omega) (by omega)) ?_
              refine j_aload_n (pc := 118) hX dX9_findThing_118 1 rfl ?_
              refine j_get (pc := 119) hX f_RX9_15 0 rfl rfl dX9_findThing_119 ?_
              refine j_irem (pc := 122) hX dX9_findThing_122 (nI_ne0 (by omega) (by omega)) ?_
              refine j_topi (y := nI (crI (((Sk3 (top - 1) / 16 : Nat) : Int) + ((k_ / 3 : Nat) : Int) - 1) H)) (by rw [pk_rem (by omega) (by omega) (by omega), crI_m1 (by have := hat.1.1; omega) (by omega) hH1]) ?_
              refine j_istore (pc := 123) (lv' := [(7, .int (nI (crI (((Sk3 (top - 1) / 16 : Nat) : Int) + ((k_ / 3 : Nat) : Int) - 1) H))), (6, .int (nI (crI (((Sk3 (top - 1) % 16 : Nat) : Int) + ((k_ % 3 : Nat) : Int) - 1) W))), (0, .ref md), (1, .ref a), (2, .int (nI c0_)), (3, .int (nI top4)), (4, .int (nI (Sk3 (top - 1)))), (5, .int (nI k_))]) hX dX9_findThing_123 (by decide) rfl ?_
              have hcx := crI_lt (z := ((Sk3 (top - 1) % 16 : Nat) : Int) + ((k_ % 3 : Nat) : Int) - 1) (n := W) (by omega) (by have := hat.1.1; omega) hW1
              have hcy := crI_lt (z := ((Sk3 (top - 1) / 16 : Nat) : Int) + ((k_ / 3 : Nat) : Int) - 1) (n := H) (by omega) (by have := hat.1.1; omega) hH1
              have hnb : nbC W H (Sk3 (top - 1)) k_ = (16 * crI (((Sk3 (top - 1) / 16 : Nat) : Int) + ((k_ / 3 : Nat) : Int) - 1) H + crI (((Sk3 (top - 1) % 16 : Nat) : Int) + ((k_ % 3 : Nat) : Int) - 1) W) := rfl
              refine j_aload_n (pc := 125) hX dX9_findThing_125 3 rfl ?_
              refine j_iload (pc := 126) hX dX9_findThing_126 0 rfl ?_
              refine j_ialdN (pc := 128) (j := crI (((Sk3 (top - 1) / 16 : Nat) : Int) + ((k_ / 3 : Nat) : Int) - 1) H) hX 1 rfl (by omega) (by omega) dX9_findThing_128 ?_
              refine j_iload (pc := 129) hX dX9_findThing_129 1 rfl ?_
              refine j_ishr (pc := 131) hX dX9_findThing_131 ?_
              refine j_iconstN (pc := 132) (j := 1) hX dX9_findThing_132 rfl ?_
              refine j_iand (pc := 133) hX dX9_findThing_133 ?_
              refine j_topi (y := bI (bt (f (crI (((Sk3 (top - 1) / 16 : Nat) : Int) + ((k_ / 3 : Nat) : Int) - 1) H)) (crI (((Sk3 (top - 1) % 16 : Nat) : Int) + ((k_ % 3 : Nat) : Int) - 1) W))) (bt_raw _ (by omega)) ?_
              refine j_ifB_eq (pc := 134) (tgt := 190) hX dX9_findThing_134 (by decide) (fun c134 => ?_) (fun c134 => ?_)
              · skip
                have hdo5 : ∀ d, d < k_ + 1 → onC W H f (nbC W H (Sk3 (top - 1)) d) → La4 (nbC W H (Sk3 (top - 1)) d) ≠ -5 := fun d hd hod => by rcases Nat.lt_or_ge d k_ with q | q; exact hdo d q hod; exfalso; rw [show d = k_ from by omega, hnb] at hod; rw [(onC_xy hcx hcy hW2).mp hod] at c134; cases c134
                refine j_iinc (pc := 190) (q := 7) (v := nI (k_ + 1)) (lv' := [(5, .int (nI (k_ + 1))), (7, .int (nI (crI (((Sk3 (top - 1) / 16 : Nat) : Int) + ((k_ / 3 : Nat) : Int) - 1) H))), (6, .int (nI (crI (((Sk3 (top - 1) % 16 : Nat) : Int) + ((k_ % 3 : Nat) : Int) - 1) W))), (0, .ref md), (1, .ref a), (2, .int (nI c0_)), (3, .int (nI top4)), (4, .int (nI (Sk3 (top - 1))))]) hX dX9_findThing_190 rfl (nI_inc _ 1) (by decide) rfl ?_
                refine j_goto (pc := 193) (tgt := 70) hX dX9_findThing_193 (by decide) ?_
                refine j_lv [3, 4, 5, 6, 7, 0] (lv' := [(0, .ref md), (1, .ref a), (2, .int (nI c0_)), (3, .int (nI top4)), (4, .int (nI (Sk3 (top - 1)))), (5, .int (nI (k_ + 1)))]) rfl ?_
                exact ih70 (k_ + 1) top4 n4 La4 Sk4 E4 (by omega) (by first | exact hFl5 | exact hFl4) (by omega) (hdo5) (by omega)
              · skip
                have hon := (onC_xy hcx hcy hW2).mpr c134
                refine j_aload_n (pc := 137) hX dX9_findThing_137 2 rfl ?_
                refine j_get (pc := 138) hX f_RX9_61 0 rfl rfl dX9_findThing_138 ?_
                refine j_bipush (pc := 141) (v := nI 16) hX dX9_findThing_141 (by decide) ?_
                refine j_iload (pc := 143) hX dX9_findThing_143 0 rfl ?_
                refine j_imul (pc := 145) hX dX9_findThing_145 ?_
                refine j_topi (y := nI (16 * (crI (((Sk3 (top - 1) / 16 : Nat) : Int) + ((k_ / 3 : Nat) : Int) - 1) H))) (pk_mul _ _) ?_
                refine j_iload (pc := 146) hX dX9_findThing_146 1 rfl ?_
                refine j_iadd (pc := 148) hX dX9_findThing_148 ?_
                refine j_topi (y := nI (16 * (crI (((Sk3 (top - 1) / 16 : Nat) : Int) + ((k_ / 3 : Nat) : Int) - 1) H) + (crI (((Sk3 (top - 1) % 16 : Nat) : Int) + ((k_ % 3 : Nat) : Int) - 1) W))) (nI_add _ _) ?_
                refine j_ialdN (pc := 149) (j := 16 * (crI (((Sk3 (top - 1) / 16 : Nat) : Int) + ((k_ / 3 : Nat) : Int) - 1) H) + (crI (((Sk3 (top - 1) % 16 : Nat) : Int) + ((k_ % 3 : Nat) : Int) - 1) W)) hX 2 rfl (by omega) (by omega) dX9_findThing_149 ?_
                refine j_if_lt (pc := 150) (tgt := 156) hX dX9_findThing_150 (by decide) rfl (fun c150 => ?_) (fun c150 => ?_)
                · skip
                  have h45 := Flo_neg (by omega) hP hFl4 hon c150
                  have hfree := Ls_free (Flo_le hH2 (by omega) hP hFl4) h45 (by omega)
                  have hFl5 := Flo_push (by omega) hFl4 h45 hon (by have := rch_s hat.2 (d := k_) (by omega) hon; exact this)
                  have hdo5 : ∀ d, d < k_ + 1 → onC W H f (nbC W H (Sk3 (top - 1)) d) → upd La4 (16 * crI (((Sk3 (top - 1) / 16 : Nat) : Int) + ((k_ / 3 : Nat) : Int) - 1) H + crI (((Sk3 (top - 1) % 16 : Nat) : Int) + ((k_ % 3 : Nat) : Int) - 1) W) (nI M_) (nbC W H (Sk3 (top - 1)) d) ≠ -5 := fun d hd hod => by unfold upd; split; exact nIm5 (by omega); rename_i qq; rcases Nat.lt_or_ge d k_ with q | q; exact hdo d q hod; exact absurd (by rw [show d = k_ from by omega, hnb]) qq
                  refine j_aload_n (pc := 156) hX dX9_findThing_156 2 rfl ?_
                  refine j_get (pc := 157) hX f_RX9_61 0 rfl rfl dX9_findThing_157 ?_
                  refine j_bipush (pc := 160) (v := nI 16) hX dX9_findThing_160 (by decide) ?_
                  refine j_iload (pc := 162) hX dX9_findThing_162 0 rfl ?_
                  refine j_imul (pc := 164) hX dX9_findThing_164 ?_
                  refine j_topi (y := nI (16 * (crI (((Sk3 (top - 1) / 16 : Nat) : Int) + ((k_ / 3 : Nat) : Int) - 1) H))) (pk_mul _ _) ?_
                  refine j_iload (pc := 165) hX dX9_findThing_165 1 rfl ?_
                  refine j_iadd (pc := 167) hX dX9_findThing_167 ?_
                  refine j_topi (y := nI (16 * (crI (((Sk3 (top - 1) / 16 : Nat) : Int) + ((k_ / 3 : Nat) : Int) - 1) H) + (crI (((Sk3 (top - 1) % 16 : Nat) : Int) + ((k_ % 3 : Nat) : Int) - 1) W))) (nI_add _ _) ?_
                  refine j_aload_n (pc := 168) hX dX9_findThing_168 2 rfl ?_
                  refine j_get (pc := 169) hX f_RX9_175 0 rfl rfl dX9_findThing_169 ?_
                  refine j_iastN (pc := 172) (j := 16 * (crI (((Sk3 (top - 1) / 16 : Nat) : Int) + ((k_ / 3 : Nat) : Int) - 1) H) + (crI (((Sk3 (top - 1) % 16 : Nat) : Int) + ((k_ % 3 : Nat) : Int) - 1) W)) (ws' := [(md, .inr (9, [.int (nI W), .int (nI H), .int t, .int (nI m), .int (nI k), .ref zc, .ref zr, .ref zb, .ref z1, .ref z2, .ref z3, .ref z4, .ref z5, .ref zm, .ref zmr, .ref zmb, .int mt, .ref zca, .ref zcw, .int (nI c), .ref zg, .ref zt, .ref zs, .ref zf, .ref zy, .ref zso, .ref zsf, .ref zsm, .int (nI M_), .int nsh, .ref ztp, .ref zrw, .ref zpp, .int (nI tn), .int (nI pn), .int rdw, .int rdh, .ref zsz, .ref zit, .ref zk, .int (bI itk)])), (a, ia G 16 f), (zt, ia G 256 (upd La4 (16 * (crI (((Sk3 (top - 1) / 16 : Nat) : Int) + ((k_ / 3 : Nat) : Int) - 1) H) + (crI (((Sk3 (top - 1) % 16 : Nat) : Int) + ((k_ % 3 : Nat) : Int) - 1) W)) (nI M_))), (zs, ia G 256 (fun ι => nI (Sk4 ι))), (zf, ia G 256 (fun ι => nI (updN Ff M_ c0_ ι))), (zy, ia G 256 (fun ι => nI (updN Zy3 M_ (Zy3 M_ + 1) ι)))]) hX 2 rfl (by omega) (by omega) rfl dX9_findThing_172 ?_
                  refine j_aload_n (pc := 173) hX dX9_findThing_173 2 rfl ?_
                  refine j_get (pc := 174) hX f_RX9_64 0 rfl rfl dX9_findThing_174 ?_
                  refine j_iload_n (pc := 177) hX dX9_findThing_177 5 rfl ?_
                  refine j_bipush (pc := 178) (v := nI 16) hX dX9_findThing_178 (by decide) ?_
                  refine j_iload (pc := 180) hX dX9_findThing_180 0 rfl ?_
                  refine j_imul (pc := 182) hX dX9_findThing_182 ?_
                  refine j_topi (y := nI (16 * (crI (((Sk3 (top - 1) / 16 : Nat) : Int) + ((k_ / 3 : Nat) : Int) - 1) H))) (pk_mul _ _) ?_
                  refine j_iload (pc := 183) hX dX9_findThing_183 1 rfl ?_
                  refine j_iadd (pc := 185) hX dX9_findThing_185 ?_
                  refine j_topi (y := nI (16 * (crI (((Sk3 (top - 1) / 16 : Nat) : Int) + ((k_ / 3 : Nat) : Int) - 1) H) + (crI (((Sk3 (top - 1) % 16 : Nat) : Int) + ((k_ % 3 : Nat) : Int) - 1) W))) (nI_add _ _) ?_
                  refine j_iastN (pc := 186) (j := top4) (ws' := [(md, .inr (9, [.int (nI W), .int (nI H), .int t, .int (nI m), .int (nI k), .ref zc, .ref zr, .ref zb, .ref z1, .ref z2, .ref z3, .ref z4, .ref z5, .ref zm, .ref zmr, .ref zmb, .int mt, .ref zca, .ref zcw, .int (nI c), .ref zg, .ref zt, .ref zs, .ref zf, .ref zy, .ref zso, .ref zsf, .ref zsm, .int (nI M_), .int nsh, .ref ztp, .ref zrw, .ref zpp, .int (nI tn), .int (nI pn), .int rdw, .int rdh, .ref zsz, .ref zit, .ref zk, .int (bI itk)])), (a, ia G 16 f), (zt, ia G 256 (upd La4 (16 * (crI (((Sk3 (top - 1) / 16 : Nat) : Int) + ((k_ / 3 : Nat) : Int) - 1) H) + (crI (((Sk3 (top - 1) % 16 : Nat) : Int) + ((k_ % 3 : Nat) : Int) - 1) W)) (nI M_))), (zs, ia G 256 (upd (fun ι => nI (Sk4 ι)) top4 (nI (16 * (crI (((Sk3 (top - 1) / 16 : Nat) : Int) + ((k_ / 3 : Nat) : Int) - 1) H) + (crI (((Sk3 (top - 1) % 16 : Nat) : Int) + ((k_ % 3 : Nat) : Int) - 1) W))))), (zf, ia G 256 (fun ι => nI (updN Ff M_ c0_ ι))), (zy, ia G 256 (fun ι => nI (updN Zy3 M_ (Zy3 M_ + 1) ι)))]) hX 3 rfl (by omega) (by omega) rfl dX9_findThing_186 ?_
                  refine j_ia (q0 := 3) (f := upd (fun ι => nI (Sk4 ι)) top4 (nI (16 * (crI (((Sk3 (top - 1) / 16 : Nat) : Int) + ((k_ / 3 : Nat) : Int) - 1) H) + (crI (((Sk3 (top - 1) % 16 : Nat) : Int) + ((k_ % 3 : Nat) : Int) - 1) W)))) (g := fun ι => nI (updN Sk4 top4 (16 * (crI (((Sk3 (top - 1) / 16 : Nat) : Int) + ((k_ / 3 : Nat) : Int) - 1) H) + (crI (((Sk3 (top - 1) % 16 : Nat) : Int) + ((k_ % 3 : Nat) : Int) - 1) W)) ι)) rfl (fun z hz => by exact updNI) (ws' := [(md, .inr (9, [.int (nI W), .int (nI H), .int t, .int (nI m), .int (nI k), .ref zc, .ref zr, .ref zb, .ref z1, .ref z2, .ref z3, .ref z4, .ref z5, .ref zm, .ref zmr, .ref zmb, .int mt, .ref zca, .ref zcw, .int (nI c), .ref zg, .ref zt, .ref zs, .ref zf, .ref zy, .ref zso, .ref zsf, .ref zsm, .int (nI M_), .int nsh, .ref ztp, .ref zrw, .ref zpp, .int (nI tn), .int (nI pn), .int rdw, .int rdh, .ref zsz, .ref zit, .ref zk, .int (bI itk)])), (a, ia G 16 f), (zt, ia G 256 (upd La4 (16 * (crI (((Sk3 (top - 1) / 16 : Nat) : Int) + ((k_ / 3 : Nat) : Int) - 1) H) + (crI (((Sk3 (top - 1) % 16 : Nat) : Int) + ((k_ % 3 : Nat) : Int) - 1) W)) (nI M_))), (zs, ia G 256 (fun ι => nI (updN Sk4 top4 (16 * (crI (((Sk3 (top - 1) / 16 : Nat) : Int) + ((k_ / 3 : Nat) : Int) - 1) H) + (crI (((Sk3 (top - 1) % 16 : Nat) : Int) + ((k_ % 3 : Nat) : Int) - 1) W)) ι))), (zf, ia G 256 (fun ι => nI (updN Ff M_ c0_ ι))), (zy, ia G 256 (fun ι => nI (updN Zy3 M_ (Zy3 M_ + 1) ι)))]) rfl ?_
                  refine j_iinc (pc := 187) (q := 5) (v := nI (top4 + 1)) (lv' := [(3, .int (nI (top4 + 1))), (7, .int (nI (crI (((Sk3 (top - 1) / 16 : Nat) : Int) + ((k_ / 3 : Nat) : Int) - 1) H))), (6, .int (nI (crI (((Sk3 (top - 1) % 16 : Nat) : Int) + ((k_ % 3 : Nat) : Int) - 1) W))), (0, .ref md), (1, .ref a), (2, .int (nI c0_)), (4, .int (nI (Sk3 (top - 1)))), (5, .int (nI k_))]) hX dX9_findThing_187 rfl (nI_inc _ 1) (by decide) rfl ?_
                  refine j_iinc (pc := 190) (q := 7) (v := nI (k_ + 1)) (lv' := [(5, .int (nI (k_ + 1))), (3, .int (nI (top4 + 1))), (7, .int (nI (crI (((Sk3 (top - 1) / 16 : Nat) : Int) + ((k_ / 3 : Nat) : Int) - 1) H))), (6, .int (nI (crI (((Sk3 (top - 1) % 16 : Nat) : Int) + ((k_ % 3 : Nat) : Int) - 1) W))), (0, .ref md), (1, .ref a), (2, .int (nI c0_)), (4, .int (nI (Sk3 (top - 1))))]) hX dX9_findThing_190 rfl (nI_inc _ 1) (by decide) rfl ?_
                  refine j_goto (pc := 193) (tgt := 70) hX dX9_findThing_193 (by decide) ?_
                  refine j_ia (q0 := 3) (f := fun ι => nI (updN Sk4 top4 (16 * (crI (((Sk3 (top - 1) / 16 : Nat) : Int) + ((k_ / 3 : Nat) : Int) - 1) H) + (crI (((Sk3 (top - 1) % 16 : Nat) : Int) + ((k_ % 3 : Nat) : Int) - 1) W)) ι)) (g := fun ι => nI ((updN Sk4 top4 (16 * (crI (((Sk3 (top - 1) / 16 : Nat) : Int) + ((k_ / 3 : Nat) : Int) - 1) H) + (crI (((Sk3 (top - 1) % 16 : Nat) : Int) + ((k_ % 3 : Nat) : Int) - 1) W))) ι)) rfl (fun z hz => by rfl) (ws' := [(md, .inr (9, [.int (nI W), .int (nI H), .int t, .int (nI m), .int (nI k), .ref zc, .ref zr, .ref zb, .ref z1, .ref z2, .ref z3, .ref z4, .ref z5, .ref zm, .ref zmr, .ref zmb, .int mt, .ref zca, .ref zcw, .int (nI c), .ref zg, .ref zt, .ref zs, .ref zf, .ref zy, .ref zso, .ref zsf, .ref zsm, .int (nI M_), .int nsh, .ref ztp, .ref zrw, .ref zpp, .int (nI tn), .int (nI pn), .int rdw, .int rdh, .ref zsz, .ref zit, .ref zk, .int (bI itk)])), (a, ia G 16 f), (zt, ia G 256 (upd La4 (16 * (crI (((Sk3 (top - 1) / 16 : Nat) : Int) + ((k_ / 3 : Nat) : Int) - 1) H) + (crI (((Sk3 (top - 1) % 16 : Nat) : Int) + ((k_ % 3 : Nat) : Int) - 1) W)) (nI M_))), (zs, ia G 256 (fun ι => nI ((updN Sk4 top4 (16 * (crI (((Sk3 (top - 1) / 16 : Nat) : Int) + ((k_ / 3 : Nat) : Int) - 1) H) + (crI (((Sk3 (top - 1) % 16 : Nat) : Int) + ((k_ % 3 : Nat) : Int) - 1) W))) ι))), (zf, ia G 256 (fun ι => nI (updN Ff M_ c0_ ι))), (zy, ia G 256 (fun ι => nI (updN Zy3 M_ (Zy3 M_ + 1) ι)))]) rfl ?_
                  refine j_lv [4, 5, 6, 1, 7, 0] (lv' := [(0, .ref md), (1, .ref a), (2, .int (nI c0_)), (3, .int (nI (top4 + 1))), (4, .int (nI (Sk3 (top - 1)))), (5, .int (nI (k_ + 1)))]) rfl ?_
                  exact ih70 (k_ + 1) (top4 + 1) (n4 + 1) (upd La4 (16 * (crI (((Sk3 (top - 1) / 16 : Nat) : Int) + ((k_ / 3 : Nat) : Int) - 1) H) + (crI (((Sk3 (top - 1) % 16 : Nat) : Int) + ((k_ % 3 : Nat) : Int) - 1) W)) (nI M_)) (updN Sk4 top4 (16 * (crI (((Sk3 (top - 1) / 16 : Nat) : Int) + ((k_ / 3 : Nat) : Int) - 1) H) + (crI (((Sk3 (top - 1) % 16 : Nat) : Int) + ((k_ % 3 : Nat) : Int) - 1) W))) (updN E4 n4 (16 * crI (((Sk3 (top - 1) / 16 : Nat) : Int) + ((k_ / 3 : Nat) : Int) - 1) H + crI (((Sk3 (top - 1) % 16 : Nat) : Int) + ((k_ % 3 : Nat) : Int) - 1) W)) (by omega) (by first | exact hFl5 | exact hFl4) (by omega) (hdo5) (by omega)
                · skip
                  have hdo5 : ∀ d, d < k_ + 1 → onC W H f (nbC W H (Sk3 (top - 1)) d) → La4 (nbC W H (Sk3 (top - 1)) d) ≠ -5 := fun d hd hod => by rcases Nat.lt_or_ge d k_ with q | q; exact hdo d q hod; rw [show d = k_ from by omega, hnb]; exact fun z => by rw [z] at c150; exact absurd c150 (by decide)
                  refine j_goto (pc := 153) (tgt := 190) hX dX9_findThing_153 (by decide) ?_
                  refine j_iinc (pc := 190) (q := 7) (v := nI (k_ + 1)) (lv' := [(5, .int (nI (k_ + 1))), (7, .int (nI (crI (((Sk3 (top - 1) / 16 : Nat) : Int) + ((k_ / 3 : Nat) : Int) - 1) H))), (6, .int (nI (crI (((Sk3 (top - 1) % 16 : Nat) : Int) + ((k_ % 3 : Nat) : Int) - 1) W))), (0, .ref md), (1, .ref a), (2, .int (nI c0_)), (3, .int (nI top4)), (4, .int (nI (Sk3 (top - 1))))]) hX dX9_findThing_190 rfl (nI_inc _ 1) (by decide) rfl ?_
                  refine j_goto (pc := 193) (tgt := 70) hX dX9_findThing_193 (by decide) ?_
                  refine j_lv [3, 4, 5, 6, 7, 0] (lv' := [(0, .ref md), (1, .ref a), (2, .int (nI c0_)), (3, .int (nI top4)), (4, .int (nI (Sk3 (top - 1)))), (5, .int (nI (k_ + 1)))]) rfl ?_
                  exact ih70 (k_ + 1) top4 n4 La4 Sk4 E4 (by omega) (by first | exact hFl5 | exact hFl4) (by omega) (hdo5) (by omega)
        refine j_lv [3, 4, 5, 2, 1, 0] (lv' := [(0, .ref md), (1, .ref a), (2, .int (nI c0_)), (3, .int (nI (top - 1))), (4, .int (nI (Sk3 (top - 1)))), (5, .int (nI 0))]) rfl ?_
        exact L70 ((9 - 0) + 1) 0 (top - 1) n3 La3 Sk3 E3 (by omega) (Flo_pop hFl) (by omega) (fun d hd => absurd hd (Nat.not_lt_zero _)) (Nat.lt_succ_self _)
  refine j_ia (q0 := 3) (f := fun ι => nI (updN Sk 0 c0_ ι)) (g := fun ι => nI ((updN Sk 0 c0_) ι)) rfl (fun z hz => by rfl) (ws' := [(md, .inr (9, [.int (nI W), .int (nI H), .int t, .int (nI m), .int (nI k), .ref zc, .ref zr, .ref zb, .ref z1, .ref z2, .ref z3, .ref z4, .ref z5, .ref zm, .ref zmr, .ref zmb, .int mt, .ref zca, .ref zcw, .int (nI c), .ref zg, .ref zt, .ref zs, .ref zf, .ref zy, .ref zso, .ref zsf, .ref zsm, .int (nI M_), .int nsh, .ref ztp, .ref zrw, .ref zpp, .int (nI tn), .int (nI pn), .int rdw, .int rdh, .ref zsz, .ref zit, .ref zk, .int (bI itk)])), (a, ia G 16 f), (zt, ia G 256 (upd La c0_ (nI M_))), (zs, ia G 256 (fun ι => nI ((updN Sk 0 c0_) ι))), (zf, ia G 256 (fun ι => nI (updN Ff M_ c0_ ι))), (zy, ia G 256 (fun ι => nI (updN Zy M_ 0 ι)))]) rfl ?_
  refine j_ia (q0 := 5) (f := fun ι => nI (updN Zy M_ 0 ι)) (g := fun ι => nI ((updN Zy M_ 0) ι)) rfl (fun z hz => by rfl) (ws' := [(md, .inr (9, [.int (nI W), .int (nI H), .int t, .int (nI m), .int (nI k), .ref zc, .ref zr, .ref zb, .ref z1, .ref z2, .ref z3, .ref z4, .ref z5, .ref zm, .ref zmr, .ref zmb, .int mt, .ref zca, .ref zcw, .int (nI c), .ref zg, .ref zt, .ref zs, .ref zf, .ref zy, .ref zso, .ref zsf, .ref zsm, .int (nI M_), .int nsh, .ref ztp, .ref zrw, .ref zpp, .int (nI tn), .int (nI pn), .int rdw, .int rdh, .ref zsz, .ref zit, .ref zk, .int (bI itk)])), (a, ia G 16 f), (zt, ia G 256 (upd La c0_ (nI M_))), (zs, ia G 256 (fun ι => nI ((updN Sk 0 c0_) ι))), (zf, ia G 256 (fun ι => nI (updN Ff M_ c0_ ι))), (zy, ia G 256 (fun ι => nI ((updN Zy M_ 0) ι)))]) rfl ?_
  refine j_lv [1, 2, 3, 0] (lv' := [(0, .ref md), (1, .ref a), (2, .int (nI c0_)), (3, .int (nI 1))]) rfl ?_
  exact L39 ((256 - (updN Zy M_ 0) M_) + 1) 1 (st_ M_ + 1) (upd La c0_ (nI M_)) (updN Sk 0 c0_) (updN E (st_ M_) c0_) (updN Zy M_ 0) (Flo_0 ho h0) (by rw [updN_eq]) (fun k hk => updN_ne (by omega)) (Nat.lt_succ_self _)
set_option maxHeartbeats 4000000 in
set_option maxRecDepth 100000 in
theorem c_X9_areAlike (G : GT) (md : Nat) (W : Nat) (H : Nat) (t : Int32) (m : Nat) (k : Nat) (zc : Nat) (zr : Nat) (zb : Nat) (z1 : Nat) (z2 : Nat) (z3 : Nat) (z4 : Nat) (z5 : Nat) (zm : Nat) (zmr : Nat) (zmb : Nat) (mt : Int32) (zca : Nat) (zcw : Nat) (c : Nat) (zg : Nat) (zt : Nat) (zs : Nat) (zf : Nat) (zy : Nat) (zso : Nat) (zsf : Nat) (zsm : Nat) (nt : Int32) (nsh : Int32) (ztp : Nat) (zrw : Nat) (zpp : Nat) (tn : Nat) (pn : Nat) (rdw : Int32) (rdh : Int32) (zsz : Nat) (zit : Nat) (zk : Nat) (itk : Bool) (La : Nat → Int32) (Ff : Nat → Nat) (Zy : Nat → Nat) (a_ b_ nM : Nat) (f : Nat → Int32) (Ln E st_ : Nat → Nat) (al : Nat → Nat → Bool) (hW1 : 2 ≤ W) (hW2 : W ≤ 16) (hH1 : 2 ≤ H) (hH2 : H ≤ 16) (hS : ThS W H f nM Ln E st_) (hLb : LbC W H f La Ln) (hF : FZ nM E st_ Ff Zy) (hal : ∀ m i, al m i = true ↔ alP W H f Ln (fun k => E (st_ k)) (fun k => st_ (k + 1) - st_ k) m i) (ha_ : a_ < nM) (hb_ : b_ < nM) (l : Launch) : CT l G yX9_areAlike cX9_areAlike 7 (some .boolean) { frames := 0, cells := 0, slots := 0, locals := 0 } [.ref md, .int (nI a_), .int (nI b_)] [(md, .inr (9, [.int (nI W), .int (nI H), .int t, .int (nI m), .int (nI k), .ref zc, .ref zr, .ref zb, .ref z1, .ref z2, .ref z3, .ref z4, .ref z5, .ref zm, .ref zmr, .ref zmb, .int mt, .ref zca, .ref zcw, .int (nI c), .ref zg, .ref zt, .ref zs, .ref zf, .ref zy, .ref zso, .ref zsf, .ref zsm, .int nt, .int nsh, .ref ztp, .ref zrw, .ref zpp, .int (nI tn), .int (nI pn), .int rdw, .int rdh, .ref zsz, .ref zit, .ref zk, .int (bI itk)])), (zt, ia G 256 La), (zf, ia G 256 (fun ι => nI (Ff ι))), (zy, ia G 256 (fun ι => nI (Zy ι)))] (fun vv ww => vv = some (.int (bI (al a_ b_))) ∧ ww = [(md, .inr (9, [.int (nI W), .int (nI H), .int t, .int (nI m), .int (nI k), .ref zc, .ref zr, .ref zb, .ref z1, .ref z2, .ref z3, .ref z4, .ref z5, .ref zm, .ref zmr, .ref zmb, .int mt, .ref zca, .ref zcw, .int (nI c), .ref zg, .ref zt, .ref zs, .ref zf, .ref zy, .ref zso, .ref zsf, .ref zsm, .int nt, .int nsh, .ref ztp, .ref zrw, .ref zpp, .int (nI tn), .int (nI pn), .int rdw, .int rdh, .ref zsz, .ref zit, .ref zk, .int (bI itk)])), (zt, ia G 256 La), (zf, ia G 256 (fun ι => nI (Ff ι))), (zy, ia G 256 (fun ι => nI (Zy ι)))]) := by
  refine CT.of (lv := [(0, .ref md), (1, .int (nI a_)), (2, .int (nI b_))]) RX9 "areAlike" rfl rfl (by decide +kernel) (Nat.le_of_ble_eq_true rfl) rfl (fun X hX hR => ?_)
  have h64 := th_64 hW2 hH2 hS
  have ba := th_le hH2 hS ha_
  have bb := th_le hH2 hS hb_
  have oa := (hS.1.2.2.2.1 a_ ha_).1
  have ob := (hS.1.2.2.2.1 b_ hb_).1
  have oa1 := oa.1
  have ob1 := ob.1
  have oa2 := onC_lt hH2 oa
  have ob2 := onC_lt hH2 ob
  refine j_aload_n (pc := 0) hX dX9_areAlike_0 0 rfl ?_
  refine j_get (pc := 1) hX f_RX9_70 0 rfl rfl dX9_areAlike_1 ?_
  refine j_iload_n (pc := 4) hX dX9_areAlike_4 1 rfl ?_
  refine j_ialdN (pc := 5) (j := a_) hX 3 rfl (by omega) (by omega) dX9_areAlike_5 ?_
  refine j_topi (y := nI (st_ (a_ + 1) - st_ a_)) (by rw [(hF a_ ha_).2]) ?_
  refine j_aload_n (pc := 6) hX dX9_areAlike_6 0 rfl ?_
  refine j_get (pc := 7) hX f_RX9_70 0 rfl rfl dX9_areAlike_7 ?_
  refine j_iload_n (pc := 10) hX dX9_areAlike_10 2 rfl ?_
  refine j_ialdN (pc := 11) (j := b_) hX 3 rfl (by omega) (by omega) dX9_areAlike_11 ?_
  refine j_topi (y := nI (st_ (b_ + 1) - st_ b_)) (by rw [(hF b_ hb_).2]) ?_
  refine j_icmp_eq (pc := 12) (tgt := 17) hX dX9_areAlike_12 (by decide) (nI_toInt (n := st_ (a_ + 1) - st_ a_) (by omega)) (nI_toInt (n := st_ (b_ + 1) - st_ b_) (by omega)) (fun c12 => ?_) (fun c12 => ?_)
  · skip
    refine j_aload_n (pc := 17) hX dX9_areAlike_17 0 rfl ?_
    refine j_get (pc := 18) hX f_RX9_67 0 rfl rfl dX9_areAlike_18 ?_
    refine j_iload_n (pc := 21) hX dX9_areAlike_21 2 rfl ?_
    refine j_ialdN (pc := 22) (j := b_) hX 2 rfl (by omega) (by omega) dX9_areAlike_22 ?_
    refine j_topi (y := nI (E (st_ b_))) (by rw [(hF b_ hb_).1]) ?_
    refine j_bipush (pc := 23) (v := nI 16) hX dX9_areAlike_23 (by decide) ?_
    refine j_irem (pc := 25) hX dX9_areAlike_25 (by decide) ?_
    refine j_topi (y := nI ((E (st_ b_)) % 16)) (pk_rem (by omega) (by omega) (by omega)) ?_
    refine j_aload_n (pc := 26) hX dX9_areAlike_26 0 rfl ?_
    refine j_get (pc := 27) hX f_RX9_67 0 rfl rfl dX9_areAlike_27 ?_
    refine j_iload_n (pc := 30) hX dX9_areAlike_30 1 rfl ?_
    refine j_ialdN (pc := 31) (j := a_) hX 2 rfl (by omega) (by omega) dX9_areAlike_31 ?_
    refine j_topi (y := nI (E (st_ a_))) (by rw [(hF a_ ha_).1]) ?_
    refine j_bipush (pc := 32) (v := nI 16) hX dX9_areAlike_32 (by decide) ?_
    refine j_irem (pc := 34) hX dX9_areAlike_34 (by decide) ?_
    refine j_topi (y := nI ((E (st_ a_)) % 16)) (pk_rem (by omega) (by omega) (by omega)) ?_
    refine j_isub (pc := 35) hX dX9_areAlike_35 ?_
    refine j_aload_n (pc := 36) hX dX9_areAlike_36 0 rfl ?_
    refine j_get (pc := 37) hX f_RX9_9 0 rfl rfl dX9_areAlike_37 ?_
    refine j_iadd (pc := 40) hX dX9_areAlike_40 ?_
    refine j_topi (y := nI (E (st_ b_) % 16 + W - E (st_ a_) % 16)) (subn_nI (by omega) (by omega) (by omega)) ?_
    refine j_istore_n (pc := 41) (lv' := [(3, .int (nI (E (st_ b_) % 16 + W - E (st_ a_) % 16))), (0, .ref md), (1, .int (nI a_)), (2, .int (nI b_))]) hX dX9_areAlike_41 (by decide) rfl ?_
    refine j_aload_n (pc := 42) hX dX9_areAlike_42 1 rfl ?_
    refine j_get (pc := 43) hX f_RX9_67 0 rfl rfl dX9_areAlike_43 ?_
    refine j_iload_n (pc := 46) hX dX9_areAlike_46 3 rfl ?_
    refine j_ialdN (pc := 47) (j := b_) hX 2 rfl (by omega) (by omega) dX9_areAlike_47 ?_
    refine j_topi (y := nI (E (st_ b_))) (by rw [(hF b_ hb_).1]) ?_
    refine j_bipush (pc := 48) (v := nI 16) hX dX9_areAlike_48 (by decide) ?_
    refine j_idiv (pc := 50) hX dX9_areAlike_50 (by decide) ?_
    refine j_topi (y := nI ((E (st_ b_)) / 16)) (pk_div (by omega) (by omega) (by omega)) ?_
    refine j_aload_n (pc := 51) hX dX9_areAlike_51 1 rfl ?_
    refine j_get (pc := 52) hX f_RX9_67 0 rfl rfl dX9_areAlike_52 ?_
    refine j_iload_n (pc := 55) hX dX9_areAlike_55 2 rfl ?_
    refine j_ialdN (pc := 56) (j := a_) hX 2 rfl (by omega) (by omega) dX9_areAlike_56 ?_
    refine j_topi (y := nI (E (st_ a_))) (by rw [(hF a_ ha_).1]) ?_
    refine j_bipush (pc := 57) (v := nI 16) hX dX9_areAlike_57 (by decide) ?_
    refine j_idiv (pc := 59) hX dX9_areAlike_59 (by decide) ?_
    refine j_topi (y := nI ((E (st_ a_)) / 16)) (pk_div (by omega) (by omega) (by omega)) ?_
    refine j_isub (pc := 60) hX dX9_areAlike_60 ?_
    refine j_aload_n (pc := 61) hX dX9_areAlike_61 1 rfl ?_
    refine j_get (pc := 62) hX f_RX9_15 0 rfl rfl dX9_areAlike_62 ?_
    refine j_iadd (pc := 65) hX dX9_areAlike_65 ?_
    refine j_topi (y := nI (E (st_ b_) / 16 + H - E (st_ a_) / 16)) (subn_nI (by omega) (by omega) (by omega)) ?_
    refine j_istore (pc := 66) (lv' := [(4, .int (nI (E (st_ b_) / 16 + H - E (st_ a_) / 16))), (3, .int (nI (E (st_ b_) % 16 + W - E (st_ a_) % 16))), (0, .ref md), (1, .int (nI a_)), (2, .int (nI b_))]) hX dX9_areAlike_66 (by decide) rfl ?_
    refine j_iconstN (pc := 68) (j := 0) hX dX9_areAlike_68 rfl ?_
    refine j_istore (pc := 69) (lv' := [(5, .int (nI 0)), (4, .int (nI (E (st_ b_) / 16 + H - E (st_ a_) / 16))), (3, .int (nI (E (st_ b_) % 16 + W - E (st_ a_) % 16))), (0, .ref md), (1, .int (nI a_)), (2, .int (nI b_))]) hX dX9_areAlike_69 (by decide) rfl ?_
    have L71 : ∀ (m71 : Nat) (yy : Nat) (hy : yy ≤ H) (hA : ∀ c_, c_ % 16 < W → c_ / 16 < yy → (onC W H f c_ → Ln c_ = a_ → onC W H f (shI W H c_ (((E (st_ b_) % 16 : Nat) : Int) - ((E (st_ a_) % 16 : Nat) : Int)) (((E (st_ b_) / 16 : Nat) : Int) - ((E (st_ a_) / 16 : Nat) : Int))) ∧ Ln (shI W H c_ (((E (st_ b_) % 16 : Nat) : Int) - ((E (st_ a_) % 16 : Nat) : Int)) (((E (st_ b_) / 16 : Nat) : Int) - ((E (st_ a_) / 16 : Nat) : Int))) = b_)), H - yy < m71 → J X G 7 0 0 [(md, .inr (9, [.int (nI W), .int (nI H), .int t, .int (nI m), .int (nI k), .ref zc, .ref zr, .ref zb, .ref z1, .ref z2, .ref z3, .ref z4, .ref z5, .ref zm, .ref zmr, .ref zmb, .int mt, .ref zca, .ref zcw, .int (nI c), .ref zg, .ref zt, .ref zs, .ref zf, .ref zy, .ref zso, .ref zsf, .ref zsm, .int nt, .int nsh, .ref ztp, .ref zrw, .ref zpp, .int (nI tn), .int (nI pn), .int rdw, .int rdh, .ref zsz, .ref zit, .ref zk, .int (bI itk)])), (zt, ia G 256 La), (zf, ia G 256 (fun ι => nI (Ff ι))), (zy, ia G 256 (fun ι => nI (Zy ι)))] [(0, .ref md), (1, .int (nI a_)), (2, .int (nI b_)), (3, .int (nI (E (st_ b_) % 16 + W - E (st_ a_) % 16))), (4, .int (nI (E (st_ b_) / 16 + H - E (st_ a_) / 16))), (5, .int (nI yy))] 71 [] := by
      intro m71
      induction m71 with
      | zero => intro yy hy hA hm71; exact absurd hm71 (Nat.not_lt_zero _)
      | succ m71 ih71 =>
        intro yy hy hA hm71
        refine j_iload (pc := 71) hX dX9_areAlike_71 5 rfl ?_
        refine j_aload_n (pc := 73) hX dX9_areAlike_73 0 rfl ?_
        refine j_get (pc := 74) hX f_RX9_15 0 rfl rfl dX9_areAlike_74 ?_
        refine j_icmp_ge (pc := 77) (tgt := 155) hX dX9_areAlike_77 (by decide) (nI_toInt (n := yy) (by omega)) (nI_toInt (n := H) (by omega)) (fun c77 => ?_) (fun c77 => ?_)
        · skip
          refine j_iconstN (pc := 155) (j := 1) hX dX9_areAlike_155 rfl ?_
          exact j_zret (pc := 156) hX hR (by decide) dX9_areAlike_156 ⟨congrArg some (show Value.int (nI 1) = Value.int (bI (al a_ b_)) from bI_tt ((hal a_ b_).mpr ⟨by show st_ (a_ + 1) - st_ a_ = st_ (b_ + 1) - st_ b_; omega, fun c_ hc hl => hA c_ hc.1.1 (by have := hc.1.2; omega) hc hl⟩)), rfl⟩
        · skip
          refine j_iconstN (pc := 80) (j := 0) hX dX9_areAlike_80 rfl ?_
          refine j_istore (pc := 81) (lv' := [(6, .int (nI 0)), (0, .ref md), (1, .int (nI a_)), (2, .int (nI b_)), (3, .int (nI (E (st_ b_) % 16 + W - E (st_ a_) % 16))), (4, .int (nI (E (st_ b_) / 16 + H - E (st_ a_) / 16))), (5, .int (nI yy))]) hX dX9_areAlike_81 (by decide) rfl ?_
          have L83 : ∀ (m83 : Nat) (xx : Nat) (hxx : xx ≤ W) (hB : ∀ c_, c_ / 16 = yy → c_ % 16 < xx → (onC W H f c_ → Ln c_ = a_ → onC W H f (shI W H c_ (((E (st_ b_) % 16 : Nat) : Int) - ((E (st_ a_) % 16 : Nat) : Int)) (((E (st_ b_) / 16 : Nat) : Int) - ((E (st_ a_) / 16 : Nat) : Int))) ∧ Ln (shI W H c_ (((E (st_ b_) % 16 : Nat) : Int) - ((E (st_ a_) % 16 : Nat) : Int)) (((E (st_ b_) / 16 : Nat) : Int) - ((E (st_ a_) / 16 : Nat) : Int))) = b_)), W - xx < m83 → J X G 7 0 0 [(md, .inr (9, [.int (nI W), .int (nI H), .int t, .int (nI m), .int (nI k), .ref zc, .ref zr, .ref zb, .ref z1, .ref z2, .ref z3, .ref z4, .ref z5, .ref zm, .ref zmr, .ref zmb, .int mt, .ref zca, .ref zcw, .int (nI c), .ref zg, .ref zt, .ref zs, .ref zf, .ref zy, .ref zso, .ref zsf, .ref zsm, .int nt, .int nsh, .ref ztp, .ref zrw, .ref zpp, .int (nI tn), .int (nI pn), .int rdw, .int rdh, .ref zsz, .ref zit, .ref zk, .int (bI itk)])), (zt, ia G 256 La), (zf, ia G 256 (fun ι => nI (Ff ι))), (zy, ia G 256 (fun ι => nI (Zy ι)))] [(0, .ref md), (1, .int (nI a_)), (2, .int (nI b_)), (3, .int (nI (E (st_ b_) % 16 + W - E (st_ a_) % 16))), (4, .int (nI (E (st_ b_) / 16 + H - E (st_ a_) / 16))), (5, .int (nI yy)), (6, .int (nI xx))] 83 [] := by
            intro m83
            induction m83 with
            | zero => intro xx hxx hB hm83; exact absurd hm83 (Nat.not_lt_zero _)
            | succ m83 ih83 =>
              intro xx hxx hB hm83
              refine j_iload (pc := 83) hX dX9_areAlike_83 6 rfl ?_
              refine j_aload_n (pc := 85) hX dX9_areAlike_85 0 rfl ?_
              refine j_get (pc := 86) hX f_RX9_9 0 rfl rfl dX9_areAlike_86 ?_
              refine j_icmp_ge (pc := 89) (tgt := 149) hX dX9_areAlike_89 (by decide) (nI_toInt (n := xx) (by omega)) (nI_toInt (n := W) (by omega)) (fun c89 => ?_) (fun c89 => ?_)
              · skip
                refine j_iinc (pc := 149) (q := 5) (v := nI (yy + 1)) (lv' := [(5, .int (nI (yy + 1))), (0, .ref md), (1, .int (nI a_)), (2, .int (nI b_)), (3, .int (nI (E (st_ b_) % 16 + W - E (st_ a_) % 16))), (4, .int (nI (E (st_ b_) / 16 + H - E (st_ a_) / 16))), (6, .int (nI xx))]) hX dX9_areAlike_149 rfl (nI_inc _ 1) (by decide) rfl ?_
                refine j_goto (pc := 152) (tgt := 71) hX dX9_areAlike_152 (by decide) ?_
                refine j_lv [1, 2, 3, 4, 5, 0] (lv' := [(0, .ref md), (1, .int (nI a_)), (2, .int (nI b_)), (3, .int (nI (E (st_ b_) % 16 + W - E (st_ a_) % 16))), (4, .int (nI (E (st_ b_) / 16 + H - E (st_ a_) / 16))), (5, .int (nI (yy + 1)))]) rfl ?_
                exact ih71 (yy + 1) (by omega) (fun c_ h1 h2 => by rcases Nat.lt_or_ge (c_ / 16) yy with q | q; exact hA c_ h1 q; exact hB c_ (by omega) (by omega)) (by omega)
              · skip
                refine j_aload_n (pc := 92) hX dX9_areAlike_92 0 rfl ?_
                refine j_get (pc := 93) hX f_RX9_61 0 rfl rfl dX9_areAlike_93 ?_
                refine j_bipush (pc := 96) (v := nI 16) hX dX9_areAlike_96 (by decide) ?_
                refine j_iload (pc := 98) hX dX9_areAlike_98 5 rfl ?_
                refine j_imul (pc := 100) hX dX9_areAlike_100 ?_
                refine j_topi (y := nI (16 * yy)) (pk_mul _ _) ?_
                refine j_iload (pc := 101) hX dX9_areAlike_101 6 rfl ?_
                refine j_iadd (pc := 103) hX dX9_areAlike_103 ?_
                refine j_topi (y := nI (16 * yy + xx)) (nI_add _ _) ?_
                refine j_ialdN (pc := 104) (j := 16 * yy + xx) hX 1 rfl (by omega) (by omega) dX9_areAlike_104 ?_
                refine j_iload_n (pc := 105) hX dX9_areAlike_105 1 rfl ?_
                refine j_icmp_ne (pc := 106) (tgt := 143) hX dX9_areAlike_106 (by decide) rfl (nI_toInt (n := a_) (by omega)) (fun c106 => ?_) (fun c106 => ?_)
                · skip
                  have hnew : onC W H f (16 * yy + xx) → Ln (16 * yy + xx) = a_ → onC W H f (shI W H (16 * yy + xx) (((E (st_ b_) % 16 : Nat) : Int) - ((E (st_ a_) % 16 : Nat) : Int)) (((E (st_ b_) / 16 : Nat) : Int) - ((E (st_ a_) / 16 : Nat) : Int))) ∧ Ln (shI W H (16 * yy + xx) (((E (st_ b_) % 16 : Nat) : Int) - ((E (st_ a_) % 16 : Nat) : Int)) (((E (st_ b_) / 16 : Nat) : Int) - ((E (st_ a_) / 16 : Nat) : Int))) = b_ := fun o e => absurd ((LbC_i (i := a_) hLb ⟨by omega, by omega⟩ (by omega) (fun o => by have := hS.1.1 _ o; omega)).mpr ⟨o, e⟩) c106
                  refine j_iinc (pc := 143) (q := 6) (v := nI (xx + 1)) (lv' := [(6, .int (nI (xx + 1))), (0, .ref md), (1, .int (nI a_)), (2, .int (nI b_)), (3, .int (nI (E (st_ b_) % 16 + W - E (st_ a_) % 16))), (4, .int (nI (E (st_ b_) / 16 + H - E (st_ a_) / 16))), (5, .int (nI yy))]) hX dX9_areAlike_143 rfl (nI_inc _ 1) (by decide) rfl ?_
                  refine j_goto (pc := 146) (tgt := 83) hX dX9_areAlike_146 (by decide) ?_
                  refine j_lv [1, 2, 3, 4, 5, 6, 0] (lv' := [(0, .ref md), (1, .int (nI a_)), (2, .int (nI b_)), (3, .int (nI (E (st_ b_) % 16 + W - E (st_ a_) % 16))), (4, .int (nI (E (st_ b_) / 16 + H - E (st_ a_) / 16))), (5, .int (nI yy)), (6, .int (nI (xx + 1)))]) rfl ?_
                  exact ih83 (xx + 1) (by omega) (fun c_ h1 h2 => by rcases Nat.lt_or_ge (c_ % 16) xx with q | q; exact hB c_ h1 q; obtain rfl : c_ = 16 * yy + xx := (by omega); exact hnew) (by omega)
                · skip
                  have hon := (LbC_i (i := a_) hLb ⟨by omega, by omega⟩ (by omega) (fun o => by have := hS.1.1 _ o; omega)).mp c106
                  refine j_aload_n (pc := 109) hX dX9_areAlike_109 0 rfl ?_
                  refine j_get (pc := 110) hX f_RX9_61 0 rfl rfl dX9_areAlike_110 ?_
                  refine j_bipush (pc := 113) (v := nI 16) hX dX9_areAlike_113 (by decide) ?_
                  refine j_iload (pc := 115) hX dX9_areAlike_115 5 rfl ?_
                  refine j_iload (pc := 117) hX dX9_areAlike_117 4 rfl ?_
                  refine j_iadd (pc := 119) hX dX9_areAlike_119 ?_
                  refine j_topi (y := nI (yy + (E (st_ b_) / 16 + H - E (st_ a_) / 16))) (nI_add _ _) ?_
                  refine j_aload_n (pc := 120) hX dX9_areAlike_120 0 rfl ?_
                  refine j_get (pc := 121) hX f_RX9_15 0 rfl rfl dX9_areAlike_121 ?_
                  refine j_irem (pc := 124) hX dX9_areAlike_124 (nI_ne0 (by omega) (by omega)) ?_
                  refine j_topi (y := nI (crI ((yy : Int) + (((E (st_ b_) / 16 : Nat) : Int) - ((E (st_ a_) / 16 : Nat) : Int))) H)) (by rw [pk_rem (by omega) (by omega) (by omega), Nat.add_comm (E (st_ b_) / 16) H, Nat.add_comm H _, crI_m (by omega) (by omega) (by omega)]) ?_
                  refine j_imul (pc := 125) hX dX9_areAlike_125 ?_
                  refine j_topi (y := nI (16 * (crI ((yy : Int) + (((E (st_ b_) / 16 : Nat) : Int) - ((E (st_ a_) / 16 : Nat) : Int))) H))) (pk_mul _ _) ?_
                  refine j_iload (pc := 126) hX dX9_areAlike_126 6 rfl ?_
                  refine j_iload_n (pc := 128) hX dX9_areAlike_128 3 rfl ?_
                  refine j_iadd (pc := 129) hX dX9_areAlike_129 ?_
                  refine j_topi (y := nI (xx + (E (st_ b_) % 16 + W - E (st_ a_) % 16))) (nI_add _ _) ?_
                  refine j_aload_n (pc := 130) hX dX9_areAlike_130 0 rfl ?_
                  refine j_get (pc := 131) hX f_RX9_9 0 rfl rfl dX9_areAlike_131 ?_
                  refine j_irem (pc := 134) hX dX9_areAlike_134 (nI_ne0 (by omega) (by omega)) ?_
                  refine j_topi (y := nI (crI ((xx : Int) + (((E (st_ b_) % 16 : Nat) : Int) - ((E (st_ a_) % 16 : Nat) : Int))) W)) (by rw [pk_rem (by omega) (by omega) (by omega), crI_m (by omega) (by omega) (by omega)]) ?_
                  have hcx := crI_2 (z := (xx : Int) + (((E (st_ b_) % 16 : Nat) : Int) - ((E (st_ a_) % 16 : Nat) : Int))) (n := W) (by omega) (by omega) (by omega)
                  have hcy := crI_2 (z := (yy : Int) + (((E (st_ b_) / 16 : Nat) : Int) - ((E (st_ a_) / 16 : Nat) : Int))) (n := H) (by omega) (by omega) (by omega)
                  refine j_iadd (pc := 135) hX dX9_areAlike_135 ?_
                  refine j_topi (y := nI (16 * (crI ((yy : Int) + (((E (st_ b_) / 16 : Nat) : Int) - ((E (st_ a_) / 16 : Nat) : Int))) H) + (crI ((xx : Int) + (((E (st_ b_) % 16 : Nat) : Int) - ((E (st_ a_) % 16 : Nat) : Int))) W))) (nI_add _ _) ?_
                  have hsh : shI W H (16 * yy + xx) (((E (st_ b_) % 16 : Nat) : Int) - ((E (st_ a_) % 16 : Nat) : Int)) (((E (st_ b_) / 16 : Nat) : Int) - ((E (st_ a_) / 16 : Nat) : Int)) = 16 * (crI ((yy : Int) + (((E (st_ b_) / 16 : Nat) : Int) - ((E (st_ a_) / 16 : Nat) : Int))) H) + crI ((xx : Int) + (((E (st_ b_) % 16 : Nat) : Int) - ((E (st_ a_) % 16 : Nat) : Int))) W := by unfold shI; rw [show (16 * yy + xx) / 16 = yy from by omega, show (16 * yy + xx) % 16 = xx from by omega]
                  have hlab := LbC_i (c := 16 * (crI ((yy : Int) + (((E (st_ b_) / 16 : Nat) : Int) - ((E (st_ a_) / 16 : Nat) : Int))) H) + crI ((xx : Int) + (((E (st_ b_) % 16 : Nat) : Int) - ((E (st_ a_) % 16 : Nat) : Int))) W) (i := b_) hLb (by omega) (by omega) (fun o => by have := hS.1.1 _ o; omega)
                  refine j_ialdN (pc := 136) (j := 16 * (crI ((yy : Int) + (((E (st_ b_) / 16 : Nat) : Int) - ((E (st_ a_) / 16 : Nat) : Int))) H) + (crI ((xx : Int) + (((E (st_ b_) % 16 : Nat) : Int) - ((E (st_ a_) % 16 : Nat) : Int))) W)) hX 1 rfl (by omega) (by omega) dX9_areAlike_136 ?_
                  refine j_iload_n (pc := 137) hX dX9_areAlike_137 2 rfl ?_
                  refine j_icmp_eq (pc := 138) (tgt := 143) hX dX9_areAlike_138 (by decide) rfl (nI_toInt (n := b_) (by omega)) (fun c138 => ?_) (fun c138 => ?_)
                  · skip
                    have hnew : onC W H f (16 * yy + xx) → Ln (16 * yy + xx) = a_ → onC W H f (shI W H (16 * yy + xx) (((E (st_ b_) % 16 : Nat) : Int) - ((E (st_ a_) % 16 : Nat) : Int)) (((E (st_ b_) / 16 : Nat) : Int) - ((E (st_ a_) / 16 : Nat) : Int))) ∧ Ln (shI W H (16 * yy + xx) (((E (st_ b_) % 16 : Nat) : Int) - ((E (st_ a_) % 16 : Nat) : Int)) (((E (st_ b_) / 16 : Nat) : Int) - ((E (st_ a_) / 16 : Nat) : Int))) = b_ := fun _ _ => by rw [hsh]; exact hlab.mp c138
                    refine j_iinc (pc := 143) (q := 6) (v := nI (xx + 1)) (lv' := [(6, .int (nI (xx + 1))), (0, .ref md), (1, .int (nI a_)), (2, .int (nI b_)), (3, .int (nI (E (st_ b_) % 16 + W - E (st_ a_) % 16))), (4, .int (nI (E (st_ b_) / 16 + H - E (st_ a_) / 16))), (5, .int (nI yy))]) hX dX9_areAlike_143 rfl (nI_inc _ 1) (by decide) rfl ?_
                    refine j_goto (pc := 146) (tgt := 83) hX dX9_areAlike_146 (by decide) ?_
                    refine j_lv [1, 2, 3, 4, 5, 6, 0] (lv' := [(0, .ref md), (1, .int (nI a_)), (2, .int (nI b_)), (3, .int (nI (E (st_ b_) % 16 + W - E (st_ a_) % 16))), (4, .int (nI (E (st_ b_) / 16 + H - E (st_ a_) / 16))), (5, .int (nI yy)), (6, .int (nI (xx + 1)))]) rfl ?_
                    exact ih83 (xx + 1) (by omega) (fun c_ h1 h2 => by rcases Nat.lt_or_ge (c_ % 16) xx with q | q; exact hB c_ h1 q; obtain rfl : c_ = 16 * yy + xx := (by omega); exact hnew) (by omega)
                  · skip
                    refine j_iconstN (pc := 141) (j := 0) hX dX9_areAlike_141 rfl ?_
                    exact j_zret (pc := 142) hX hR (by decide) dX9_areAlike_142 ⟨congrArg some (show Value.int (nI 0) = Value.int (bI (al a_ b_)) from bI_ff (Bool.eq_false_iff.mpr (fun q => c138 (hlab.mpr (by have := ((hal a_ b_).mp q).2 _ hon.1 hon.2; rw [hsh] at this; exact this))))), rfl⟩
          refine j_lv [1, 2, 3, 4, 5, 6, 0] (lv' := [(0, .ref md), (1, .int (nI a_)), (2, .int (nI b_)), (3, .int (nI (E (st_ b_) % 16 + W - E (st_ a_) % 16))), (4, .int (nI (E (st_ b_) / 16 + H - E (st_ a_) / 16))), (5, .int (nI yy)), (6, .int (nI 0))]) rfl ?_
          exact L83 ((W - 0) + 1) 0 (by omega) (fun c_ _ h => absurd h (Nat.not_lt_zero _)) (Nat.lt_succ_self _)
    refine j_lv [3, 4, 5, 2, 1, 0] (lv' := [(0, .ref md), (1, .int (nI a_)), (2, .int (nI b_)), (3, .int (nI (E (st_ b_) % 16 + W - E (st_ a_) % 16))), (4, .int (nI (E (st_ b_) / 16 + H - E (st_ a_) / 16))), (5, .int (nI 0))]) rfl ?_
    exact L71 ((H - 0) + 1) 0 (by omega) (fun c_ _ h => absurd h (Nat.not_lt_zero _)) (Nat.lt_succ_self _)
  · skip
    refine j_iconstN (pc := 15) (j := 0) hX dX9_areAlike_15 rfl ?_
    exact j_zret (pc := 16) hX hR (by decide) dX9_areAlike_16 ⟨congrArg some (show Value.int (nI 0) = Value.int (bI (al a_ b_)) from bI_ff (Bool.eq_false_iff.mpr (fun q => c12 (by have := ((hal a_ b_).mp q).1; exact congrArg (fun z : Nat => (z : Int)) this)))), rfl⟩
