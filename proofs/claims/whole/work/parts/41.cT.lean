set_option maxHeartbeats 8000000 in
set_option maxRecDepth 100000 in
theorem c_X6_lookAt (G : GT) (th : Nat) (nM : Nat) (nS : Nat) (thw : Nat) (thh : Nat) (tht : Nat) (thp : Nat) (nP : Nat) (ths : Nat) (tho : Nat) (thm : Nat) (La : Nat → Int32) (E : Nat → Nat) (st_ : Nat → Nat) (No : Nat → Nat) (Mo : Nat → Nat) (g : Nat) (W : Nat) (H : Nat) (t : Int32) (b : Nat) (f : Nat → Int32) (hW1 : 2 ≤ W) (hW2 : W ≤ 16) (hH1 : 2 ≤ H) (hH2 : H ≤ 16) (hst0 : st_ 0 = 0) (l : Launch) : CT l G yX6_lookAt cX6_lookAt 4 none { frames := 4, cells := 0, slots := 0, locals := 94 } [.ref th, .ref g] [(th, .inr (6, [.int (nI nM), .int (nI nS), .int (nI thw), .int (nI thh), .ref tht, .ref thp, .int (nI nP), .ref ths, .ref tho, .ref thm])), (tht, ia G 256 La), (thp, ia G 256 (fun ι => nI (E ι))), (ths, ia G 65 (fun ι => nI (st_ ι))), (tho, ia G 64 (fun ι => nI (No ι))), (thm, ia G 64 (fun ι => nI (Mo ι))), (g, .inr (1, [.int (nI W), .int (nI H), .int t, .ref b])), (b, ia G 16 f)] (fun vv ww => ∃ (nM2 nP2 : Nat) (La2 : Nat → Int32) (E2 st2 No2 Mo2 Ln2 : Nat → Nat) (al : Nat → Nat → Bool), vv = none ∧ ww = [(th, .inr (6, [.int (nI nM2), .int (nI ((shS al nM2).1)), .int (nI W), .int (nI H), .ref tht, .ref thp, .int (nI nP2), .ref ths, .ref tho, .ref thm])), (tht, ia G 256 La2), (thp, ia G 256 (fun ι => nI (E2 ι))), (ths, ia G 65 (fun ι => nI (st2 ι))), (tho, ia G 64 (fun ι => nI (No2 ι))), (thm, ia G 64 (fun ι => nI (Mo2 ι))), (g, .inr (1, [.int (nI W), .int (nI H), .int t, .ref b])), (b, ia G 16 f)] ∧ (ThS W H f nM2 Ln2 E2 st2) ∧ (LbC W H f La2 Ln2) ∧ (∀ m i, al m i = true ↔ alP W H f Ln2 (fun k => E2 (st2 k)) (fun k => st2 (k + 1) - st2 k) m i) ∧ (∀ z, z < nM2 → No2 z = (shS al nM2).2.1 z) ∧ (∀ z, z < (shS al nM2).1 → Mo2 z = (shS al nM2).2.2 z)) := by
  refine CT.of (lv := [(0, .ref th), (1, .ref g)]) RX6 "lookAt" rfl rfl (by decide +kernel) (Nat.le_of_ble_eq_true rfl) rfl (fun X hX hR => ?_)
  refine j_aload_n (pc := 0) hX dX6_lookAt_0 0 rfl ?_
  refine j_aload_n (pc := 1) hX dX6_lookAt_1 1 rfl ?_
  refine j_get (pc := 2) hX f_RX6_51 6 rfl rfl dX6_lookAt_2 ?_
  refine j_put (pc := 5) (ws' := [(th, .inr (6, [.int (nI nM), .int (nI nS), .int (nI W), .int (nI thh), .ref tht, .ref thp, .int (nI nP), .ref ths, .ref tho, .ref thm])), (tht, ia G 256 La), (thp, ia G 256 (fun ι => nI (E ι))), (ths, ia G 65 (fun ι => nI (st_ ι))), (tho, ia G 64 (fun ι => nI (No ι))), (thm, ia G 64 (fun ι => nI (Mo ι))), (g, .inr (1, [.int (nI W), .int (nI H), .int t, .ref b])), (b, ia G 16 f)]) hX f_RX6_18 0 rfl rfl rfl (Nat.le_of_ble_eq_true rfl) rfl dX6_lookAt_5 ?_
  refine j_aload_n (pc := 8) hX dX6_lookAt_8 0 rfl ?_
  refine j_aload_n (pc := 9) hX dX6_lookAt_9 1 rfl ?_
  refine j_get (pc := 10) hX f_RX6_54 6 rfl rfl dX6_lookAt_10 ?_
  refine j_put (pc := 13) (ws' := [(th, .inr (6, [.int (nI nM), .int (nI nS), .int (nI W), .int (nI H), .ref tht, .ref thp, .int (nI nP), .ref ths, .ref tho, .ref thm])), (tht, ia G 256 La), (thp, ia G 256 (fun ι => nI (E ι))), (ths, ia G 65 (fun ι => nI (st_ ι))), (tho, ia G 64 (fun ι => nI (No ι))), (thm, ia G 64 (fun ι => nI (Mo ι))), (g, .inr (1, [.int (nI W), .int (nI H), .int t, .ref b])), (b, ia G 16 f)]) hX f_RX6_21 0 rfl rfl rfl (Nat.le_of_ble_eq_true rfl) rfl dX6_lookAt_13 ?_
  refine j_aload_n (pc := 16) hX dX6_lookAt_16 0 rfl ?_
  refine j_iconstN (pc := 17) (j := 0) hX dX6_lookAt_17 rfl ?_
  refine j_put (pc := 18) (ws' := [(th, .inr (6, [.int (nI 0), .int (nI nS), .int (nI W), .int (nI H), .ref tht, .ref thp, .int (nI nP), .ref ths, .ref tho, .ref thm])), (tht, ia G 256 La), (thp, ia G 256 (fun ι => nI (E ι))), (ths, ia G 65 (fun ι => nI (st_ ι))), (tho, ia G 64 (fun ι => nI (No ι))), (thm, ia G 64 (fun ι => nI (Mo ι))), (g, .inr (1, [.int (nI W), .int (nI H), .int t, .ref b])), (b, ia G 16 f)]) hX f_RX6_9 0 rfl rfl rfl (Nat.le_of_ble_eq_true rfl) rfl dX6_lookAt_18 ?_
  refine j_aload_n (pc := 21) hX dX6_lookAt_21 0 rfl ?_
  refine j_iconstN (pc := 22) (j := 0) hX dX6_lookAt_22 rfl ?_
  refine j_put (pc := 23) (ws' := [(th, .inr (6, [.int (nI 0), .int (nI nS), .int (nI W), .int (nI H), .ref tht, .ref thp, .int (nI 0), .ref ths, .ref tho, .ref thm])), (tht, ia G 256 La), (thp, ia G 256 (fun ι => nI (E ι))), (ths, ia G 65 (fun ι => nI (st_ ι))), (tho, ia G 64 (fun ι => nI (No ι))), (thm, ia G 64 (fun ι => nI (Mo ι))), (g, .inr (1, [.int (nI W), .int (nI H), .int t, .ref b])), (b, ia G 16 f)]) hX f_RX6_31 0 rfl rfl rfl (Nat.le_of_ble_eq_true rfl) rfl dX6_lookAt_23 ?_
  refine j_iconstN (pc := 26) (j := 0) hX dX6_lookAt_26 rfl ?_
  refine j_istore_n (pc := 27) (lv' := [(2, .int (nI 0)), (0, .ref th), (1, .ref g)]) hX dX6_lookAt_27 (by decide) rfl ?_
  have L28 : ∀ (m28 : Nat) (yy : Nat) (La3 : Nat → Int32) (hy : yy ≤ H) (hA : ∀ c_, c_ % 16 < W → c_ / 16 < yy → MkC W H f La3 c_), H - yy < m28 → J X G 4 0 0 [(th, .inr (6, [.int (nI 0), .int (nI nS), .int (nI W), .int (nI H), .ref tht, .ref thp, .int (nI 0), .ref ths, .ref tho, .ref thm])), (tht, ia G 256 La3), (thp, ia G 256 (fun ι => nI (E ι))), (ths, ia G 65 (fun ι => nI (st_ ι))), (tho, ia G 64 (fun ι => nI (No ι))), (thm, ia G 64 (fun ι => nI (Mo ι))), (g, .inr (1, [.int (nI W), .int (nI H), .int t, .ref b])), (b, ia G 16 f)] [(0, .ref th), (1, .ref g), (2, .int (nI yy))] 28 [] := by
    intro m28
    induction m28 with
    | zero => intro yy La3 hy hA hm28; exact absurd hm28 (Nat.not_lt_zero _)
    | succ m28 ih28 =>
      intro yy La3 hy hA hm28
      refine j_iload_n (pc := 28) hX dX6_lookAt_28 2 rfl ?_
      refine j_aload_n (pc := 29) hX dX6_lookAt_29 0 rfl ?_
      refine j_get (pc := 30) hX f_RX6_21 0 rfl rfl dX6_lookAt_30 ?_
      refine j_icmp_ge (pc := 33) (tgt := 87) hX dX6_lookAt_33 (by decide) (nI_toInt (n := yy) (by omega)) (nI_toInt (n := H) (by omega)) (fun c33 => ?_) (fun c33 => ?_)
      · skip
        refine j_iconstN (pc := 87) (j := 0) hX dX6_lookAt_87 rfl ?_
        refine j_istore_n (pc := 88) (lv' := [(2, .int (nI 0)), (0, .ref th), (1, .ref g)]) hX dX6_lookAt_88 (by decide) rfl ?_
        have L89 : ∀ (m89 : Nat) (yy nM3 nP3 : Nat) (La3 : Nat → Int32) (E3 st3 : Nat → Nat) (hy : yy ≤ H) (hP : ThP (-1) W H f nM3 La3 E3 st3) (hnP : nP3 = st3 nM3) (hm : ∀ c_, c_ % 16 < W → c_ / 16 < H → (La3 c_ = -1 → onC W H f c_) ∧ (¬ onC W H f c_ → La3 c_ = -5)) (hdo : ∀ c_, onC W H f c_ → c_ < 16 * yy → La3 c_ ≠ -1), H - yy < m89 → J X G 4 0 0 [(th, .inr (6, [.int (nI nM3), .int (nI nS), .int (nI W), .int (nI H), .ref tht, .ref thp, .int (nI nP3), .ref ths, .ref tho, .ref thm])), (tht, ia G 256 La3), (thp, ia G 256 (fun ι => nI (E3 ι))), (ths, ia G 65 (fun ι => nI (st3 ι))), (tho, ia G 64 (fun ι => nI (No ι))), (thm, ia G 64 (fun ι => nI (Mo ι))), (g, .inr (1, [.int (nI W), .int (nI H), .int t, .ref b])), (b, ia G 16 f)] [(0, .ref th), (1, .ref g), (2, .int (nI yy))] 89 [] := by
          intro m89
          induction m89 with
          | zero => intro yy nM3 nP3 La3 E3 st3 hy hP hnP hm hdo hm89; exact absurd hm89 (Nat.not_lt_zero _)
          | succ m89 ih89 =>
            intro yy nM3 nP3 La3 E3 st3 hy hP hnP hm hdo hm89
            refine j_iload_n (pc := 89) hX dX6_lookAt_89 2 rfl ?_
            refine j_aload_n (pc := 90) hX dX6_lookAt_90 0 rfl ?_
            refine j_get (pc := 91) hX f_RX6_21 0 rfl rfl dX6_lookAt_91 ?_
            refine j_icmp_ge (pc := 94) (tgt := 135) hX dX6_lookAt_94 (by decide) (nI_toInt (n := yy) (by omega)) (nI_toInt (n := H) (by omega)) (fun c94 => ?_) (fun c94 => ?_)
            · skip
              obtain ⟨hTS, hTL⟩ := ThP_fin hP (fun c_ o => hdo c_ o (by have := o.1; omega)) (fun c_ h1 h2 z => (hm c_ h1 h2).2 z)
              obtain ⟨al, hal⟩ := al_ex (alP W H f (fun c_ => (La3 c_).toInt.toNat) (fun k => E3 (st3 k)) (fun k => st3 (k + 1) - st3 k))
              refine j_aload_n (pc := 135) hX dX6_lookAt_135 0 rfl ?_
              refine j_callV (pc := 136) hX kX6_nameShapes kVX6_nameShapes l_RX6_70 (fun l => c_X6_nameShapes G th nM3 nS W H tht thp nP3 ths tho thm La3 E3 st3 No Mo f (fun c_ => (La3 c_).toInt.toNat) al (by omega) (by omega) (by omega) (by omega) (hTS) (hTL) (hal) l) [0, 1, 2, 3, 4, 5] [6, 7] [] rfl 0 6 rfl rfl rfl rfl rfl rfl ⟨rfl, rfl, by decide⟩ rfl rfl (Nat.le_of_ble_eq_true rfl) dX6_lookAt_136 (fun v w hq => ?_)
              obtain ⟨No2_136, Mo2_136, rfl, rfl, h136_0, h136_1⟩ := hq
              refine j_ws [2, 3, 4, 5, 6, 7, 0, 1] (ws' := [(th, .inr (6, [.int (nI nM3), .int (nI ((shS al nM3).1)), .int (nI W), .int (nI H), .ref tht, .ref thp, .int (nI nP3), .ref ths, .ref tho, .ref thm])), (tht, ia G 256 La3), (thp, ia G 256 (fun ι => nI (E3 ι))), (ths, ia G 65 (fun ι => nI (st3 ι))), (tho, ia G 64 (fun ι => nI (No2_136 ι))), (thm, ia G 64 (fun ι => nI (Mo2_136 ι))), (g, .inr (1, [.int (nI W), .int (nI H), .int t, .ref b])), (b, ia G 16 f)]) rfl rfl ?_
              exact j_vret (pc := 139) hX hR dX6_lookAt_139 ⟨nM3, nP3, La3, E3, st3, No2_136, Mo2_136, (fun c_ => (La3 c_).toInt.toNat), al, rfl, rfl, (hTS), (hTL), (hal), (h136_0), (h136_1)⟩
            · skip
              refine j_iconstN (pc := 97) (j := 0) hX dX6_lookAt_97 rfl ?_
              refine j_istore_n (pc := 98) (lv' := [(3, .int (nI 0)), (0, .ref th), (1, .ref g), (2, .int (nI yy))]) hX dX6_lookAt_98 (by decide) rfl ?_
              have L99 : ∀ (m99 : Nat) (xx nM4 nP4 : Nat) (La4 : Nat → Int32) (E4 st4 : Nat → Nat) (hxx : xx ≤ W) (hP4 : ThP (-1) W H f nM4 La4 E4 st4) (hnP4 : nP4 = st4 nM4) (hm4 : ∀ c_, c_ % 16 < W → c_ / 16 < H → (La4 c_ = -1 → onC W H f c_) ∧ (¬ onC W H f c_ → La4 c_ = -5)) (hdo4 : ∀ c_, onC W H f c_ → c_ < 16 * yy + xx → La4 c_ ≠ -1), W - xx < m99 → J X G 4 0 0 [(th, .inr (6, [.int (nI nM4), .int (nI nS), .int (nI W), .int (nI H), .ref tht, .ref thp, .int (nI nP4), .ref ths, .ref tho, .ref thm])), (tht, ia G 256 La4), (thp, ia G 256 (fun ι => nI (E4 ι))), (ths, ia G 65 (fun ι => nI (st4 ι))), (tho, ia G 64 (fun ι => nI (No ι))), (thm, ia G 64 (fun ι => nI (Mo ι))), (g, .inr (1, [.int (nI W), .int (nI H), .int t, .ref b])), (b, ia G 16 f)] [(0, .ref th), (1, .ref g), (2, .int (nI yy)), (3, .int (nI xx))] 99 [] := by
                intro m99
                induction m99 with
                | zero => intro xx nM4 nP4 La4 E4 st4 hxx hP4 hnP4 hm4 hdo4 hm99; exact absurd hm99 (Nat.not_lt_zero _)
                | succ m99 ih99 =>
                  intro xx nM4 nP4 La4 E4 st4 hxx hP4 hnP4 hm4 hdo4 hm99
                  refine j_iload_n (pc := 99) hX dX6_lookAt_99 3 rfl ?_
                  refine j_aload_n (pc := 100) hX dX6_lookAt_100 0 rfl ?_
                  refine j_get (pc := 101) hX f_RX6_18 0 rfl rfl dX6_lookAt_101 ?_
                  refine j_icmp_ge (pc := 104) (tgt := 129) hX dX6_lookAt_104 (by decide) (nI_toInt (n := xx) (by omega)) (nI_toInt (n := W) (by omega)) (fun c104 => ?_) (fun c104 => ?_)
                  · skip
                    refine j_iinc (pc := 129) (q := 2) (v := nI (yy + 1)) (lv' := [(2, .int (nI (yy + 1))), (0, .ref th), (1, .ref g), (3, .int (nI xx))]) hX dX6_lookAt_129 rfl (nI_inc _ 1) (by decide) rfl ?_
                    refine j_goto (pc := 132) (tgt := 89) hX dX6_lookAt_132 (by decide) ?_
                    refine j_lv [1, 2, 0] (lv' := [(0, .ref th), (1, .ref g), (2, .int (nI (yy + 1)))]) rfl ?_
                    exact ih89 (yy + 1) nM4 nP4 La4 E4 st4 (by omega) (hP4) (hnP4) (hm4) (fun c_ o h => by have g := o.1; exact hdo4 c_ o (by omega)) (by omega)
                  · skip
                    refine j_aload_n (pc := 107) hX dX6_lookAt_107 0 rfl ?_
                    refine j_iload_n (pc := 108) hX dX6_lookAt_108 3 rfl ?_
                    refine j_iload_n (pc := 109) hX dX6_lookAt_109 2 rfl ?_
                    refine j_callV (pc := 110) hX kX6_thingOn kVX6_thingOn l_RX6_63 (fun l => c_X6_thingOn G th nM4 nS W H tht thp nP4 ths tho thm La4 E4 st4 No Mo xx yy (by omega) (by omega) l) [0, 1, 2, 3, 4, 5] [6, 7] [] rfl 0 6 rfl rfl rfl rfl rfl rfl ⟨rfl, rfl, by decide⟩ rfl rfl (Nat.le_of_ble_eq_true rfl) dX6_lookAt_110 (fun v w hq => ?_)
                    obtain ⟨rfl, rfl⟩ := hq
                    refine j_ws [2, 3, 4, 5, 6, 7, 0, 1] (ws' := [(th, .inr (6, [.int (nI nM4), .int (nI nS), .int (nI W), .int (nI H), .ref tht, .ref thp, .int (nI nP4), .ref ths, .ref tho, .ref thm])), (tht, ia G 256 La4), (thp, ia G 256 (fun ι => nI (E4 ι))), (ths, ia G 65 (fun ι => nI (st4 ι))), (tho, ia G 64 (fun ι => nI (No ι))), (thm, ia G 64 (fun ι => nI (Mo ι))), (g, .inr (1, [.int (nI W), .int (nI H), .int t, .ref b])), (b, ia G 16 f)]) rfl rfl ?_
                    refine j_iconst (pc := 113) (v := (-1)) hX dX6_lookAt_113 (by decide) ?_
                    refine j_icmp_ne (pc := 114) (tgt := 123) hX dX6_lookAt_114 (by decide) rfl (show ((-1) : Int32).toInt = -1 from by decide) (fun c114 => ?_) (fun c114 => ?_)
                    · skip
                      refine j_iinc (pc := 123) (q := 3) (v := nI (xx + 1)) (lv' := [(3, .int (nI (xx + 1))), (0, .ref th), (1, .ref g), (2, .int (nI yy))]) hX dX6_lookAt_123 rfl (nI_inc _ 1) (by decide) rfl ?_
                      refine j_goto (pc := 126) (tgt := 99) hX dX6_lookAt_126 (by decide) ?_
                      refine j_lv [1, 2, 3, 0] (lv' := [(0, .ref th), (1, .ref g), (2, .int (nI yy)), (3, .int (nI (xx + 1)))]) rfl ?_
                      exact ih99 (xx + 1) nM4 nP4 La4 E4 st4 (by omega) (by first | exact h120_0 | exact hP4) (by first | exact updN_eq.symm | exact hnP4) (by first | exact hm4 | exact fun c_ h1 h2 => ⟨fun e => (hm4 c_ h1 h2).1 (Classical.byContradiction fun z => z (by rw [← h120_2 c_ z]; exact e)), fun z => by have a := (hm4 c_ h1 h2).2 z; rw [h120_2 c_ (by rw [a]; decide)]; exact a⟩) (by first | exact (fun c_ o h => by rcases Nat.lt_or_ge c_ (16 * yy + xx) with q | q; (have := hdo4 c_ o q; rw [h120_2 c_ this]; exact this); (rw [show c_ = (16 * yy + xx) from by omega]; exact h120_1)) | exact (fun c_ o h => by rcases Nat.lt_or_ge c_ (16 * yy + xx) with q | q; exact hdo4 c_ o q; (rw [show c_ = (16 * yy + xx) from by omega]; exact fun z => c114 (by rw [z]; rfl)))) (by omega)
                    · skip
                      have c114 : La4 (16 * yy + xx) = -1 := Int32.toInt_inj.mp (c114.trans (by decide))
                      refine j_aload_n (pc := 117) hX dX6_lookAt_117 0 rfl ?_
                      refine j_iload_n (pc := 118) hX dX6_lookAt_118 3 rfl ?_
                      refine j_iload_n (pc := 119) hX dX6_lookAt_119 2 rfl ?_
                      refine j_callV (pc := 120) hX kX6_gather kVX6_gather l_RX6_66 (fun l => c_X6_gather G th nM4 nS W H tht thp nP4 ths tho thm La4 E4 st4 No Mo xx yy f (by omega) (by omega) (by omega) (by omega) (by omega) (by omega) (hP4) (hnP4) (fun c_ h1 h2 => (hm4 c_ h1.1 h1.2).1 h2) (c114) (hdo4) l) [0, 1, 2, 3, 4, 5] [6, 7] [] rfl 0 6 rfl rfl rfl rfl rfl rfl ⟨rfl, rfl, by decide⟩ rfl rfl (Nat.le_of_ble_eq_true rfl) dX6_lookAt_120 (fun v w hq => ?_)
                      obtain ⟨La2_120, E2_120, nP2_120, rfl, rfl, h120_0, h120_1, h120_2⟩ := hq
                      refine j_ws [2, 3, 4, 5, 6, 7, 0, 1] (ws' := [(th, .inr (6, [.int (nI (nM4 + 1)), .int (nI nS), .int (nI W), .int (nI H), .ref tht, .ref thp, .int (nI nP2_120), .ref ths, .ref tho, .ref thm])), (tht, ia G 256 La2_120), (thp, ia G 256 (fun ι => nI (E2_120 ι))), (ths, ia G 65 (fun ι => nI (updN st4 (nM4 + 1) nP2_120 ι))), (tho, ia G 64 (fun ι => nI (No ι))), (thm, ia G 64 (fun ι => nI (Mo ι))), (g, .inr (1, [.int (nI W), .int (nI H), .int t, .ref b])), (b, ia G 16 f)]) rfl rfl ?_
                      refine j_iinc (pc := 123) (q := 3) (v := nI (xx + 1)) (lv' := [(3, .int (nI (xx + 1))), (0, .ref th), (1, .ref g), (2, .int (nI yy))]) hX dX6_lookAt_123 rfl (nI_inc _ 1) (by decide) rfl ?_
                      refine j_goto (pc := 126) (tgt := 99) hX dX6_lookAt_126 (by decide) ?_
                      refine j_ia (q0 := 3) (f := fun ι => nI (updN st4 (nM4 + 1) nP2_120 ι)) (g := fun ι => nI ((updN st4 (nM4 + 1) nP2_120) ι)) rfl (fun z hz => by rfl) (ws' := [(th, .inr (6, [.int (nI (nM4 + 1)), .int (nI nS), .int (nI W), .int (nI H), .ref tht, .ref thp, .int (nI nP2_120), .ref ths, .ref tho, .ref thm])), (tht, ia G 256 La2_120), (thp, ia G 256 (fun ι => nI (E2_120 ι))), (ths, ia G 65 (fun ι => nI ((updN st4 (nM4 + 1) nP2_120) ι))), (tho, ia G 64 (fun ι => nI (No ι))), (thm, ia G 64 (fun ι => nI (Mo ι))), (g, .inr (1, [.int (nI W), .int (nI H), .int t, .ref b])), (b, ia G 16 f)]) rfl ?_
                      refine j_lv [1, 2, 3, 0] (lv' := [(0, .ref th), (1, .ref g), (2, .int (nI yy)), (3, .int (nI (xx + 1)))]) rfl ?_
                      exact ih99 (xx + 1) (nM4 + 1) nP2_120 La2_120 E2_120 (updN st4 (nM4 + 1) nP2_120) (by omega) (by first | exact h120_0 | exact hP4) (by first | exact updN_eq.symm | exact hnP4) (by first | exact hm4 | exact fun c_ h1 h2 => ⟨fun e => (hm4 c_ h1 h2).1 (Classical.byContradiction fun z => z (by rw [← h120_2 c_ z]; exact e)), fun z => by have a := (hm4 c_ h1 h2).2 z; rw [h120_2 c_ (by rw [a]; decide)]; exact a⟩) (by first | exact (fun c_ o h => by rcases Nat.lt_or_ge c_ (16 * yy + xx) with q | q; (have := hdo4 c_ o q; rw [h120_2 c_ this]; exact this); (rw [show c_ = (16 * yy + xx) from by omega]; exact h120_1)) | exact (fun c_ o h => by rcases Nat.lt_or_ge c_ (16 * yy + xx) with q | q; exact hdo4 c_ o q; (rw [show c_ = (16 * yy + xx) from by omega]; exact fun z => c114 (by rw [z]; rfl)))) (by omega)
              refine j_lv [1, 2, 3, 0] (lv' := [(0, .ref th), (1, .ref g), (2, .int (nI yy)), (3, .int (nI 0))]) rfl ?_
              exact L99 ((W - 0) + 1) 0 nM3 nP3 La3 E3 st3 (by omega) (hP) (hnP) (hm) (hdo) (Nat.lt_succ_self _)
        refine j_lv [1, 2, 0] (lv' := [(0, .ref th), (1, .ref g), (2, .int (nI 0))]) rfl ?_
        exact L89 ((H - 0) + 1) 0 0 0 La3 E st_ (by omega) (ThP_0 _ _ _ _ _ _ _ hst0 (fun c_ o => (hA c_ o.1.1 (by have := o.1.2; omega)).1 o)) (hst0.symm) (fun c_ h1 h2 => ⟨fun e => Classical.byContradiction fun z => by rw [(hA c_ h1 (by omega)).2 z] at e; exact absurd e (by decide), (hA c_ h1 (by omega)).2⟩) (fun c_ _ h => absurd h (by omega)) (Nat.lt_succ_self _)
      · skip
        refine j_iconstN (pc := 36) (j := 0) hX dX6_lookAt_36 rfl ?_
        refine j_istore_n (pc := 37) (lv' := [(3, .int (nI 0)), (0, .ref th), (1, .ref g), (2, .int (nI yy))]) hX dX6_lookAt_37 (by decide) rfl ?_
        have L38 : ∀ (m38 : Nat) (xx : Nat) (La4 : Nat → Int32) (hxx : xx ≤ W) (hA4 : ∀ c_, c_ % 16 < W → c_ / 16 < yy → MkC W H f La4 c_) (hB4 : ∀ c_, c_ / 16 = yy → c_ % 16 < xx → MkC W H f La4 c_), W - xx < m38 → J X G 4 0 0 [(th, .inr (6, [.int (nI 0), .int (nI nS), .int (nI W), .int (nI H), .ref tht, .ref thp, .int (nI 0), .ref ths, .ref tho, .ref thm])), (tht, ia G 256 La4), (thp, ia G 256 (fun ι => nI (E ι))), (ths, ia G 65 (fun ι => nI (st_ ι))), (tho, ia G 64 (fun ι => nI (No ι))), (thm, ia G 64 (fun ι => nI (Mo ι))), (g, .inr (1, [.int (nI W), .int (nI H), .int t, .ref b])), (b, ia G 16 f)] [(0, .ref th), (1, .ref g), (2, .int (nI yy)), (3, .int (nI xx))] 38 [] := by
          intro m38
          induction m38 with
          | zero => intro xx La4 hxx hA4 hB4 hm38; exact absurd hm38 (Nat.not_lt_zero _)
          | succ m38 ih38 =>
            intro xx La4 hxx hA4 hB4 hm38
            refine j_iload_n (pc := 38) hX dX6_lookAt_38 3 rfl ?_
            refine j_aload_n (pc := 39) hX dX6_lookAt_39 0 rfl ?_
            refine j_get (pc := 40) hX f_RX6_18 0 rfl rfl dX6_lookAt_40 ?_
            refine j_icmp_ge (pc := 43) (tgt := 81) hX dX6_lookAt_43 (by decide) (nI_toInt (n := xx) (by omega)) (nI_toInt (n := W) (by omega)) (fun c43 => ?_) (fun c43 => ?_)
            · skip
              refine j_iinc (pc := 81) (q := 2) (v := nI (yy + 1)) (lv' := [(2, .int (nI (yy + 1))), (0, .ref th), (1, .ref g), (3, .int (nI xx))]) hX dX6_lookAt_81 rfl (nI_inc _ 1) (by decide) rfl ?_
              refine j_goto (pc := 84) (tgt := 28) hX dX6_lookAt_84 (by decide) ?_
              refine j_lv [1, 2, 0] (lv' := [(0, .ref th), (1, .ref g), (2, .int (nI (yy + 1)))]) rfl ?_
              exact ih28 (yy + 1) La4 (by omega) (fun c_ h1 h2 => by rcases Nat.lt_or_ge (c_ / 16) yy with q | q; exact hA4 c_ h1 q; exact hB4 c_ (by omega) (by omega)) (by omega)
            · skip
              refine j_aload_n (pc := 46) hX dX6_lookAt_46 0 rfl ?_
              refine j_get (pc := 47) hX f_RX6_24 0 rfl rfl dX6_lookAt_47 ?_
              refine j_bipush (pc := 50) (v := nI 16) hX dX6_lookAt_50 (by decide) ?_
              refine j_iload_n (pc := 52) hX dX6_lookAt_52 2 rfl ?_
              refine j_imul (pc := 53) hX dX6_lookAt_53 ?_
              refine j_topi (y := nI (16 * yy)) (pk_mul _ _) ?_
              refine j_iload_n (pc := 54) hX dX6_lookAt_54 3 rfl ?_
              refine j_iadd (pc := 55) hX dX6_lookAt_55 ?_
              refine j_topi (y := nI (16 * yy + xx)) (nI_add _ _) ?_
              refine j_aload_n (pc := 56) hX dX6_lookAt_56 1 rfl ?_
              refine j_iload_n (pc := 57) hX dX6_lookAt_57 3 rfl ?_
              refine j_iload_n (pc := 58) hX dX6_lookAt_58 2 rfl ?_
              refine j_callV (pc := 59) hX kX1_cellAt kVX1_cellAt l_RX6_55 (fun l => c_X1_cellAt G g W H t b f xx yy (by omega) (by omega) (by omega) (by omega) (by omega) (by omega) l) [6, 7] [0, 1, 2, 3, 4, 5] [.int (nI (16 * yy + xx)), .ref tht] rfl 0 1 rfl rfl rfl rfl rfl rfl ⟨rfl, rfl, by decide⟩ rfl rfl (Nat.le_of_ble_eq_true rfl) dX6_lookAt_59 (fun v w hq => ?_)
              obtain ⟨rfl, rfl⟩ := hq
              refine j_ws [0, 1, 2, 3, 4, 5, 6, 7] (ws' := [(th, .inr (6, [.int (nI 0), .int (nI nS), .int (nI W), .int (nI H), .ref tht, .ref thp, .int (nI 0), .ref ths, .ref tho, .ref thm])), (tht, ia G 256 La4), (thp, ia G 256 (fun ι => nI (E ι))), (ths, ia G 65 (fun ι => nI (st_ ι))), (tho, ia G 64 (fun ι => nI (No ι))), (thm, ia G 64 (fun ι => nI (Mo ι))), (g, .inr (1, [.int (nI W), .int (nI H), .int t, .ref b])), (b, ia G 16 f)]) rfl rfl ?_
              refine j_iconstN (pc := 62) (j := 1) hX dX6_lookAt_62 rfl ?_
              refine j_icmp_ne (pc := 63) (tgt := 70) hX dX6_lookAt_63 (by decide) (bI_toInt (bt (f yy) xx)) (nI_toInt (n := 1) (by decide)) (fun c63 => ?_) (fun c63 => ?_)
              · skip
                have c63 := bne1 c63
                refine j_bipush (pc := 70) (v := (-5)) hX dX6_lookAt_70 (by decide) ?_
                refine j_callSN (pc := 72) hX kX8_put kSX8_put l_RX6_59 (fun l => c_X8_put G tht 256 La4 (16 * yy + xx) (-5) (by omega) (by omega) l) [1] [0, 2, 3, 4, 5, 6, 7] [] rfl rfl rfl rfl ⟨rfl, rfl, by decide⟩ rfl rfl (Nat.le_of_ble_eq_true rfl) dX6_lookAt_72 (fun v w hq => ?_)
                obtain ⟨rfl, rfl⟩ := hq
                refine j_ws [0, 7, 1, 2, 3, 4, 5, 6] (ws' := [(th, .inr (6, [.int (nI 0), .int (nI nS), .int (nI W), .int (nI H), .ref tht, .ref thp, .int (nI 0), .ref ths, .ref tho, .ref thm])), (tht, ia G 256 (upd La4 (16 * yy + xx) (-5))), (thp, ia G 256 (fun ι => nI (E ι))), (ths, ia G 65 (fun ι => nI (st_ ι))), (tho, ia G 64 (fun ι => nI (No ι))), (thm, ia G 64 (fun ι => nI (Mo ι))), (g, .inr (1, [.int (nI W), .int (nI H), .int t, .ref b])), (b, ia G 16 f)]) rfl rfl ?_
                refine j_iinc (pc := 75) (q := 3) (v := nI (xx + 1)) (lv' := [(3, .int (nI (xx + 1))), (0, .ref th), (1, .ref g), (2, .int (nI yy))]) hX dX6_lookAt_75 rfl (nI_inc _ 1) (by decide) rfl ?_
                refine j_goto (pc := 78) (tgt := 38) hX dX6_lookAt_78 (by decide) ?_
                refine j_lv [1, 2, 3, 0] (lv' := [(0, .ref th), (1, .ref g), (2, .int (nI yy)), (3, .int (nI (xx + 1)))]) rfl ?_
                exact ih38 (xx + 1) (upd La4 (16 * yy + xx) (-5)) (by omega) (fun c_ h1 h2 => by unfold MkC upd; rw [if_neg (by omega)]; exact hA4 c_ h1 h2) (fun c_ h1 h2 => by unfold MkC upd; by_cases q : c_ = (16 * yy + xx); (rw [if_pos q, q]; first | exact ⟨fun _ => rfl, fun z => absurd ((onC_xy (by omega) (by omega) hW2).mpr c63) z⟩ | exact ⟨fun z => absurd ((onC_xy (by omega) (by omega) hW2).mp z) (by rw [c63]; exact Bool.false_ne_true), fun _ => rfl⟩); (rw [if_neg q]; exact hB4 c_ h1 (by omega))) (by omega)
              · skip
                have c63 := beq1 c63
                refine j_iconst (pc := 66) (v := (-1)) hX dX6_lookAt_66 (by decide) ?_
                refine j_goto (pc := 67) (tgt := 72) hX dX6_lookAt_67 (by decide) ?_
                refine j_callSN (pc := 72) hX kX8_put kSX8_put l_RX6_59 (fun l => c_X8_put G tht 256 La4 (16 * yy + xx) (-1) (by omega) (by omega) l) [1] [0, 2, 3, 4, 5, 6, 7] [] rfl rfl rfl rfl ⟨rfl, rfl, by decide⟩ rfl rfl (Nat.le_of_ble_eq_true rfl) dX6_lookAt_72 (fun v w hq => ?_)
                obtain ⟨rfl, rfl⟩ := hq
                refine j_ws [0, 7, 1, 2, 3, 4, 5, 6] (ws' := [(th, .inr (6, [.int (nI 0), .int (nI nS), .int (nI W), .int (nI H), .ref tht, .ref thp, .int (nI 0), .ref ths, .ref tho, .ref thm])), (tht, ia G 256 (upd La4 (16 * yy + xx) (-1))), (thp, ia G 256 (fun ι => nI (E ι))), (ths, ia G 65 (fun ι => nI (st_ ι))), (tho, ia G 64 (fun ι => nI (No ι))), (thm, ia G 64 (fun ι => nI (Mo ι))), (g, .inr (1, [.int (nI W), .int (nI H), .int t, .ref b])), (b, ia G 16 f)]) rfl rfl ?_
                refine j_iinc (pc := 75) (q := 3) (v := nI (xx + 1)) (lv' := [(3, .int (nI (xx + 1))), (0, .ref th), (1, .ref g), (2, .int (nI yy))]) hX dX6_lookAt_75 rfl (nI_inc _ 1) (by decide) rfl ?_
                refine j_goto (pc := 78) (tgt := 38) hX dX6_lookAt_78 (by decide) ?_
                refine j_lv [1, 2, 3, 0] (lv' := [(0, .ref th), (1, .ref g), (2, .int (nI yy)), (3, .int (nI (xx + 1)))]) rfl ?_
                exact ih38 (xx + 1) (upd La4 (16 * yy + xx) (-1)) (by omega) (fun c_ h1 h2 => by unfold MkC upd; rw [if_neg (by omega)]; exact hA4 c_ h1 h2) (fun c_ h1 h2 => by unfold MkC upd; by_cases q : c_ = (16 * yy + xx); (rw [if_pos q, q]; first | exact ⟨fun _ => rfl, fun z => absurd ((onC_xy (by omega) (by omega) hW2).mpr c63) z⟩ | exact ⟨fun z => absurd ((onC_xy (by omega) (by omega) hW2).mp z) (by rw [c63]; exact Bool.false_ne_true), fun _ => rfl⟩); (rw [if_neg q]; exact hB4 c_ h1 (by omega))) (by omega)
        refine j_lv [1, 2, 3, 0] (lv' := [(0, .ref th), (1, .ref g), (2, .int (nI yy)), (3, .int (nI 0))]) rfl ?_
        exact L38 ((W - 0) + 1) 0 La3 (by omega) (hA) (fun c_ _ h => absurd h (Nat.not_lt_zero _)) (Nat.lt_succ_self _)
  refine j_lv [1, 2, 0] (lv' := [(0, .ref th), (1, .ref g), (2, .int (nI 0))]) rfl ?_
  exact L28 ((H - 0) + 1) 0 La (by omega) (fun c_ _ h => absurd h (Nat.not_lt_zero _)) (Nat.lt_succ_self _)
