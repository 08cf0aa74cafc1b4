set_option maxHeartbeats 4000000 in
set_option maxRecDepth 100000 in
theorem c_X6_gather (G : GT) (th : Nat) (nM : Nat) (nS : Nat) (W : Nat) (H : Nat) (tht : Nat) (thp : Nat) (nP : Nat) (ths : Nat) (tho : Nat) (thm : Nat) (La : Nat → Int32) (E : Nat → Nat) (st_ : Nat → Nat) (No : Nat → Nat) (Mo : Nat → Nat) (xx yy : Nat) (f : Nat → Int32) (hW1 : 2 ≤ W) (hW2 : W ≤ 16) (hH1 : 2 ≤ H) (hH2 : H ≤ 16) (hx : xx < W) (hy : yy < H) (hP : ThP (-1) W H f nM La E st_) (hnP : nP = st_ nM) (hon : ∀ c_, (c_ % 16 < W ∧ c_ / 16 < H) → La c_ = -1 → onC W H f c_) (h0 : La (16 * yy + xx) = -1) (hb : ∀ c_, onC W H f c_ → c_ < (16 * yy + xx) → La c_ ≠ -1) (l : Launch) : CT l G yX6_gather cX6_gather 5 none { frames := 3, cells := 0, slots := 0, locals := 69 } [.ref th, .int (nI xx), .int (nI yy)] [(th, .inr (6, [.int (nI nM), .int (nI nS), .int (nI W), .int (nI H), .ref tht, .ref thp, .int (nI nP), .ref ths, .ref tho, .ref thm])), (tht, ia G 256 La), (thp, ia G 256 (fun ι => nI (E ι))), (ths, ia G 65 (fun ι => nI (st_ ι))), (tho, ia G 64 (fun ι => nI (No ι))), (thm, ia G 64 (fun ι => nI (Mo ι)))] (fun vv ww => ∃ (La2 : Nat → Int32) (E2 : Nat → Nat) (nP2 : Nat), vv = none ∧ ww = [(th, .inr (6, [.int (nI (nM + 1)), .int (nI nS), .int (nI W), .int (nI H), .ref tht, .ref thp, .int (nI nP2), .ref ths, .ref tho, .ref thm])), (tht, ia G 256 La2), (thp, ia G 256 (fun ι => nI (E2 ι))), (ths, ia G 65 (fun ι => nI (updN st_ (nM + 1) nP2 ι))), (tho, ia G 64 (fun ι => nI (No ι))), (thm, ia G 64 (fun ι => nI (Mo ι)))] ∧ (ThP (-1) W H f (nM + 1) La2 E2 (updN st_ (nM + 1) nP2)) ∧ (La2 (16 * yy + xx) ≠ -1) ∧ (∀ c_, La c_ ≠ -1 → La2 c_ = La c_)) := by
  refine CT.of (lv := [(0, .ref th), (1, .int (nI xx)), (2, .int (nI yy))]) RX6 "gather" rfl rfl (by decide +kernel) (Nat.le_of_ble_eq_true rfl) rfl (fun X hX hR => ?_)
  have hM := ThP_64 hW2 hH2 hP
  have h0 := h0
  have ho := hon (16 * yy + xx) (by omega) h0
  have hls : Ls (-1) La E nP := by rw [hnP]; exact hP.1
  have hfr := Ls_free hls h0 (by omega)
  refine j_aload_n (pc := 0) hX dX6_gather_0 0 rfl ?_
  refine j_get (pc := 1) hX f_RX6_31 0 rfl rfl dX6_gather_1 ?_
  refine j_istore_n (pc := 4) (lv' := [(3, .int (nI nP)), (0, .ref th), (1, .int (nI xx)), (2, .int (nI yy))]) hX dX6_gather_4 (by decide) rfl ?_
  refine j_aload_n (pc := 5) hX dX6_gather_5 1 rfl ?_
  refine j_iload_n (pc := 6) hX dX6_gather_6 2 rfl ?_
  refine j_iload_n (pc := 7) hX dX6_gather_7 3 rfl ?_
  refine j_callV (pc := 8) hX kX6_join kVX6_join l_RX6_73 (fun l => c_X6_join G th nM nS W H tht thp nP ths tho thm La E st_ No Mo xx yy (by omega) (by omega) (by omega) l) [0, 1, 2, 3, 4, 5] [] [] rfl 0 6 rfl rfl rfl rfl rfl rfl ⟨rfl, rfl, by decide⟩ rfl rfl (Nat.le_of_ble_eq_true rfl) dX6_gather_8 (fun v w hq => ?_)
  obtain ⟨rfl, rfl⟩ := hq
  refine j_ws [0, 1, 2, 3, 4, 5] (ws' := [(th, .inr (6, [.int (nI nM), .int (nI nS), .int (nI W), .int (nI H), .ref tht, .ref thp, .int (nI (nP + 1)), .ref ths, .ref tho, .ref thm])), (tht, ia G 256 (upd La (16 * yy + xx) (nI nM))), (thp, ia G 256 (fun ι => nI (updN E nP (16 * yy + xx) ι))), (ths, ia G 65 (fun ι => nI (st_ ι))), (tho, ia G 64 (fun ι => nI (No ι))), (thm, ia G 64 (fun ι => nI (Mo ι)))]) rfl rfl ?_
  refine j_iload_n (pc := 11) hX dX6_gather_11 0 rfl ?_
  refine j_istore (pc := 12) (lv' := [(4, .int (nI nP)), (3, .int (nI nP)), (0, .ref th), (1, .int (nI xx)), (2, .int (nI yy))]) hX dX6_gather_12 (by decide) rfl ?_
  have L14 : ∀ (m14 : Nat) (i : Nat) (La3 : Nat → Int32) (E3 : Nat → Nat) (n3 : Nat) (hi : nP ≤ i ∧ i ≤ n3 ∧ nP < n3) (hJ : Jn (-1) nM (fun c_ => onC W H f c_ ∧ rch W H f (16 * yy + xx) c_) La E nP La3 E3 n3) (he : E3 nP = (16 * yy + xx)) (hd : Dn (-1) W H La3 E3 nP i), 256 - i < m14 → J X G 5 0 0 [(th, .inr (6, [.int (nI nM), .int (nI nS), .int (nI W), .int (nI H), .ref tht, .ref thp, .int (nI n3), .ref ths, .ref tho, .ref thm])), (tht, ia G 256 La3), (thp, ia G 256 (fun ι => nI (E3 ι))), (ths, ia G 65 (fun ι => nI (st_ ι))), (tho, ia G 64 (fun ι => nI (No ι))), (thm, ia G 64 (fun ι => nI (Mo ι)))] [(0, .ref th), (1, .int (nI xx)), (2, .int (nI yy)), (3, .int (nI nP)), (4, .int (nI i))] 14 [] := by
    intro m14
    induction m14 with
    | zero => intro i La3 E3 n3 hi hJ he hd hm14; exact absurd hm14 (Nat.not_lt_zero _)
    | succ m14 ih14 =>
      intro i La3 E3 n3 hi hJ he hd hm14
      have hle := Ls_le (Ls_J (nIm1 (by omega)) (fun c_ q => onC_lt hH2 q.1) hls hJ)
      refine j_iload (pc := 14) hX dX6_gather_14 4 rfl ?_
      refine j_aload_n (pc := 16) hX dX6_gather_16 0 rfl ?_
      refine j_get (pc := 17) hX f_RX6_31 0 rfl rfl dX6_gather_17 ?_
      refine j_icmp_ge (pc := 20) (tgt := 50) hX dX6_gather_20 (by decide) (nI_toInt (n := i) (by omega)) (nI_toInt (n := n3) (by omega)) (fun c20 => ?_) (fun c20 => ?_)
      · skip
        have hin : i = n3 := by omega
        have hS := ThP_s ⟨hW1, hW2⟩ ⟨hH1, hH2⟩ (nIm1 (by omega)) hP ho h0 hb (by rw [← hnP]; exact hJ) (by rw [← hnP]; exact he) (by omega) (fun j h1 h2 d hd9 _ => hd j (by omega) (by omega) d hd9)
        have h64 := ThP_64 hW2 hH2 hS
        refine j_aload_n (pc := 50) hX dX6_gather_50 0 rfl ?_
        refine j_dup (pc := 51) hX dX6_gather_51 rfl ?_
        refine j_get (pc := 52) hX f_RX6_9 0 rfl rfl dX6_gather_52 ?_
        refine j_iconstN (pc := 55) (j := 1) hX dX6_gather_55 rfl ?_
        refine j_iadd (pc := 56) hX dX6_gather_56 ?_
        refine j_topi (y := nI (nM + 1)) (nI_add _ _) ?_
        refine j_put (pc := 57) (ws' := [(th, .inr (6, [.int (nI (nM + 1)), .int (nI nS), .int (nI W), .int (nI H), .ref tht, .ref thp, .int (nI n3), .ref ths, .ref tho, .ref thm])), (tht, ia G 256 La3), (thp, ia G 256 (fun ι => nI (E3 ι))), (ths, ia G 65 (fun ι => nI (st_ ι))), (tho, ia G 64 (fun ι => nI (No ι))), (thm, ia G 64 (fun ι => nI (Mo ι)))]) hX f_RX6_9 0 rfl rfl rfl (Nat.le_of_ble_eq_true rfl) rfl dX6_gather_57 ?_
        refine j_aload_n (pc := 60) hX dX6_gather_60 0 rfl ?_
        refine j_get (pc := 61) hX f_RX6_34 0 rfl rfl dX6_gather_61 ?_
        refine j_aload_n (pc := 64) hX dX6_gather_64 0 rfl ?_
        refine j_get (pc := 65) hX f_RX6_9 0 rfl rfl dX6_gather_65 ?_
        refine j_aload_n (pc := 68) hX dX6_gather_68 0 rfl ?_
        refine j_get (pc := 69) hX f_RX6_31 0 rfl rfl dX6_gather_69 ?_
        refine j_callSN (pc := 72) hX kX8_put kSX8_put l_RX6_59 (fun l => c_X8_put G ths 65 (fun ι => nI (st_ ι)) (nM + 1) (nI n3) (by omega) (by omega) l) [3] [0, 1, 2, 4, 5] [] rfl rfl rfl rfl ⟨rfl, rfl, by decide⟩ rfl rfl (Nat.le_of_ble_eq_true rfl) dX6_gather_72 (fun v w hq => ?_)
        obtain ⟨rfl, rfl⟩ := hq
        refine j_ws [0, 1, 2, 5, 3, 4] (ws' := [(th, .inr (6, [.int (nI (nM + 1)), .int (nI nS), .int (nI W), .int (nI H), .ref tht, .ref thp, .int (nI n3), .ref ths, .ref tho, .ref thm])), (tht, ia G 256 La3), (thp, ia G 256 (fun ι => nI (E3 ι))), (ths, ia G 65 (upd (fun ι => nI (st_ ι)) (nM + 1) (nI n3))), (tho, ia G 64 (fun ι => nI (No ι))), (thm, ia G 64 (fun ι => nI (Mo ι)))]) rfl rfl ?_
        refine j_ia (q0 := 3) (f := upd (fun ι => nI (st_ ι)) (nM + 1) (nI n3)) (g := fun ι => nI (updN st_ (nM + 1) n3 ι)) rfl (fun z hz => by exact updNI) (ws' := [(th, .inr (6, [.int (nI (nM + 1)), .int (nI nS), .int (nI W), .int (nI H), .ref tht, .ref thp, .int (nI n3), .ref ths, .ref tho, .ref thm])), (tht, ia G 256 La3), (thp, ia G 256 (fun ι => nI (E3 ι))), (ths, ia G 65 (fun ι => nI (updN st_ (nM + 1) n3 ι))), (tho, ia G 64 (fun ι => nI (No ι))), (thm, ia G 64 (fun ι => nI (Mo ι)))]) rfl ?_
        exact j_vret (pc := 75) hX hR dX6_gather_75 ⟨La3, E3, n3, rfl, rfl, (hS), (fun z => nIm1 (M := nM) (by omega) (by rw [← (hJ.2.2.2.2.1 nP (Nat.le_refl _) (by omega)).2.2, he, z])), (hJ.2.2.1)⟩
      · skip
        refine j_iload (pc := 23) hX dX6_gather_23 4 rfl ?_
        refine j_aload_n (pc := 25) hX dX6_gather_25 0 rfl ?_
        refine j_get (pc := 26) hX f_RX6_28 0 rfl rfl dX6_gather_26 ?_
        refine j_len_i (pc := 29) hX 2 rfl dX6_gather_29 ?_
        refine j_icmp_ge (pc := 30) (tgt := 50) hX dX6_gather_30 (by decide) (nI_toInt (n := i) (by omega)) (nI_toInt (n := 256) (by decide)) (fun c30 => ?_) (fun c30 => ?_)
        · skip
          have hin : i = n3 := by omega
          have hS := ThP_s ⟨hW1, hW2⟩ ⟨hH1, hH2⟩ (nIm1 (by omega)) hP ho h0 hb (by rw [← hnP]; exact hJ) (by rw [← hnP]; exact he) (by omega) (fun j h1 h2 d hd9 _ => hd j (by omega) (by omega) d hd9)
          have h64 := ThP_64 hW2 hH2 hS
          refine j_aload_n (pc := 50) hX dX6_gather_50 0 rfl ?_
          refine j_dup (pc := 51) hX dX6_gather_51 rfl ?_
          refine j_get (pc := 52) hX f_RX6_9 0 rfl rfl dX6_gather_52 ?_
          refine j_iconstN (pc := 55) (j := 1) hX dX6_gather_55 rfl ?_
          refine j_iadd (pc := 56) hX dX6_gather_56 ?_
          refine j_topi (y := nI (nM + 1)) (nI_add _ _) ?_
          refine j_put (pc := 57) (ws' := [(th, .inr (6, [.int (nI (nM + 1)), .int (nI nS), .int (nI W), .int (nI H), .ref tht, .ref thp, .int (nI n3), .ref ths, .ref tho, .ref thm])), (tht, ia G 256 La3), (thp, ia G 256 (fun ι => nI (E3 ι))), (ths, ia G 65 (fun ι => nI (st_ ι))), (tho, ia G 64 (fun ι => nI (No ι))), (thm, ia G 64 (fun ι => nI (Mo ι)))]) hX f_RX6_9 0 rfl rfl rfl (Nat.le_of_ble_eq_true rfl) rfl dX6_gather_57 ?_
          refine j_aload_n (pc := 60) hX dX6_gather_60 0 rfl ?_
          refine j_get (pc := 61) hX f_RX6_34 0 rfl rfl dX6_gather_61 ?_
          refine j_aload_n (pc := 64) hX dX6_gather_64 0 rfl ?_
          refine j_get (pc := 65) hX f_RX6_9 0 rfl rfl dX6_gather_65 ?_
          refine j_aload_n (pc := 68) hX dX6_gather_68 0 rfl ?_
          refine j_get (pc := 69) hX f_RX6_31 0 rfl rfl dX6_gather_69 ?_
          refine j_callSN (pc := 72) hX kX8_put kSX8_put l_RX6_59 (fun l => c_X8_put G ths 65 (fun ι => nI (st_ ι)) (nM + 1) (nI n3) (by omega) (by omega) l) [3] [0, 1, 2, 4, 5] [] rfl rfl rfl rfl ⟨rfl, rfl, by decide⟩ rfl rfl (Nat.le_of_ble_eq_true rfl) dX6_gather_72 (fun v w hq => ?_)
          obtain ⟨rfl, rfl⟩ := hq
          refine j_ws [0, 1, 2, 5, 3, 4] (ws' := [(th, .inr (6, [.int (nI (nM + 1)), .int (nI nS), .int (nI W), .int (nI H), .ref tht, .ref thp, .int (nI n3), .ref ths, .ref tho, .ref thm])), (tht, ia G 256 La3), (thp, ia G 256 (fun ι => nI (E3 ι))), (ths, ia G 65 (upd (fun ι => nI (st_ ι)) (nM + 1) (nI n3))), (tho, ia G 64 (fun ι => nI (No ι))), (thm, ia G 64 (fun ι => nI (Mo ι)))]) rfl rfl ?_
          refine j_ia (q0 := 3) (f := upd (fun ι => nI (st_ ι)) (nM + 1) (nI n3)) (g := fun ι => nI (updN st_ (nM + 1) n3 ι)) rfl (fun z hz => by exact updNI) (ws' := [(th, .inr (6, [.int (nI (nM + 1)), .int (nI nS), .int (nI W), .int (nI H), .ref tht, .ref thp, .int (nI n3), .ref ths, .ref tho, .ref thm])), (tht, ia G 256 La3), (thp, ia G 256 (fun ι => nI (E3 ι))), (ths, ia G 65 (fun ι => nI (updN st_ (nM + 1) n3 ι))), (tho, ia G 64 (fun ι => nI (No ι))), (thm, ia G 64 (fun ι => nI (Mo ι)))]) rfl ?_
          exact j_vret (pc := 75) hX hR dX6_gather_75 ⟨La3, E3, n3, rfl, rfl, (hS), (fun z => nIm1 (M := nM) (by omega) (by rw [← (hJ.2.2.2.2.1 nP (Nat.le_refl _) (by omega)).2.2, he, z])), (hJ.2.2.1)⟩
        · skip
          have oi := (hJ.2.2.2.2.1 i hi.1 (by omega)).1
          have hls3 := Ls_J (nIm1 (by omega)) (fun c_ q => onC_lt hH2 q.1) hls hJ
          refine j_aload_n (pc := 33) hX dX6_gather_33 0 rfl ?_
          refine j_aload_n (pc := 34) hX dX6_gather_34 0 rfl ?_
          refine j_get (pc := 35) hX f_RX6_28 0 rfl rfl dX6_gather_35 ?_
          refine j_iload (pc := 38) hX dX6_gather_38 4 rfl ?_
          refine j_ialdN (pc := 40) (j := i) hX 2 rfl (by omega) (by omega) dX6_gather_40 ?_
          refine j_callV (pc := 41) hX kX6_joinNeighbours kVX6_joinNeighbours l_RX6_76 (fun l => c_X6_joinNeighbours G th nM nS W H tht thp n3 ths tho thm La3 E3 st_ No Mo (E3 i) (by omega) (by omega) (by omega) (by omega) (by omega) (hls3) (oi.1.1.1) (oi.1.1.2) l) [0, 1, 2, 3, 4, 5] [] [] rfl 0 6 rfl rfl rfl rfl rfl rfl ⟨rfl, rfl, by decide⟩ rfl rfl (Nat.le_of_ble_eq_true rfl) dX6_gather_41 (fun v w hq => ?_)
          obtain ⟨La2_41, E2_41, nP2_41, rfl, rfl, h41_0, h41_1⟩ := hq
          refine j_ws [0, 1, 2, 3, 4, 5] (ws' := [(th, .inr (6, [.int (nI nM), .int (nI nS), .int (nI W), .int (nI H), .ref tht, .ref thp, .int (nI nP2_41), .ref ths, .ref tho, .ref thm])), (tht, ia G 256 La2_41), (thp, ia G 256 (fun ι => nI (E2_41 ι))), (ths, ia G 65 (fun ι => nI (st_ ι))), (tho, ia G 64 (fun ι => nI (No ι))), (thm, ia G 64 (fun ι => nI (Mo ι)))]) rfl rfl ?_
          have hJ5 : Jn (-1) nM (fun c_ => onC W H f c_ ∧ rch W H f (16 * yy + xx) c_) La3 E3 n3 La2_41 E2_41 nP2_41 := Jn_w (fun c_ q z => by obtain ⟨d, hd9, rfl⟩ := q; have g := hon _ (nb_in ⟨hW1, hW2⟩ ⟨hH1, hH2⟩ oi.1.1 hd9) (Jn_un hJ z); exact ⟨g, rch_s oi.2 hd9 g⟩) h41_0
          refine j_iinc (pc := 44) (q := 4) (v := nI (i + 1)) (lv' := [(4, .int (nI (i + 1))), (0, .ref th), (1, .int (nI xx)), (2, .int (nI yy)), (3, .int (nI nP))]) hX dX6_gather_44 rfl (nI_inc _ 1) (by decide) rfl ?_
          refine j_goto (pc := 47) (tgt := 14) hX dX6_gather_47 (by decide) ?_
          refine j_lv [1, 2, 3, 4, 0] (lv' := [(0, .ref th), (1, .int (nI xx)), (2, .int (nI yy)), (3, .int (nI nP)), (4, .int (nI (i + 1)))]) rfl ?_
          exact ih14 (i + 1) La2_41 E2_41 nP2_41 (by have := h41_0.1; omega) (Jn_t (nIm1 (by omega)) hJ hJ5) ((h41_0.2.1 nP (by omega)).trans he) (Dn_s h41_0 (by omega) hd h41_1) (by omega)
  refine j_ia (q0 := 2) (f := fun ι => nI (updN E nP (16 * yy + xx) ι)) (g := fun ι => nI ((updN E nP (16 * yy + xx)) ι)) rfl (fun z hz => by rfl) (ws' := [(th, .inr (6, [.int (nI nM), .int (nI nS), .int (nI W), .int (nI H), .ref tht, .ref thp, .int (nI (nP + 1)), .ref ths, .ref tho, .ref thm])), (tht, ia G 256 (upd La (16 * yy + xx) (nI nM))), (thp, ia G 256 (fun ι => nI ((updN E nP (16 * yy + xx)) ι))), (ths, ia G 65 (fun ι => nI (st_ ι))), (tho, ia G 64 (fun ι => nI (No ι))), (thm, ia G 64 (fun ι => nI (Mo ι)))]) rfl ?_
  refine j_lv [2, 3, 4, 1, 0] (lv' := [(0, .ref th), (1, .int (nI xx)), (2, .int (nI yy)), (3, .int (nI nP)), (4, .int (nI nP))]) rfl ?_
  exact L14 ((256 - nP) + 1) nP (upd La (16 * yy + xx) (nI nM)) (updN E nP (16 * yy + xx)) (nP + 1) (by omega) (Jn_1 ⟨ho, rch_r _⟩ h0) (updN_eq) (fun j h1 h2 => absurd h2 (by omega)) (Nat.lt_succ_self _)
