set_option maxHeartbeats 4000000 in
set_option maxRecDepth 100000 in
theorem c_X7_copyOf (G : GT) (nw : Nat) (g : Nat) (ru : Nat) (se : Nat) (ev : Nat) (W : Nat) (H : Nat) (t : Int32) (b : Nat) (f : Nat → Int32) (rn : Nat) (rf : Nat) (p : Nat → Nat) (q : Nat → Nat) (m : Nat) (sn : Nat) (s0 : Nat → Int32) (s1 : Nat → Nat) (s2 : Nat → Int32) (k : Nat) (en : Nat) (e0 : Nat → Nat) (e1 : Nat → Nat) (nwT : Nat) (gT : Nat) (ruT : Nat) (seT : Nat) (evT : Nat) (WT : Nat) (HT : Nat) (tT : Int32) (bT : Nat) (fT : Nat → Int32) (rnT : Nat) (rfT : Nat) (pT : Nat → Nat) (qT : Nat → Nat) (mT : Nat) (snT : Nat) (s0T : Nat → Int32) (s1T : Nat → Nat) (s2T : Nat → Int32) (kT : Nat) (enT : Nat) (e0T : Nat → Nat) (e1T : Nat → Nat)  (l : Launch) : CT l G yX7_copyOf cX7_copyOf 2 none { frames := 2, cells := 0, slots := 0, locals := 43 } [.ref nw, .ref nwT] [(nw, .inr (7, [.ref g, .ref ru, .ref se, .ref ev])), (g, .inr (1, [.int (nI W), .int (nI H), .int t, .ref b])), (b, ia G 16 f), (ru, .inr (3, [.ref rn, .ref rf])), (rn, ia G 16 (fun ι => nI (p ι))), (rf, ia G 16 (fun ι => nI (q ι))), (se, .inr (4, [.int (nI m), .ref sn])), (sn, ia G (3 * 5) (tab s0 (fun ι => nI (s1 ι)) s2)), (ev, .inr (4, [.int (nI k), .ref en])), (en, ia G (3 * 8) (tab (fun ι => nI (e0 ι)) (fun ι => nI (e1 ι)) (fun _ => 0))), (nwT, .inr (7, [.ref gT, .ref ruT, .ref seT, .ref evT])), (gT, .inr (1, [.int (nI WT), .int (nI HT), .int tT, .ref bT])), (bT, ia G 16 fT), (ruT, .inr (3, [.ref rnT, .ref rfT])), (rnT, ia G 16 (fun ι => nI (pT ι))), (rfT, ia G 16 (fun ι => nI (qT ι))), (seT, .inr (4, [.int (nI mT), .ref snT])), (snT, ia G (3 * 5) (tab s0T (fun ι => nI (s1T ι)) s2T)), (evT, .inr (4, [.int (nI kT), .ref enT])), (enT, ia G (3 * 8) (tab (fun ι => nI (e0T ι)) (fun ι => nI (e1T ι)) (fun _ => 0)))] (fun vv ww => vv = none ∧ ww = [(nw, .inr (7, [.ref g, .ref ru, .ref se, .ref ev])), (g, .inr (1, [.int (nI WT), .int (nI HT), .int tT, .ref b])), (b, ia G 16 fT), (ru, .inr (3, [.ref rn, .ref rf])), (rn, ia G 16 (fun ι => nI (pT ι))), (rf, ia G 16 (fun ι => nI (qT ι))), (se, .inr (4, [.int (nI mT), .ref sn])), (sn, ia G (3 * 5) (tab s0T (fun ι => nI (s1T ι)) s2T)), (ev, .inr (4, [.int (nI kT), .ref en])), (en, ia G (3 * 8) (tab (fun ι => nI (e0T ι)) (fun ι => nI (e1T ι)) (fun _ => 0))), (nwT, .inr (7, [.ref gT, .ref ruT, .ref seT, .ref evT])), (gT, .inr (1, [.int (nI WT), .int (nI HT), .int tT, .ref bT])), (bT, ia G 16 fT), (ruT, .inr (3, [.ref rnT, .ref rfT])), (rnT, ia G 16 (fun ι => nI (pT ι))), (rfT, ia G 16 (fun ι => nI (qT ι))), (seT, .inr (4, [.int (nI mT), .ref snT])), (snT, ia G (3 * 5) (tab s0T (fun ι => nI (s1T ι)) s2T)), (evT, .inr (4, [.int (nI kT), .ref enT])), (enT, ia G (3 * 8) (tab (fun ι => nI (e0T ι)) (fun ι => nI (e1T ι)) (fun _ => 0)))]) := by
  refine CT.of (lv := [(0, .ref nw), (1, .ref nwT)]) RX7 "copyOf" rfl rfl (by decide +kernel) (Nat.le_of_ble_eq_true rfl) rfl (fun X hX hR => ?_)
  refine j_aload_n (pc := 0) hX dX7_copyOf_0 0 rfl ?_
  refine j_get (pc := 1) hX f_RX7_12 0 rfl rfl dX7_copyOf_1 ?_
  refine j_aload_n (pc := 4) hX dX7_copyOf_4 1 rfl ?_
  refine j_get (pc := 5) hX f_RX7_12 10 rfl rfl dX7_copyOf_5 ?_
  refine j_callV (pc := 8) hX kX1_copyOf kVX1_copyOf l_RX7_37 (fun l => c_X1_copyOf G g W H t b f gT WT HT tT bT fT  l) [1, 2, 11, 12] [0, 3, 4, 5, 6, 7, 8, 9, 10, 13, 14, 15, 16, 17, 18, 19] [] rfl 0 1 rfl rfl rfl rfl rfl rfl ⟨rfl, rfl, by decide⟩ rfl rfl (Nat.le_of_ble_eq_true rfl) dX7_copyOf_8 (fun v w hq => ?_)
  obtain ⟨rfl, rfl⟩ := hq
  refine j_ws [0, 16, 17, 1, 2, 3, 4, 5, 6, 7, 8, 18, 19, 9, 10, 11, 12, 13, 14, 15] (ws' := [(nw, .inr (7, [.ref g, .ref ru, .ref se, .ref ev])), (g, .inr (1, [.int (nI WT), .int (nI HT), .int tT, .ref b])), (b, ia G 16 fT), (ru, .inr (3, [.ref rn, .ref rf])), (rn, ia G 16 (fun ι => nI (p ι))), (rf, ia G 16 (fun ι => nI (q ι))), (se, .inr (4, [.int (nI m), .ref sn])), (sn, ia G (3 * 5) (tab s0 (fun ι => nI (s1 ι)) s2)), (ev, .inr (4, [.int (nI k), .ref en])), (en, ia G (3 * 8) (tab (fun ι => nI (e0 ι)) (fun ι => nI (e1 ι)) (fun _ => 0))), (nwT, .inr (7, [.ref gT, .ref ruT, .ref seT, .ref evT])), (gT, .inr (1, [.int (nI WT), .int (nI HT), .int tT, .ref bT])), (bT, ia G 16 fT), (ruT, .inr (3, [.ref rnT, .ref rfT])), (rnT, ia G 16 (fun ι => nI (pT ι))), (rfT, ia G 16 (fun ι => nI (qT ι))), (seT, .inr (4, [.int (nI mT), .ref snT])), (snT, ia G (3 * 5) (tab s0T (fun ι => nI (s1T ι)) s2T)), (evT, .inr (4, [.int (nI kT), .ref enT])), (enT, ia G (3 * 8) (tab (fun ι => nI (e0T ι)) (fun ι => nI (e1T ι)) (fun _ => 0)))]) rfl rfl ?_
  refine j_aload_n (pc := 11) hX dX7_copyOf_11 0 rfl ?_
  refine j_get (pc := 12) hX f_RX7_21 0 rfl rfl dX7_copyOf_12 ?_
  refine j_aload_n (pc := 15) hX dX7_copyOf_15 1 rfl ?_
  refine j_get (pc := 16) hX f_RX7_21 10 rfl rfl dX7_copyOf_16 ?_
  refine j_callV (pc := 19) hX kX3_copyOf kVX3_copyOf l_RX7_41 (fun l => c_X3_copyOf G ru rn rf p q ruT rnT rfT pT qT  l) [3, 4, 5, 13, 14, 15] [0, 1, 2, 6, 7, 8, 9, 10, 11, 12, 16, 17, 18, 19] [] rfl 0 3 rfl rfl rfl rfl rfl rfl ⟨rfl, rfl, by decide⟩ rfl rfl (Nat.le_of_ble_eq_true rfl) dX7_copyOf_19 (fun v w hq => ?_)
  obtain ⟨rfl, rfl⟩ := hq
  refine j_ws [0, 1, 2, 14, 15, 16, 3, 4, 5, 6, 7, 8, 9, 17, 18, 19, 10, 11, 12, 13] (ws' := [(nw, .inr (7, [.ref g, .ref ru, .ref se, .ref ev])), (g, .inr (1, [.int (nI WT), .int (nI HT), .int tT, .ref b])), (b, ia G 16 fT), (ru, .inr (3, [.ref rn, .ref rf])), (rn, ia G 16 (fun ι => nI (pT ι))), (rf, ia G 16 (fun ι => nI (qT ι))), (se, .inr (4, [.int (nI m), .ref sn])), (sn, ia G (3 * 5) (tab s0 (fun ι => nI (s1 ι)) s2)), (ev, .inr (4, [.int (nI k), .ref en])), (en, ia G (3 * 8) (tab (fun ι => nI (e0 ι)) (fun ι => nI (e1 ι)) (fun _ => 0))), (nwT, .inr (7, [.ref gT, .ref ruT, .ref seT, .ref evT])), (gT, .inr (1, [.int (nI WT), .int (nI HT), .int tT, .ref bT])), (bT, ia G 16 fT), (ruT, .inr (3, [.ref rnT, .ref rfT])), (rnT, ia G 16 (fun ι => nI (pT ι))), (rfT, ia G 16 (fun ι => nI (qT ι))), (seT, .inr (4, [.int (nI mT), .ref snT])), (snT, ia G (3 * 5) (tab s0T (fun ι => nI (s1T ι)) s2T)), (evT, .inr (4, [.int (nI kT), .ref enT])), (enT, ia G (3 * 8) (tab (fun ι => nI (e0T ι)) (fun ι => nI (e1T ι)) (fun _ => 0)))]) rfl rfl ?_
  refine j_aload_n (pc := 22) hX dX7_copyOf_22 0 rfl ?_
  refine j_get (pc := 23) hX f_RX7_30 0 rfl rfl dX7_copyOf_23 ?_
  refine j_aload_n (pc := 26) hX dX7_copyOf_26 1 rfl ?_
  refine j_get (pc := 27) hX f_RX7_30 10 rfl rfl dX7_copyOf_27 ?_
  refine j_callV (pc := 30) hX kX4_copyOf kVX4_copyOf l_RX7_44 (fun l => c_X4_copyOf G se sn 5 m s0 (fun ι => nI (s1 ι)) s2 seT snT mT s0T (fun ι => nI (s1T ι)) s2T (by omega) l) [6, 7, 16, 17] [0, 1, 2, 3, 4, 5, 8, 9, 10, 11, 12, 13, 14, 15, 18, 19] [] rfl 0 4 rfl rfl rfl rfl rfl rfl ⟨rfl, rfl, by decide⟩ rfl rfl (Nat.le_of_ble_eq_true rfl) dX7_copyOf_30 (fun v w hq => ?_)
  obtain ⟨rfl, rfl⟩ := hq
  refine j_ws [0, 1, 2, 3, 4, 5, 16, 17, 6, 7, 8, 9, 10, 11, 12, 13, 18, 19, 14, 15] (ws' := [(nw, .inr (7, [.ref g, .ref ru, .ref se, .ref ev])), (g, .inr (1, [.int (nI WT), .int (nI HT), .int tT, .ref b])), (b, ia G 16 fT), (ru, .inr (3, [.ref rn, .ref rf])), (rn, ia G 16 (fun ι => nI (pT ι))), (rf, ia G 16 (fun ι => nI (qT ι))), (se, .inr (4, [.int (nI mT), .ref sn])), (sn, ia G (3 * 5) (tab s0T (fun ι => nI (s1T ι)) s2T)), (ev, .inr (4, [.int (nI k), .ref en])), (en, ia G (3 * 8) (tab (fun ι => nI (e0 ι)) (fun ι => nI (e1 ι)) (fun _ => 0))), (nwT, .inr (7, [.ref gT, .ref ruT, .ref seT, .ref evT])), (gT, .inr (1, [.int (nI WT), .int (nI HT), .int tT, .ref bT])), (bT, ia G 16 fT), (ruT, .inr (3, [.ref rnT, .ref rfT])), (rnT, ia G 16 (fun ι => nI (pT ι))), (rfT, ia G 16 (fun ι => nI (qT ι))), (seT, .inr (4, [.int (nI mT), .ref snT])), (snT, ia G (3 * 5) (tab s0T (fun ι => nI (s1T ι)) s2T)), (evT, .inr (4, [.int (nI kT), .ref enT])), (enT, ia G (3 * 8) (tab (fun ι => nI (e0T ι)) (fun ι => nI (e1T ι)) (fun _ => 0)))]) rfl rfl ?_
  refine j_aload_n (pc := 33) hX dX7_copyOf_33 0 rfl ?_
  refine j_get (pc := 34) hX f_RX7_34 0 rfl rfl dX7_copyOf_34 ?_
  refine j_aload_n (pc := 37) hX dX7_copyOf_37 1 rfl ?_
  refine j_get (pc := 38) hX f_RX7_34 10 rfl rfl dX7_copyOf_38 ?_
  refine j_callV (pc := 41) hX kX4_copyOf kVX4_copyOf l_RX7_44 (fun l => c_X4_copyOf G ev en 8 k (fun ι => nI (e0 ι)) (fun ι => nI (e1 ι)) (fun _ => 0) evT enT kT (fun ι => nI (e0T ι)) (fun ι => nI (e1T ι)) (fun _ => 0) (by omega) l) [8, 9, 18, 19] [0, 1, 2, 3, 4, 5, 6, 7, 10, 11, 12, 13, 14, 15, 16, 17] [] rfl 0 4 rfl rfl rfl rfl rfl rfl ⟨rfl, rfl, by decide⟩ rfl rfl (Nat.le_of_ble_eq_true rfl) dX7_copyOf_41 (fun v w hq => ?_)
  obtain ⟨rfl, rfl⟩ := hq
  refine j_ws [0, 1, 2, 3, 4, 5, 6, 7, 16, 17, 8, 9, 10, 11, 12, 13, 14, 15, 18, 19] (ws' := [(nw, .inr (7, [.ref g, .ref ru, .ref se, .ref ev])), (g, .inr (1, [.int (nI WT), .int (nI HT), .int tT, .ref b])), (b, ia G 16 fT), (ru, .inr (3, [.ref rn, .ref rf])), (rn, ia G 16 (fun ι => nI (pT ι))), (rf, ia G 16 (fun ι => nI (qT ι))), (se, .inr (4, [.int (nI mT), .ref sn])), (sn, ia G (3 * 5) (tab s0T (fun ι => nI (s1T ι)) s2T)), (ev, .inr (4, [.int (nI kT), .ref en])), (en, ia G (3 * 8) (tab (fun ι => nI (e0T ι)) (fun ι => nI (e1T ι)) (fun _ => 0))), (nwT, .inr (7, [.ref gT, .ref ruT, .ref seT, .ref evT])), (gT, .inr (1, [.int (nI WT), .int (nI HT), .int tT, .ref bT])), (bT, ia G 16 fT), (ruT, .inr (3, [.ref rnT, .ref rfT])), (rnT, ia G 16 (fun ι => nI (pT ι))), (rfT, ia G 16 (fun ι => nI (qT ι))), (seT, .inr (4, [.int (nI mT), .ref snT])), (snT, ia G (3 * 5) (tab s0T (fun ι => nI (s1T ι)) s2T)), (evT, .inr (4, [.int (nI kT), .ref enT])), (enT, ia G (3 * 8) (tab (fun ι => nI (e0T ι)) (fun ι => nI (e1T ι)) (fun _ => 0)))]) rfl rfl ?_
  exact j_vret (pc := 44) hX hR dX7_copyOf_44 ⟨rfl, rfl⟩
set_option maxHeartbeats 4000000 in
set_option maxRecDepth 100000 in
theorem c_X0_cellThen (G : GT) (ah : Nat) (ms : Int32) (mc : Int32) (mr : Int32) (ag : Nat) (ar : Nat) (ur : Nat) (un : Int32) (aW : Nat) (aH : Nat) (at_ : Int32) (ab : Nat) (af : Nat → Int32) (g : Nat) (W : Nat) (H : Nat) (t : Int32) (b : Nat) (f : Nat → Int32) (ru : Nat) (rn : Nat) (rf : Nat) (p : Nat → Nat) (q : Nat → Nat) (cl : Nat) (n : Int32) (hW1 : 2 ≤ W) (hW2 : W ≤ 16) (hH1 : 2 ≤ H) (hH2 : H ≤ 16) (hW3 : W % 2 = 0) (hH3 : H % 2 = 0) (hcl : cl / 100 < W ∧ cl % 100 < H) (hn : -200 ≤ n.toInt ∧ n.toInt ≤ 200) (hcl2 : cl < 2147483648) (l : Launch) : CT l G yX0_cellThen cX0_cellThen 5 (some .int) { frames := 4, cells := 0, slots := 0, locals := 97 } [.ref ah, .ref g, .ref ru, .int (nI cl), .int n] [(ah, .inr (0, [.int ms, .int mc, .int mr, .ref ag, .ref ar, .ref ur, .int un])), (ag, .inr (1, [.int (nI aW), .int (nI aH), .int at_, .ref ab])), (ab, ia G 16 af), (g, .inr (1, [.int (nI W), .int (nI H), .int t, .ref b])), (b, ia G 16 f), (ru, .inr (3, [.ref rn, .ref rf])), (rn, ia G 16 (fun ι => nI (p ι))), (rf, ia G 16 (fun ι => nI (q ι)))] (fun vv ww => vv = some (.int (bI (bt (goF W H p q t n f (cl % 100)) (cl / 100)))) ∧ ww = [(ah, .inr (0, [.int ms, .int mc, .int mr, .ref ag, .ref ar, .ref ur, .int un])), (ag, .inr (1, [.int (nI W), .int (nI H), .int (t + n), .ref ab])), (ab, ia G 16 (goF W H p q t n f)), (g, .inr (1, [.int (nI W), .int (nI H), .int t, .ref b])), (b, ia G 16 f), (ru, .inr (3, [.ref rn, .ref rf])), (rn, ia G 16 (fun ι => nI (p ι))), (rf, ia G 16 (fun ι => nI (q ι)))]) := by
  refine CT.of (lv := [(0, .ref ah), (1, .ref g), (2, .ref ru), (3, .int (nI cl)), (4, .int n)]) RX0 "cellThen" rfl rfl (by decide +kernel) (Nat.le_of_ble_eq_true rfl) rfl (fun X hX hR => ?_)
  refine j_aload_n (pc := 0) hX dX0_cellThen_0 0 rfl ?_
  refine j_get (pc := 1) hX f_RX0_24 0 rfl rfl dX0_cellThen_1 ?_
  refine j_aload_n (pc := 4) hX dX0_cellThen_4 1 rfl ?_
  refine j_callV (pc := 5) hX kX1_copyOf kVX1_copyOf l_RX0_42 (fun l => c_X1_copyOf G ag aW aH at_ ab af g W H t b f  l) [1, 2, 3, 4] [0, 5, 6, 7] [] rfl 0 1 rfl rfl rfl rfl rfl rfl ⟨rfl, rfl, by decide⟩ rfl rfl (Nat.le_of_ble_eq_true rfl) dX0_cellThen_5 (fun v w hq => ?_)
  obtain ⟨rfl, rfl⟩ := hq
  refine j_ws [0, 4, 5, 6, 7, 1, 2, 3] (ws' := [(ah, .inr (0, [.int ms, .int mc, .int mr, .ref ag, .ref ar, .ref ur, .int un])), (ag, .inr (1, [.int (nI W), .int (nI H), .int t, .ref ab])), (ab, ia G 16 f), (g, .inr (1, [.int (nI W), .int (nI H), .int t, .ref b])), (b, ia G 16 f), (ru, .inr (3, [.ref rn, .ref rf])), (rn, ia G 16 (fun ι => nI (p ι))), (rf, ia G 16 (fun ι => nI (q ι)))]) rfl rfl ?_
  refine j_aload_n (pc := 8) hX dX0_cellThen_8 0 rfl ?_
  refine j_get (pc := 9) hX f_RX0_24 0 rfl rfl dX0_cellThen_9 ?_
  refine j_iload (pc := 12) hX dX0_cellThen_12 4 rfl ?_
  refine j_aload_n (pc := 14) hX dX0_cellThen_14 2 rfl ?_
  refine j_callV (pc := 15) hX kX1_go kVX1_go l_RX0_46 (fun l => c_X1_go G ag W H t ab f n ru rn rf p q (by omega) (by omega) (by omega) (by omega) (by omega) (by omega) (by first | omega | (rw [nI_toInt (by omega)]; omega)) l) [1, 2, 5, 6, 7] [0, 3, 4] [] rfl 0 1 rfl rfl rfl rfl rfl rfl ⟨rfl, rfl, by decide⟩ rfl rfl (Nat.le_of_ble_eq_true rfl) dX0_cellThen_15 (fun v w hq => ?_)
  obtain ⟨rfl, rfl⟩ := hq
  refine j_ws [0, 3, 4, 1, 2, 5, 6, 7] (ws' := [(ah, .inr (0, [.int ms, .int mc, .int mr, .ref ag, .ref ar, .ref ur, .int un])), (ag, .inr (1, [.int (nI W), .int (nI H), .int (t + n), .ref ab])), (ab, ia G 16 (goF W H p q t n f)), (g, .inr (1, [.int (nI W), .int (nI H), .int t, .ref b])), (b, ia G 16 f), (ru, .inr (3, [.ref rn, .ref rf])), (rn, ia G 16 (fun ι => nI (p ι))), (rf, ia G 16 (fun ι => nI (q ι)))]) rfl rfl ?_
  refine j_aload_n (pc := 18) hX dX0_cellThen_18 0 rfl ?_
  refine j_get (pc := 19) hX f_RX0_24 0 rfl rfl dX0_cellThen_19 ?_
  refine j_iload_n (pc := 22) hX dX0_cellThen_22 3 rfl ?_
  refine j_bipush (pc := 23) (v := nI 100) hX dX0_cellThen_23 (by decide) ?_
  refine j_idiv (pc := 25) hX dX0_cellThen_25 (by decide) ?_
  refine j_topi (y := nI (cl / 100)) (pk_div (by omega) (by omega) (by omega)) ?_
  refine j_iload_n (pc := 26) hX dX0_cellThen_26 3 rfl ?_
  refine j_bipush (pc := 27) (v := nI 100) hX dX0_cellThen_27 (by decide) ?_
  refine j_irem (pc := 29) hX dX0_cellThen_29 (by decide) ?_
  refine j_topi (y := nI (cl % 100)) (pk_rem (by omega) (by omega) (by omega)) ?_
  refine j_callV (pc := 30) hX kX1_cellAt kVX1_cellAt l_RX0_50 (fun l => c_X1_cellAt G ag W H (t + n) ab (goF W H p q t n f) (cl / 100) (cl % 100) (by omega) (by omega) (by omega) (by omega) (by omega) (by omega) l) [1, 2] [0, 3, 4, 5, 6, 7] [] rfl 0 1 rfl rfl rfl rfl rfl rfl ⟨rfl, rfl, by decide⟩ rfl rfl (Nat.le_of_ble_eq_true rfl) dX0_cellThen_30 (fun v w hq => ?_)
  obtain ⟨rfl, rfl⟩ := hq
  refine j_ws [0, 6, 7, 1, 2, 3, 4, 5] (ws' := [(ah, .inr (0, [.int ms, .int mc, .int mr, .ref ag, .ref ar, .ref ur, .int un])), (ag, .inr (1, [.int (nI W), .int (nI H), .int (t + n), .ref ab])), (ab, ia G 16 (goF W H p q t n f)), (g, .inr (1, [.int (nI W), .int (nI H), .int t, .ref b])), (b, ia G 16 f), (ru, .inr (3, [.ref rn, .ref rf])), (rn, ia G 16 (fun ι => nI (p ι))), (rf, ia G 16 (fun ι => nI (q ι)))]) rfl rfl ?_
  exact j_iret (pc := 33) hX hR dX0_cellThen_33 ⟨congrArg some (show Value.int (bI (bt ((goF W H p q t n f) (cl % 100)) (cl / 100))) = Value.int (bI (bt (goF W H p q t n f (cl % 100)) (cl / 100))) from by rfl), rfl⟩
set_option maxHeartbeats 4000000 in
set_option maxRecDepth 100000 in
theorem c_X0_stepsToSame (G : GT) (ah : Nat) (ms : Int32) (mc : Int32) (mr : Int32) (ag : Nat) (ar : Nat) (ur : Nat) (un : Int32) (aW : Nat) (aH : Nat) (at_ : Int32) (ab : Nat) (af : Nat → Int32) (g : Nat) (W : Nat) (H : Nat) (t : Int32) (b : Nat) (f : Nat → Int32) (ru : Nat) (rn : Nat) (rf : Nat) (p : Nat → Nat) (q : Nat → Nat) (hW1 : 2 ≤ W) (hW2 : W ≤ 16) (hH1 : 2 ≤ H) (hH2 : H ≤ 16) (hW3 : W % 2 = 0) (hH3 : H % 2 = 0) (l : Launch) : CT l G yX0_stepsToSame cX0_stepsToSame 4 (some .int) { frames := 4, cells := 0, slots := 0, locals := 97 } [.ref ah, .ref g, .ref ru] [(ah, .inr (0, [.int ms, .int mc, .int mr, .ref ag, .ref ar, .ref ur, .int un])), (ag, .inr (1, [.int (nI aW), .int (nI aH), .int at_, .ref ab])), (ab, ia G 16 af), (g, .inr (1, [.int (nI W), .int (nI H), .int t, .ref b])), (b, ia G 16 f), (ru, .inr (3, [.ref rn, .ref rf])), (rn, ia G 16 (fun ι => nI (p ι))), (rf, ia G 16 (fun ι => nI (q ι)))] (fun vv ww => ∃ (aW2 aH2 : Nat) (at2 : Int32) (af2 : Nat → Int32), vv = some (.int (optI (agS W H p t f))) ∧ ww = [(ah, .inr (0, [.int ms, .int mc, .int mr, .ref ag, .ref ar, .ref ur, .int un])), (ag, .inr (1, [.int (nI aW2), .int (nI aH2), .int at2, .ref ab])), (ab, ia G 16 af2), (g, .inr (1, [.int (nI W), .int (nI H), .int t, .ref b])), (b, ia G 16 f), (ru, .inr (3, [.ref rn, .ref rf])), (rn, ia G 16 (fun ι => nI (p ι))), (rf, ia G 16 (fun ι => nI (q ι)))]) := by
  refine CT.of (lv := [(0, .ref ah), (1, .ref g), (2, .ref ru)]) RX0 "stepsToSame" rfl rfl (by decide +kernel) (Nat.le_of_ble_eq_true rfl) rfl (fun X hX hR => ?_)
  refine j_aload_n (pc := 0) hX dX0_stepsToSame_0 0 rfl ?_
  refine j_get (pc := 1) hX f_RX0_24 0 rfl rfl dX0_stepsToSame_1 ?_
  refine j_aload_n (pc := 4) hX dX0_stepsToSame_4 1 rfl ?_
  refine j_callV (pc := 5) hX kX1_copyOf kVX1_copyOf l_RX0_42 (fun l => c_X1_copyOf G ag aW aH at_ ab af g W H t b f  l) [1, 2, 3, 4] [0, 5, 6, 7] [] rfl 0 1 rfl rfl rfl rfl rfl rfl ⟨rfl, rfl, by decide⟩ rfl rfl (Nat.le_of_ble_eq_true rfl) dX0_stepsToSame_5 (fun v w hq => ?_)
  obtain ⟨rfl, rfl⟩ := hq
  refine j_ws [0, 4, 5, 6, 7, 1, 2, 3] (ws' := [(ah, .inr (0, [.int ms, .int mc, .int mr, .ref ag, .ref ar, .ref ur, .int un])), (ag, .inr (1, [.int (nI W), .int (nI H), .int t, .ref ab])), (ab, ia G 16 f), (g, .inr (1, [.int (nI W), .int (nI H), .int t, .ref b])), (b, ia G 16 f), (ru, .inr (3, [.ref rn, .ref rf])), (rn, ia G 16 (fun ι => nI (p ι))), (rf, ia G 16 (fun ι => nI (q ι)))]) rfl rfl ?_
  refine j_iconstN (pc := 8) (j := 2) hX dX0_stepsToSame_8 rfl ?_
  refine j_istore_n (pc := 9) (lv' := [(3, .int (nI 2)), (0, .ref ah), (1, .ref g), (2, .ref ru)]) hX dX0_stepsToSame_9 (by decide) rfl ?_
  have L10 : ∀ (m10 : Nat) (n c : Nat) (t3 : Int32) (f3 : Nat → Int32) (hn : n = 2 + 2 * (64 - c) ∧ c ≤ 64) (ht3 : t3 = t + nI (n - 2)) (h3 : f3 = gF W H p t (n - 2) f) (hag : agS W H p t f = fst2 (fun n => ifS (sameAt W H p t f n) n) n c), c < m10 → J X G 4 0 0 [(ah, .inr (0, [.int ms, .int mc, .int mr, .ref ag, .ref ar, .ref ur, .int un])), (ag, .inr (1, [.int (nI W), .int (nI H), .int t3, .ref ab])), (ab, ia G 16 f3), (g, .inr (1, [.int (nI W), .int (nI H), .int t, .ref b])), (b, ia G 16 f), (ru, .inr (3, [.ref rn, .ref rf])), (rn, ia G 16 (fun ι => nI (p ι))), (rf, ia G 16 (fun ι => nI (q ι)))] [(0, .ref ah), (1, .ref g), (2, .ref ru), (3, .int (nI n))] 10 [] := by
    intro m10
    induction m10 with
    | zero => intro n c t3 f3 hn ht3 h3 hag hm10; exact absurd hm10 (Nat.not_lt_zero _)
    | succ m10 ih10 =>
      intro n c t3 f3 hn ht3 h3 hag hm10
      refine j_iload_n (pc := 10) hX dX0_stepsToSame_10 3 rfl ?_
      refine j_sipush (pc := 11) (v := nI 128) hX dX0_stepsToSame_11 (by decide) ?_
      refine j_icmp_gt (pc := 14) (tgt := 45) hX dX0_stepsToSame_14 (by decide) (nI_toInt (n := n) (by omega)) (nI_toInt (n := 128) (by decide)) (fun c14 => ?_) (fun c14 => ?_)
      · skip
        refine j_bipush (pc := 45) (v := (-5)) hX dX0_stepsToSame_45 (by decide) ?_
        exact j_iret (pc := 47) hX hR dX0_stepsToSame_47 ⟨W, H, t3, f3, congrArg some (show Value.int (-5) = Value.int (optI (agS W H p t f)) from by rw [hag, show c = 0 from by omega]; rfl), rfl⟩
      · skip
        refine j_aload_n (pc := 17) hX dX0_stepsToSame_17 0 rfl ?_
        refine j_get (pc := 18) hX f_RX0_24 0 rfl rfl dX0_stepsToSame_18 ?_
        refine j_iconstN (pc := 21) (j := 2) hX dX0_stepsToSame_21 rfl ?_
        refine j_aload_n (pc := 22) hX dX0_stepsToSame_22 2 rfl ?_
        refine j_callV (pc := 23) hX kX1_go kVX1_go l_RX0_46 (fun l => c_X1_go G ag W H t3 ab f3 (nI 2) ru rn rf p q (by omega) (by omega) (by omega) (by omega) (by omega) (by omega) (by first | omega | (rw [nI_toInt (by omega)]; omega)) l) [1, 2, 5, 6, 7] [0, 3, 4] [] rfl 0 1 rfl rfl rfl rfl rfl rfl ⟨rfl, rfl, by decide⟩ rfl rfl (Nat.le_of_ble_eq_true rfl) dX0_stepsToSame_23 (fun v w hq => ?_)
        obtain ⟨rfl, rfl⟩ := hq
        refine j_ws [0, 3, 4, 1, 2, 5, 6, 7] (ws' := [(ah, .inr (0, [.int ms, .int mc, .int mr, .ref ag, .ref ar, .ref ur, .int un])), (ag, .inr (1, [.int (nI W), .int (nI H), .int (t3 + (nI 2)), .ref ab])), (ab, ia G 16 (goF W H p q t3 (nI 2) f3)), (g, .inr (1, [.int (nI W), .int (nI H), .int t, .ref b])), (b, ia G 16 f), (ru, .inr (3, [.ref rn, .ref rf])), (rn, ia G 16 (fun ι => nI (p ι))), (rf, ia G 16 (fun ι => nI (q ι)))]) rfl rfl ?_
        refine j_aload_n (pc := 26) hX dX0_stepsToSame_26 0 rfl ?_
        refine j_get (pc := 27) hX f_RX0_24 0 rfl rfl dX0_stepsToSame_27 ?_
        refine j_aload_n (pc := 30) hX dX0_stepsToSame_30 1 rfl ?_
        refine j_callV (pc := 31) hX kX1_hasCellsOf kVX1_hasCellsOf l_RX0_54 (fun l => c_X1_hasCellsOf G ag W H (t3 + (nI 2)) ab (goF W H p q t3 (nI 2) f3) g W H t b f (by omega) (by omega) (by omega) (by omega) l) [1, 2, 3, 4] [0, 5, 6, 7] [] rfl 0 1 rfl rfl rfl rfl rfl rfl ⟨rfl, rfl, by decide⟩ rfl rfl (Nat.le_of_ble_eq_true rfl) dX0_stepsToSame_31 (fun v w hq => ?_)
        obtain ⟨rfl, rfl⟩ := hq
        refine j_ws [0, 4, 5, 6, 7, 1, 2, 3] (ws' := [(ah, .inr (0, [.int ms, .int mc, .int mr, .ref ag, .ref ar, .ref ur, .int un])), (ag, .inr (1, [.int (nI W), .int (nI H), .int (t3 + (nI 2)), .ref ab])), (ab, ia G 16 (goF W H p q t3 (nI 2) f3)), (g, .inr (1, [.int (nI W), .int (nI H), .int t, .ref b])), (b, ia G 16 f), (ru, .inr (3, [.ref rn, .ref rf])), (rn, ia G 16 (fun ι => nI (p ι))), (rf, ia G 16 (fun ι => nI (q ι)))]) rfl rfl ?_
        refine j_ifB_eq (pc := 34) (tgt := 39) hX dX0_stepsToSame_34 (by decide) (fun c34 => ?_) (fun c34 => ?_)
        · skip
          refine j_iinc (pc := 39) (q := 3) (v := nI (n + 2)) (lv' := [(3, .int (nI (n + 2))), (0, .ref ah), (1, .ref g), (2, .ref ru)]) hX dX0_stepsToSame_39 rfl (nI_inc _ 2) (by decide) rfl ?_
          refine j_goto (pc := 42) (tgt := 10) hX dX0_stepsToSame_42 (by decide) ?_
          refine j_lv [1, 2, 3, 0] (lv' := [(0, .ref ah), (1, .ref g), (2, .ref ru), (3, .int (nI (n + 2)))]) rfl ?_
          exact ih10 (n + 2) (c - 1) (t3 + (nI 2)) (goF W H p q t3 (nI 2) f3) (by omega) (by rw [ht3, Int32.add_assoc, nI_add]; congr 2; omega) (by rw [h3, ht3, goF_on (by omega), show n - 2 + 2 = n + 2 - 2 from by omega]) (by rw [hag, fst2_n (P := fun n => ifS (sameAt W H p t f n) n) (by omega) (ifS_f (by rw [← c34]; unfold sameAt; rw [h3, ht3, goF_on (by omega), show n - 2 + 2 = n from by omega]))]) (by omega)
        · skip
          refine j_iload_n (pc := 37) hX dX0_stepsToSame_37 3 rfl ?_
          exact j_iret (pc := 38) hX hR dX0_stepsToSame_38 ⟨W, H, (t3 + (nI 2)), (goF W H p q t3 (nI 2) f3), congrArg some (show Value.int (nI n) = Value.int (optI (agS W H p t f)) from by rw [hag, fst2_s (P := fun n => ifS (sameAt W H p t f n) n) (by omega) (ifS_t (by rw [← c34]; unfold sameAt; rw [h3, ht3, goF_on (by omega), show n - 2 + 2 = n from by omega]))]; rfl), rfl⟩
  refine j_lv [1, 2, 3, 0] (lv' := [(0, .ref ah), (1, .ref g), (2, .ref ru), (3, .int (nI 2))]) rfl ?_
  exact L10 (64 + 1) 2 64 t f (by omega) (add0 t) (rfl) (rfl) (Nat.lt_succ_self _)
set_option maxHeartbeats 4000000 in
set_option maxRecDepth 100000 in
theorem c_X0_isMoved (G : GT) (ah : Nat) (ms : Int32) (mc : Int32) (mr : Int32) (ag : Nat) (ar : Nat) (ur : Nat) (un : Int32) (W : Nat) (H : Nat) (at_ : Int32) (ab : Nat) (af : Nat → Int32) (g : Nat) (t : Int32) (b : Nat) (f : Nat → Int32) (hW1 : 2 ≤ W) (hW2 : W ≤ 16) (hH1 : 2 ≤ H) (hH2 : H ≤ 16) (hW3 : W % 2 = 0) (hH3 : H % 2 = 0) (l : Launch) : CT l G yX0_isMoved cX0_isMoved 4 (some .boolean) { frames := 3, cells := 0, slots := 0, locals := 68 } [.ref ah, .ref g] [(ah, .inr (0, [.int ms, .int mc, .int mr, .ref ag, .ref ar, .ref ur, .int un])), (ag, .inr (1, [.int (nI W), .int (nI H), .int at_, .ref ab])), (ab, ia G 16 af), (g, .inr (1, [.int (nI W), .int (nI H), .int t, .ref b])), (b, ia G 16 f)] (fun vv ww => ∃ (mc2 mr2 : Int32), vv = some (.int (bI ((mvG W H af f).isSome))) ∧ ww = [(ah, .inr (0, [.int ms, .int mc2, .int mr2, .ref ag, .ref ar, .ref ur, .int un])), (ag, .inr (1, [.int (nI W), .int (nI H), .int at_, .ref ab])), (ab, ia G 16 af), (g, .inr (1, [.int (nI W), .int (nI H), .int t, .ref b])), (b, ia G 16 f)] ∧ (∀ dx dy, mvG W H af f = some (dx, dy) → mc2 = nI dx ∧ mr2 = nI dy)) := by
  refine CT.of (lv := [(0, .ref ah), (1, .ref g)]) RX0 "isMoved" rfl rfl (by decide +kernel) (Nat.le_of_ble_eq_true rfl) rfl (fun X hX hR => ?_)
  refine j_iconstN (pc := 0) (j := 0) hX dX0_isMoved_0 rfl ?_
  refine j_istore_n (pc := 1) (lv' := [(2, .int (nI 0)), (0, .ref ah), (1, .ref g)]) hX dX0_isMoved_1 (by decide) rfl ?_
  have L2 : ∀ (m2 : Nat) (dy c : Nat) (hdy : dy = 2 * (H / 2 - c) ∧ c ≤ H / 2) (hmv : mvG W H af f = fst2 (fun dy => mvX W H af f dy) dy c), c < m2 → J X G 4 0 0 [(ah, .inr (0, [.int ms, .int mc, .int mr, .ref ag, .ref ar, .ref ur, .int un])), (ag, .inr (1, [.int (nI W), .int (nI H), .int at_, .ref ab])), (ab, ia G 16 af), (g, .inr (1, [.int (nI W), .int (nI H), .int t, .ref b])), (b, ia G 16 f)] [(0, .ref ah), (1, .ref g), (2, .int (nI dy))] 2 [] := by
    intro m2
    induction m2 with
    | zero => intro dy c hdy hmv hm2; exact absurd hm2 (Nat.not_lt_zero _)
    | succ m2 ih2 =>
      intro dy c hdy hmv hm2
      refine j_iload_n (pc := 2) hX dX0_isMoved_2 2 rfl ?_
      refine j_aload_n (pc := 3) hX dX0_isMoved_3 1 rfl ?_
      refine j_get (pc := 4) hX f_RX0_61 3 rfl rfl dX0_isMoved_4 ?_
      refine j_icmp_ge (pc := 7) (tgt := 65) hX dX0_isMoved_7 (by decide) (nI_toInt (n := dy) (by omega)) (nI_toInt (n := H) (by omega)) (fun c7 => ?_) (fun c7 => ?_)
      · skip
        refine j_iconstN (pc := 65) (j := 0) hX dX0_isMoved_65 rfl ?_
        have hres : mvG W H af f = none := by rw [hmv, show c = 0 from by omega]; rfl
        exact j_zret (pc := 66) hX hR (by decide) dX0_isMoved_66 ⟨mc, mr, congrArg some (show Value.int (nI 0) = Value.int (bI ((mvG W H af f).isSome)) from bI_ff (by rw [hres]; rfl)), rfl, fun x y e => by rw [hres] at e; cases e⟩
      · skip
        refine j_iload_n (pc := 10) hX dX0_isMoved_10 2 rfl ?_
        refine j_if_ne (pc := 11) (tgt := 18) hX dX0_isMoved_11 (by decide) (nI_toInt (n := dy) (by omega)) (fun c11 => ?_) (fun c11 => ?_)
        · skip
          refine j_iconstN (pc := 18) (j := 0) hX dX0_isMoved_18 rfl ?_
          refine j_istore_n (pc := 19) (lv' := [(3, .int (nI 0)), (0, .ref ah), (1, .ref g), (2, .int (nI dy))]) hX dX0_isMoved_19 (by decide) rfl ?_
          have L20 : ∀ (m20 : Nat) (dx c2 : Nat) (hdx : dx + 2 * c2 = W) (hmx : mvX W H af f dy = fst2 (fun dx => ifS (shB W H af f dx dy) (dx, dy)) dx c2), c2 < m20 → J X G 4 0 0 [(ah, .inr (0, [.int ms, .int mc, .int mr, .ref ag, .ref ar, .ref ur, .int un])), (ag, .inr (1, [.int (nI W), .int (nI H), .int at_, .ref ab])), (ab, ia G 16 af), (g, .inr (1, [.int (nI W), .int (nI H), .int t, .ref b])), (b, ia G 16 f)] [(0, .ref ah), (1, .ref g), (2, .int (nI dy)), (3, .int (nI dx))] 20 [] := by
            intro m20
            induction m20 with
            | zero => intro dx c2 hdx hmx hm20; exact absurd hm20 (Nat.not_lt_zero _)
            | succ m20 ih20 =>
              intro dx c2 hdx hmx hm20
              refine j_iload_n (pc := 20) hX dX0_isMoved_20 3 rfl ?_
              refine j_aload_n (pc := 21) hX dX0_isMoved_21 1 rfl ?_
              refine j_get (pc := 22) hX f_RX0_64 3 rfl rfl dX0_isMoved_22 ?_
              refine j_icmp_ge (pc := 25) (tgt := 59) hX dX0_isMoved_25 (by decide) (nI_toInt (n := dx) (by omega)) (nI_toInt (n := W) (by omega)) (fun c25 => ?_) (fun c25 => ?_)
              · skip
                refine j_iinc (pc := 59) (q := 2) (v := nI (dy + 2)) (lv' := [(2, .int (nI (dy + 2))), (0, .ref ah), (1, .ref g), (3, .int (nI dx))]) hX dX0_isMoved_59 rfl (nI_inc _ 2) (by decide) rfl ?_
                refine j_goto (pc := 62) (tgt := 2) hX dX0_isMoved_62 (by decide) ?_
                refine j_lv [1, 2, 0] (lv' := [(0, .ref ah), (1, .ref g), (2, .int (nI (dy + 2)))]) rfl ?_
                exact ih2 (dy + 2) (c - 1) (by omega) (by rw [hmv, fst2_n (P := fun dy => mvX W H af f dy) (by omega) (by rw [hmx, show c2 = 0 from by omega]; rfl)]) (by omega)
              · skip
                refine j_aload_n (pc := 28) hX dX0_isMoved_28 0 rfl ?_
                refine j_get (pc := 29) hX f_RX0_24 0 rfl rfl dX0_isMoved_29 ?_
                refine j_aload_n (pc := 32) hX dX0_isMoved_32 1 rfl ?_
                refine j_iload_n (pc := 33) hX dX0_isMoved_33 3 rfl ?_
                refine j_iload_n (pc := 34) hX dX0_isMoved_34 2 rfl ?_
                refine j_callV (pc := 35) hX kX1_isShifted kVX1_isShifted l_RX0_67 (fun l => c_X1_isShifted G ag W H at_ ab af g W H t b f dx dy (by omega) (by omega) (by omega) (by omega) (by omega) (by omega) l) [1, 2, 3, 4] [0] [] rfl 0 1 rfl rfl rfl rfl rfl rfl ⟨rfl, rfl, by decide⟩ rfl rfl (Nat.le_of_ble_eq_true rfl) dX0_isMoved_35 (fun v w hq => ?_)
                obtain ⟨rfl, rfl⟩ := hq
                refine j_ws [0, 1, 2, 3, 4] (ws' := [(ah, .inr (0, [.int ms, .int mc, .int mr, .ref ag, .ref ar, .ref ur, .int un])), (ag, .inr (1, [.int (nI W), .int (nI H), .int at_, .ref ab])), (ab, ia G 16 af), (g, .inr (1, [.int (nI W), .int (nI H), .int t, .ref b])), (b, ia G 16 f)]) rfl rfl ?_
                refine j_ifB_eq (pc := 38) (tgt := 53) hX dX0_isMoved_38 (by decide) (fun c38 => ?_) (fun c38 => ?_)
                · skip
                  refine j_iinc (pc := 53) (q := 3) (v := nI (dx + 2)) (lv' := [(3, .int (nI (dx + 2))), (0, .ref ah), (1, .ref g), (2, .int (nI dy))]) hX dX0_isMoved_53 rfl (nI_inc _ 2) (by decide) rfl ?_
                  refine j_goto (pc := 56) (tgt := 20) hX dX0_isMoved_56 (by decide) ?_
                  refine j_lv [1, 2, 3, 0] (lv' := [(0, .ref ah), (1, .ref g), (2, .int (nI dy)), (3, .int (nI (dx + 2)))]) rfl ?_
                  exact ih20 (dx + 2) (c2 - 1) (by omega) (by rw [hmx, fst2_n (P := fun dx => ifS (shB W H af f dx dy) (dx, dy)) (by omega) (ifS_f c38)]) (by omega)
                · skip
                  refine j_aload_n (pc := 41) hX dX0_isMoved_41 0 rfl ?_
                  refine j_iload_n (pc := 42) hX dX0_isMoved_42 3 rfl ?_
                  refine j_put (pc := 43) (ws' := [(ah, .inr (0, [.int ms, .int (nI dx), .int mr, .ref ag, .ref ar, .ref ur, .int un])), (ag, .inr (1, [.int (nI W), .int (nI H), .int at_, .ref ab])), (ab, ia G 16 af), (g, .inr (1, [.int (nI W), .int (nI H), .int t, .ref b])), (b, ia G 16 f)]) hX f_RX0_15 0 rfl rfl rfl (Nat.le_of_ble_eq_true rfl) rfl dX0_isMoved_43 ?_
                  refine j_aload_n (pc := 46) hX dX0_isMoved_46 0 rfl ?_
                  refine j_iload_n (pc := 47) hX dX0_isMoved_47 2 rfl ?_
                  refine j_put (pc := 48) (ws' := [(ah, .inr (0, [.int ms, .int (nI dx), .int (nI dy), .ref ag, .ref ar, .ref ur, .int un])), (ag, .inr (1, [.int (nI W), .int (nI H), .int at_, .ref ab])), (ab, ia G 16 af), (g, .inr (1, [.int (nI W), .int (nI H), .int t, .ref b])), (b, ia G 16 f)]) hX f_RX0_18 0 rfl rfl rfl (Nat.le_of_ble_eq_true rfl) rfl dX0_isMoved_48 ?_
                  refine j_iconstN (pc := 51) (j := 1) hX dX0_isMoved_51 rfl ?_
                  have hres : mvG W H af f = some (dx, dy) := by rw [hmv, fst2_s (P := fun dy => mvX W H af f dy) (by omega) (by rw [hmx, fst2_s (P := fun dx => ifS (shB W H af f dx dy) (dx, dy)) (by omega) (ifS_t c38)])]
                  exact j_zret (pc := 52) hX hR (by decide) dX0_isMoved_52 ⟨(nI dx), (nI dy), congrArg some (show Value.int (nI 1) = Value.int (bI ((mvG W H af f).isSome)) from bI_tt (by rw [hres]; rfl)), rfl, fun x y e => by rw [hres] at e; cases e; exact ⟨rfl, rfl⟩⟩
          refine j_lv [1, 2, 3, 0] (lv' := [(0, .ref ah), (1, .ref g), (2, .int (nI dy)), (3, .int (nI 0))]) rfl ?_
          exact L20 ((W / 2) + 1) 0 (W / 2) (by omega) (by unfold mvX; first | (rw [if_pos (by omega), if_pos (by omega)]; done) | (rw [if_neg (by omega), if_neg (by omega)]; done)) (Nat.lt_succ_self _)
        · skip
          refine j_iconstN (pc := 14) (j := 2) hX dX0_isMoved_14 rfl ?_
          refine j_goto (pc := 15) (tgt := 19) hX dX0_isMoved_15 (by decide) ?_
          refine j_istore_n (pc := 19) (lv' := [(3, .int (nI 2)), (0, .ref ah), (1, .ref g), (2, .int (nI dy))]) hX dX0_isMoved_19 (by decide) rfl ?_
          have L20 : ∀ (m20 : Nat) (dx c2 : Nat) (hdx : dx + 2 * c2 = W) (hmx : mvX W H af f dy = fst2 (fun dx => ifS (shB W H af f dx dy) (dx, dy)) dx c2), c2 < m20 → J X G 4 0 0 [(ah, .inr (0, [.int ms, .int mc, .int mr, .ref ag, .ref ar, .ref ur, .int un])), (ag, .inr (1, [.int (nI W), .int (nI H), .int at_, .ref ab])), (ab, ia G 16 af), (g, .inr (1, [.int (nI W), .int (nI H), .int t, .ref b])), (b, ia G 16 f)] [(0, .ref ah), (1, .ref g), (2, .int (nI dy)), (3, .int (nI dx))] 20 [] := by
            intro m20
            induction m20 with
            | zero => intro dx c2 hdx hmx hm20; exact absurd hm20 (Nat.not_lt_zero _)
            | succ m20 ih20 =>
              intro dx c2 hdx hmx hm20
              refine j_iload_n (pc := 20) hX dX0_isMoved_20 3 rfl ?_
              refine j_aload_n (pc := 21) hX dX0_isMoved_21 1 rfl ?_
              refine j_get (pc := 22) hX f_RX0_64 3 rfl rfl dX0_isMoved_22 ?_
              refine j_icmp_ge (pc := 25) (tgt := 59) hX dX0_isMoved_25 (by decide) (nI_toInt (n := dx) (by omega)) (nI_toInt (n := W) (by omega)) (fun c25 => ?_) (fun c25 => ?_)
              · skip
                refine j_iinc (pc := 59) (q := 2) (v := nI (dy + 2)) (lv' := [(2, .int (nI (dy + 2))), (0, .ref ah), (1, .ref g), (3, .int (nI dx))]) hX dX0_isMoved_59 rfl (nI_inc _ 2) (by decide) rfl ?_
                refine j_goto (pc := 62) (tgt := 2) hX dX0_isMoved_62 (by decide) ?_
                refine j_lv [1, 2, 0] (lv' := [(0, .ref ah), (1, .ref g), (2, .int (nI (dy + 2)))]) rfl ?_
                exact ih2 (dy + 2) (c - 1) (by omega) (by rw [hmv, fst2_n (P := fun dy => mvX W H af f dy) (by omega) (by rw [hmx, show c2 = 0 from by omega]; rfl)]) (by omega)
              · skip
                refine j_aload_n (pc := 28) hX dX0_isMoved_28 0 rfl ?_
                refine j_get (pc := 29) hX f_RX0_24 0 rfl rfl dX0_isMoved_29 ?_
                refine j_aload_n (pc := 32) hX dX0_isMoved_32 1 rfl ?_
                refine j_iload_n (pc := 33) hX dX0_isMoved_33 3 rfl ?_
                refine j_iload_n (pc := 34) hX dX0_isMoved_34 2 rfl ?_
                refine j_callV (pc := 35) hX kX1_isShifted kVX1_isShifted l_RX0_67 (fun l => c_X1_isShifted G ag W H at_ ab af g W H t b f dx dy (by omega) (by omega) (by omega) (by omega) (by omega) (by omega) l) [1, 2, 3, 4] [0] [] rfl 0 1 rfl rfl rfl rfl rfl rfl ⟨rfl, rfl, by decide⟩ rfl rfl (Nat.le_of_ble_eq_true rfl) dX0_isMoved_35 (fun v w hq => ?_)
                obtain ⟨rfl, rfl⟩ := hq
                refine j_ws [0, 1, 2, 3, 4] (ws' := [(ah, .inr (0, [.int ms, .int mc, .int mr, .ref ag, .ref ar, .ref ur, .int un])), (ag, .inr (1, [.int (nI W), .int (nI H), .int at_, .ref ab])), (ab, ia G 16 af), (g, .inr (1, [.int (nI W), .int (nI H), .int t, .ref b])), (b, ia G 16 f)]) rfl rfl ?_
                refine j_ifB_eq (pc := 38) (tgt := 53) hX dX0_isMoved_38 (by decide) (fun c38 => ?_) (fun c38 => ?_)
                · skip
                  refine j_iinc (pc := 53) (q := 3) (v := nI (dx + 2)) (lv' := [(3, .int (nI (dx + 2))), (0, .ref ah), (1, .ref g), (2, .int (nI dy))]) hX dX0_isMoved_53 rfl (nI_inc _ 2) (by decide) rfl ?_
                  refine j_goto (pc := 56) (tgt := 20) hX dX0_isMoved_56 (by decide) ?_
                  refine j_lv [1, 2, 3, 0] (lv' := [(0, .ref ah), (1, .ref g), (2, .int (nI dy)), (3, .int (nI (dx + 2)))]) rfl ?_
                  exact ih20 (dx + 2) (c2 - 1) (by omega) (by rw [hmx, fst2_n (P := fun dx => ifS (shB W H af f dx dy) (dx, dy)) (by omega) (ifS_f c38)]) (by omega)
                · skip
                  refine j_aload_n (pc := 41) hX dX0_isMoved_41 0 rfl ?_
                  refine j_iload_n (pc := 42) hX dX0_isMoved_42 3 rfl ?_
                  refine j_put (pc := 43) (ws' := [(ah, .inr (0, [.int ms, .int (nI dx), .int mr, .ref ag, .ref ar, .ref ur, .int un])), (ag, .inr (1, [.int (nI W), .int (nI H), .int at_, .ref ab])), (ab, ia G 16 af), (g, .inr (1, [.int (nI W), .int (nI H), .int t, .ref b])), (b, ia G 16 f)]) hX f_RX0_15 0 rfl rfl rfl (Nat.le_of_ble_eq_true rfl) rfl dX0_isMoved_43 ?_
                  refine j_aload_n (pc := 46) hX dX0_isMoved_46 0 rfl ?_
                  refine j_iload_n (pc := 47) hX dX0_isMoved_47 2 rfl ?_
                  refine j_put (pc := 48) (ws' := [(ah, .inr (0, [.int ms, .int (nI dx), .int (nI dy), .ref ag, .ref ar, .ref ur, .int un])), (ag, .inr (1, [.int (nI W), .int (nI H), .int at_, .ref ab])), (ab, ia G 16 af), (g, .inr (1, [.int (nI W), .int (nI H), .int t, .ref b])), (b, ia G 16 f)]) hX f_RX0_18 0 rfl rfl rfl (Nat.le_of_ble_eq_true rfl) rfl dX0_isMoved_48 ?_
                  refine j_iconstN (pc := 51) (j := 1) hX dX0_isMoved_51 rfl ?_
                  have hres : mvG W H af f = some (dx, dy) := by rw [hmv, fst2_s (P := fun dy => mvX W H af f dy) (by omega) (by rw [hmx, fst2_s (P := fun dx => ifS (shB W H af f dx dy) (dx, dy)) (by omega) (ifS_t c38)])]
                  exact j_zret (pc := 52) hX hR (by decide) dX0_isMoved_52 ⟨(nI dx), (nI dy), congrArg some (show Value.int (nI 1) = Value.int (bI ((mvG W H af f).isSome)) from bI_tt (by rw [hres]; rfl)), rfl, fun x y e => by rw [hres] at e; cases e; exact ⟨rfl, rfl⟩⟩
          refine j_lv [1, 2, 3, 0] (lv' := [(0, .ref ah), (1, .ref g), (2, .int (nI dy)), (3, .int (nI 2))]) rfl ?_
          exact L20 ((W / 2 - 1) + 1) 2 (W / 2 - 1) (by omega) (by unfold mvX; first | (rw [if_pos (by omega), if_pos (by omega)]; done) | (rw [if_neg (by omega), if_neg (by omega)]; done)) (Nat.lt_succ_self _)
  refine j_lv [1, 2, 0] (lv' := [(0, .ref ah), (1, .ref g), (2, .int (nI 0))]) rfl ?_
  exact L2 ((H / 2) + 1) 0 (H / 2) (by omega) (rfl) (Nat.lt_succ_self _)
set_option maxHeartbeats 4000000 in
set_option maxRecDepth 100000 in
theorem c_X0_findMove (G : GT) (ah : Nat) (ms : Int32) (mc : Int32) (mr : Int32) (ag : Nat) (ar : Nat) (ur : Nat) (un : Int32) (aW : Nat) (aH : Nat) (at_ : Int32) (ab : Nat) (af : Nat → Int32) (g : Nat) (W : Nat) (H : Nat) (t : Int32) (b : Nat) (f : Nat → Int32) (ru : Nat) (rn : Nat) (rf : Nat) (p : Nat → Nat) (q : Nat → Nat) (hW1 : 2 ≤ W) (hW2 : W ≤ 16) (hH1 : 2 ≤ H) (hH2 : H ≤ 16) (hW3 : W % 2 = 0) (hH3 : H % 2 = 0) (l : Launch) : CT l G yX0_findMove cX0_findMove 4 (some .boolean) { frames := 4, cells := 0, slots := 0, locals := 97 } [.ref ah, .ref g, .ref ru] [(ah, .inr (0, [.int ms, .int mc, .int mr, .ref ag, .ref ar, .ref ur, .int un])), (ag, .inr (1, [.int (nI aW), .int (nI aH), .int at_, .ref ab])), (ab, ia G 16 af), (g, .inr (1, [.int (nI W), .int (nI H), .int t, .ref b])), (b, ia G 16 f), (ru, .inr (3, [.ref rn, .ref rf])), (rn, ia G 16 (fun ι => nI (p ι))), (rf, ia G 16 (fun ι => nI (q ι)))] (fun vv ww => ∃ (ms2 mc2 mr2 : Int32) (aW2 aH2 : Nat) (at2 : Int32) (af2 : Nat → Int32), vv = some (.int (bI ((mvS W H p t f).isSome))) ∧ ww = [(ah, .inr (0, [.int ms2, .int mc2, .int mr2, .ref ag, .ref ar, .ref ur, .int un])), (ag, .inr (1, [.int (nI aW2), .int (nI aH2), .int at2, .ref ab])), (ab, ia G 16 af2), (g, .inr (1, [.int (nI W), .int (nI H), .int t, .ref b])), (b, ia G 16 f), (ru, .inr (3, [.ref rn, .ref rf])), (rn, ia G 16 (fun ι => nI (p ι))), (rf, ia G 16 (fun ι => nI (q ι)))] ∧ (∀ n dx dy, mvS W H p t f = some (n, dx, dy) → ms2 = nI n ∧ mc2 = nI dx ∧ mr2 = nI dy)) := by
  refine CT.of (lv := [(0, .ref ah), (1, .ref g), (2, .ref ru)]) RX0 "findMove" rfl rfl (by decide +kernel) (Nat.le_of_ble_eq_true rfl) rfl (fun X hX hR => ?_)
  refine j_aload_n (pc := 0) hX dX0_findMove_0 0 rfl ?_
  refine j_get (pc := 1) hX f_RX0_24 0 rfl rfl dX0_findMove_1 ?_
  refine j_aload_n (pc := 4) hX dX0_findMove_4 1 rfl ?_
  refine j_callV (pc := 5) hX kX1_copyOf kVX1_copyOf l_RX0_42 (fun l => c_X1_copyOf G ag aW aH at_ ab af g W H t b f  l) [1, 2, 3, 4] [0, 5, 6, 7] [] rfl 0 1 rfl rfl rfl rfl rfl rfl ⟨rfl, rfl, by decide⟩ rfl rfl (Nat.le_of_ble_eq_true rfl) dX0_findMove_5 (fun v w hq => ?_)
  obtain ⟨rfl, rfl⟩ := hq
  refine j_ws [0, 4, 5, 6, 7, 1, 2, 3] (ws' := [(ah, .inr (0, [.int ms, .int mc, .int mr, .ref ag, .ref ar, .ref ur, .int un])), (ag, .inr (1, [.int (nI W), .int (nI H), .int t, .ref ab])), (ab, ia G 16 f), (g, .inr (1, [.int (nI W), .int (nI H), .int t, .ref b])), (b, ia G 16 f), (ru, .inr (3, [.ref rn, .ref rf])), (rn, ia G 16 (fun ι => nI (p ι))), (rf, ia G 16 (fun ι => nI (q ι)))]) rfl rfl ?_
  refine j_iconstN (pc := 8) (j := 2) hX dX0_findMove_8 rfl ?_
  refine j_istore_n (pc := 9) (lv' := [(3, .int (nI 2)), (0, .ref ah), (1, .ref g), (2, .ref ru)]) hX dX0_findMove_9 (by decide) rfl ?_
  have L10 : ∀ (m10 : Nat) (n c : Nat) (mc3 mr3 : Int32) (t3 : Int32) (f3 : Nat → Int32) (hn : n = 2 + 2 * (32 - c) ∧ c ≤ 32) (ht3 : t3 = t + nI (n - 2)) (h3 : f3 = gF W H p t (n - 2) f) (hag : mvS W H p t f = fst2 (fun n => mvAt W H p t f n) n c), c < m10 → J X G 4 0 0 [(ah, .inr (0, [.int ms, .int mc3, .int mr3, .ref ag, .ref ar, .ref ur, .int un])), (ag, .inr (1, [.int (nI W), .int (nI H), .int t3, .ref ab])), (ab, ia G 16 f3), (g, .inr (1, [.int (nI W), .int (nI H), .int t, .ref b])), (b, ia G 16 f), (ru, .inr (3, [.ref rn, .ref rf])), (rn, ia G 16 (fun ι => nI (p ι))), (rf, ia G 16 (fun ι => nI (q ι)))] [(0, .ref ah), (1, .ref g), (2, .ref ru), (3, .int (nI n))] 10 [] := by
    intro m10
    induction m10 with
    | zero => intro n c mc3 mr3 t3 f3 hn ht3 h3 hag hm10; exact absurd hm10 (Nat.not_lt_zero _)
    | succ m10 ih10 =>
      intro n c mc3 mr3 t3 f3 hn ht3 h3 hag hm10
      refine j_iload_n (pc := 10) hX dX0_findMove_10 3 rfl ?_
      refine j_bipush (pc := 11) (v := nI 64) hX dX0_findMove_11 (by decide) ?_
      refine j_icmp_gt (pc := 13) (tgt := 46) hX dX0_findMove_13 (by decide) (nI_toInt (n := n) (by omega)) (nI_toInt (n := 64) (by decide)) (fun c13 => ?_) (fun c13 => ?_)
      · skip
        refine j_iconstN (pc := 46) (j := 0) hX dX0_findMove_46 rfl ?_
        have hres : mvS W H p t f = none := by rw [hag, show c = 0 from by omega]; rfl
        exact j_zret (pc := 47) hX hR (by decide) dX0_findMove_47 ⟨ms, mc3, mr3, W, H, t3, f3, congrArg some (show Value.int (nI 0) = Value.int (bI ((mvS W H p t f).isSome)) from bI_ff (by rw [hres]; rfl)), rfl, fun x y z e => by rw [hres] at e; cases e⟩
      · skip
        refine j_aload_n (pc := 16) hX dX0_findMove_16 0 rfl ?_
        refine j_get (pc := 17) hX f_RX0_24 0 rfl rfl dX0_findMove_17 ?_
        refine j_iconstN (pc := 20) (j := 2) hX dX0_findMove_20 rfl ?_
        refine j_aload_n (pc := 21) hX dX0_findMove_21 2 rfl ?_
        refine j_callV (pc := 22) hX kX1_go kVX1_go l_RX0_46 (fun l => c_X1_go G ag W H t3 ab f3 (nI 2) ru rn rf p q (by omega) (by omega) (by omega) (by omega) (by omega) (by omega) (by first | omega | (rw [nI_toInt (by omega)]; omega)) l) [1, 2, 5, 6, 7] [0, 3, 4] [] rfl 0 1 rfl rfl rfl rfl rfl rfl ⟨rfl, rfl, by decide⟩ rfl rfl (Nat.le_of_ble_eq_true rfl) dX0_findMove_22 (fun v w hq => ?_)
        obtain ⟨rfl, rfl⟩ := hq
        refine j_ws [0, 3, 4, 1, 2, 5, 6, 7] (ws' := [(ah, .inr (0, [.int ms, .int mc3, .int mr3, .ref ag, .ref ar, .ref ur, .int un])), (ag, .inr (1, [.int (nI W), .int (nI H), .int (t3 + (nI 2)), .ref ab])), (ab, ia G 16 (goF W H p q t3 (nI 2) f3)), (g, .inr (1, [.int (nI W), .int (nI H), .int t, .ref b])), (b, ia G 16 f), (ru, .inr (3, [.ref rn, .ref rf])), (rn, ia G 16 (fun ι => nI (p ι))), (rf, ia G 16 (fun ι => nI (q ι)))]) rfl rfl ?_
        have hgn : goF W H p q t3 (nI 2) f3 = gF W H p t n f := by rw [h3, ht3, goF_on (by omega), show n - 2 + 2 = n from by omega]
        refine j_aload_n (pc := 25) hX dX0_findMove_25 0 rfl ?_
        refine j_aload_n (pc := 26) hX dX0_findMove_26 1 rfl ?_
        refine j_callV (pc := 27) hX kX0_isMoved kVX0_isMoved l_RX0_58 (fun l => c_X0_isMoved G ah ms mc3 mr3 ag ar ur un W H (t3 + (nI 2)) ab (goF W H p q t3 (nI 2) f3) g t b f (by omega) (by omega) (by omega) (by omega) (by omega) (by omega) l) [0, 1, 2, 3, 4] [5, 6, 7] [] rfl 0 0 rfl rfl rfl rfl rfl rfl ⟨rfl, rfl, by decide⟩ rfl rfl (Nat.le_of_ble_eq_true rfl) dX0_findMove_27 (fun v w hq => ?_)
        obtain ⟨mc2_27, mr2_27, rfl, rfl, h27_0⟩ := hq
        refine j_ws [3, 4, 5, 6, 7, 0, 1, 2] (ws' := [(ah, .inr (0, [.int ms, .int mc2_27, .int mr2_27, .ref ag, .ref ar, .ref ur, .int un])), (ag, .inr (1, [.int (nI W), .int (nI H), .int (t3 + (nI 2)), .ref ab])), (ab, ia G 16 (goF W H p q t3 (nI 2) f3)), (g, .inr (1, [.int (nI W), .int (nI H), .int t, .ref b])), (b, ia G 16 f), (ru, .inr (3, [.ref rn, .ref rf])), (rn, ia G 16 (fun ι => nI (p ι))), (rf, ia G 16 (fun ι => nI (q ι)))]) rfl rfl ?_
        refine j_ifB_eq (pc := 30) (tgt := 40) hX dX0_findMove_30 (by decide) (fun c30 => ?_) (fun c30 => ?_)
        · skip
          refine j_iinc (pc := 40) (q := 3) (v := nI (n + 2)) (lv' := [(3, .int (nI (n + 2))), (0, .ref ah), (1, .ref g), (2, .ref ru)]) hX dX0_findMove_40 rfl (nI_inc _ 2) (by decide) rfl ?_
          refine j_goto (pc := 43) (tgt := 10) hX dX0_findMove_43 (by decide) ?_
          refine j_lv [1, 2, 3, 0] (lv' := [(0, .ref ah), (1, .ref g), (2, .ref ru), (3, .int (nI (n + 2)))]) rfl ?_
          exact ih10 (n + 2) (c - 1) mc2_27 mr2_27 (t3 + (nI 2)) (goF W H p q t3 (nI 2) f3) (by omega) (by rw [ht3, Int32.add_assoc, nI_add]; congr 2; omega) (by rw [h3, ht3, goF_on (by omega), show n - 2 + 2 = n + 2 - 2 from by omega]) (by rw [hag, fst2_n (P := fun n => mvAt W H p t f n) (by omega) (by unfold mvAt; rw [← hgn, Option.isSome_eq_false_iff.mp c30 |> Option.isNone_iff_eq_none.mp]; rfl)]) (by omega)
        · skip
          refine j_aload_n (pc := 33) hX dX0_findMove_33 0 rfl ?_
          refine j_iload_n (pc := 34) hX dX0_findMove_34 3 rfl ?_
          refine j_put (pc := 35) (ws' := [(ah, .inr (0, [.int (nI n), .int mc2_27, .int mr2_27, .ref ag, .ref ar, .ref ur, .int un])), (ag, .inr (1, [.int (nI W), .int (nI H), .int (t3 + (nI 2)), .ref ab])), (ab, ia G 16 (goF W H p q t3 (nI 2) f3)), (g, .inr (1, [.int (nI W), .int (nI H), .int t, .ref b])), (b, ia G 16 f), (ru, .inr (3, [.ref rn, .ref rf])), (rn, ia G 16 (fun ι => nI (p ι))), (rf, ia G 16 (fun ι => nI (q ι)))]) hX f_RX0_9 0 rfl rfl rfl (Nat.le_of_ble_eq_true rfl) rfl dX0_findMove_35 ?_
          refine j_iconstN (pc := 38) (j := 1) hX dX0_findMove_38 rfl ?_
          obtain ⟨⟨dx, dy⟩, hd⟩ := Option.isSome_iff_exists.mp c30
          have hres : mvS W H p t f = some (n, dx, dy) := by rw [hag, fst2_s (P := fun n => mvAt W H p t f n) (by omega) (by unfold mvAt; rw [← hgn, hd]; rfl)]
          exact j_zret (pc := 39) hX hR (by decide) dX0_findMove_39 ⟨(nI n), mc2_27, mr2_27, W, H, (t3 + (nI 2)), (goF W H p q t3 (nI 2) f3), congrArg some (show Value.int (nI 1) = Value.int (bI ((mvS W H p t f).isSome)) from bI_tt (by rw [hres]; rfl)), rfl, fun x y z e => by rw [hres] at e; cases e; exact ⟨rfl, h27_0 _ _ hd⟩⟩
  refine j_lv [1, 2, 3, 0] (lv' := [(0, .ref ah), (1, .ref g), (2, .ref ru), (3, .int (nI 2))]) rfl ?_
  exact L10 (32 + 1) 2 32 mc mr t f (by omega) (add0 t) (rfl) (rfl) (Nat.lt_succ_self _)
set_option maxHeartbeats 4000000 in
set_option maxRecDepth 100000 in
theorem c_X0_isKeptAs (G : GT) (ah : Nat) (ms : Int32) (mc : Int32) (mr : Int32) (ag : Nat) (ar : Nat) (ur : Nat) (u : Nat) (aW : Nat) (aH : Nat) (at_ : Int32) (ab : Nat) (af : Nat → Int32) (uf : Nat → Int32) (j : Nat) (K : Nat → Nat → Int32) (hu : u ≤ 65) (hj : j < u) (hH : aH ≤ 16) (hk : holds aH u K uf) (l : Launch) : CT l G yX0_isKeptAs cX0_isKeptAs 3 (some .boolean) { frames := 2, cells := 0, slots := 0, locals := 42 } [.ref ah, .int (nI j)] [(ah, .inr (0, [.int ms, .int mc, .int mr, .ref ag, .ref ar, .ref ur, .int (nI u)])), (ag, .inr (1, [.int (nI aW), .int (nI aH), .int at_, .ref ab])), (ab, ia G 16 af), (ur, ia G 1040 uf)] (fun vv ww => vv = some (.int (bI (allB aH (fun y => decide (K j y = af y))))) ∧ ww = [(ah, .inr (0, [.int ms, .int mc, .int mr, .ref ag, .ref ar, .ref ur, .int (nI u)])), (ag, .inr (1, [.int (nI aW), .int (nI aH), .int at_, .ref ab])), (ab, ia G 16 af), (ur, ia G 1040 uf)]) := by
  refine CT.of (lv := [(0, .ref ah), (1, .int (nI j))]) RX0 "isKeptAs" rfl rfl (by decide +kernel) (Nat.le_of_ble_eq_true rfl) rfl (fun X hX hR => ?_)
  refine j_iconstN (pc := 0) (j := 0) hX dX0_isKeptAs_0 rfl ?_
  refine j_istore_n (pc := 1) (lv' := [(2, .int (nI 0)), (0, .ref ah), (1, .int (nI j))]) hX dX0_isKeptAs_1 (by decide) rfl ?_
  have L2 : ∀ (m2 : Nat) (y : Nat) (hy : y ≤ aH) (hall : ∀ z, z < y → K j z = af z), aH - y < m2 → J X G 3 0 0 [(ah, .inr (0, [.int ms, .int mc, .int mr, .ref ag, .ref ar, .ref ur, .int (nI u)])), (ag, .inr (1, [.int (nI aW), .int (nI aH), .int at_, .ref ab])), (ab, ia G 16 af), (ur, ia G 1040 uf)] [(0, .ref ah), (1, .int (nI j)), (2, .int (nI y))] 2 [] := by
    intro m2
    induction m2 with
    | zero => intro y hy hall hm2; exact absurd hm2 (Nat.not_lt_zero _)
    | succ m2 ih2 =>
      intro y hy hall hm2
      refine j_iload_n (pc := 2) hX dX0_isKeptAs_2 2 rfl ?_
      refine j_aload_n (pc := 3) hX dX0_isKeptAs_3 0 rfl ?_
      refine j_get (pc := 4) hX f_RX0_24 0 rfl rfl dX0_isKeptAs_4 ?_
      refine j_get (pc := 7) hX f_RX0_61 1 rfl rfl dX0_isKeptAs_7 ?_
      refine j_icmp_ge (pc := 10) (tgt := 45) hX dX0_isKeptAs_10 (by decide) (nI_toInt (n := y) (by omega)) (nI_toInt (n := aH) (by omega)) (fun c10 => ?_) (fun c10 => ?_)
      · skip
        refine j_iconstN (pc := 45) (j := 1) hX dX0_isKeptAs_45 rfl ?_
        exact j_zret (pc := 46) hX hR (by decide) dX0_isKeptAs_46 ⟨congrArg some (show Value.int (nI 1) = Value.int (bI (allB aH (fun y => decide (K j y = af y)))) from bI_tt (allB_t (fun z hz => decide_eq_true (hall z (by omega))))), rfl⟩
      · skip
        refine j_aload_n (pc := 13) hX dX0_isKeptAs_13 0 rfl ?_
        refine j_get (pc := 14) hX f_RX0_35 0 rfl rfl dX0_isKeptAs_14 ?_
        refine j_iload_n (pc := 17) hX dX0_isKeptAs_17 1 rfl ?_
        refine j_bipush (pc := 18) (v := nI 16) hX dX0_isKeptAs_18 (by decide) ?_
        refine j_imul (pc := 20) hX dX0_isKeptAs_20 ?_
        refine j_topi (y := nI (j * 16)) (pk_mul _ _) ?_
        refine j_iload_n (pc := 21) hX dX0_isKeptAs_21 2 rfl ?_
        refine j_iadd (pc := 22) hX dX0_isKeptAs_22 ?_
        refine j_topi (y := nI (j * 16 + y)) (nI_add _ _) ?_
        refine j_callSN (pc := 23) hX kX8_at kSX8_at l_RX0_86 (fun l => c_X8_at G ur 1040 uf (j * 16 + y) (by omega) (by omega) l) [3] [0, 1, 2] [] rfl rfl rfl rfl ⟨rfl, rfl, by decide⟩ rfl rfl (Nat.le_of_ble_eq_true rfl) dX0_isKeptAs_23 (fun v w hq => ?_)
        obtain ⟨rfl, rfl⟩ := hq
        refine j_ws [0, 1, 2, 3] (ws' := [(ah, .inr (0, [.int ms, .int mc, .int mr, .ref ag, .ref ar, .ref ur, .int (nI u)])), (ag, .inr (1, [.int (nI aW), .int (nI aH), .int at_, .ref ab])), (ab, ia G 16 af), (ur, ia G 1040 uf)]) rfl rfl ?_
        refine j_aload_n (pc := 26) hX dX0_isKeptAs_26 0 rfl ?_
        refine j_get (pc := 27) hX f_RX0_24 0 rfl rfl dX0_isKeptAs_27 ?_
        refine j_iload_n (pc := 30) hX dX0_isKeptAs_30 2 rfl ?_
        refine j_callV (pc := 31) hX kX1_rowAt kVX1_rowAt l_RX0_78 (fun l => c_X1_rowAt_any G ag aW aH at_ ab af y (by omega) l) [1, 2] [0, 3] [.int (uf (j * 16 + y))] rfl 0 1 rfl rfl rfl rfl rfl rfl ⟨rfl, rfl, by decide⟩ rfl rfl (Nat.le_of_ble_eq_true rfl) dX0_isKeptAs_31 (fun v w hq => ?_)
        obtain ⟨rfl, rfl⟩ := hq
        refine j_ws [0, 2, 3, 1] (ws' := [(ah, .inr (0, [.int ms, .int mc, .int mr, .ref ag, .ref ar, .ref ur, .int (nI u)])), (ag, .inr (1, [.int (nI aW), .int (nI aH), .int at_, .ref ab])), (ab, ia G 16 af), (ur, ia G 1040 uf)]) rfl rfl ?_
        refine j_icmp_eq (pc := 34) (tgt := 39) hX dX0_isKeptAs_34 (by decide) rfl rfl (fun c34 => ?_) (fun c34 => ?_)
        · skip
          refine j_iinc (pc := 39) (q := 2) (v := nI (y + 1)) (lv' := [(2, .int (nI (y + 1))), (0, .ref ah), (1, .int (nI j))]) hX dX0_isKeptAs_39 rfl (nI_inc _ 1) (by decide) rfl ?_
          refine j_goto (pc := 42) (tgt := 2) hX dX0_isKeptAs_42 (by decide) ?_
          refine j_lv [1, 2, 0] (lv' := [(0, .ref ah), (1, .int (nI j)), (2, .int (nI (y + 1)))]) rfl ?_
          exact ih2 (y + 1) (by omega) (lt_s hall (by rw [← hk j hj y (by omega), show 16 * j + y = j * 16 + y from by omega]; exact Int32.toInt_inj.mp c34)) (by omega)
        · skip
          refine j_iconstN (pc := 37) (j := 0) hX dX0_isKeptAs_37 rfl ?_
          exact j_zret (pc := 38) hX hR (by decide) dX0_isKeptAs_38 ⟨congrArg some (show Value.int (nI 0) = Value.int (bI (allB aH (fun y => decide (K j y = af y)))) from bI_ff (allB_f (z := y) (by omega) (decide_eq_false (fun h => c34 (by rw [← h, ← hk j hj y (by omega), show 16 * j + y = j * 16 + y from by omega]))))), rfl⟩
  refine j_lv [1, 2, 0] (lv' := [(0, .ref ah), (1, .int (nI j)), (2, .int (nI 0))]) rfl ?_
  exact L2 ((aH - 0) + 1) 0 (by omega) (fun z hz => absurd hz (Nat.not_lt_zero _)) (Nat.lt_succ_self _)
set_option maxHeartbeats 4000000 in
set_option maxRecDepth 100000 in
theorem c_X0_keepIfUnlike (G : GT) (ah : Nat) (ms : Int32) (mc : Int32) (mr : Int32) (ag : Nat) (ar : Nat) (ur : Nat) (u : Nat) (aW : Nat) (aH : Nat) (at_ : Int32) (ab : Nat) (af : Nat → Int32) (uf : Nat → Int32) (K : Nat → Nat → Int32) (hu : u < 65) (hH : aH ≤ 16) (hk : holds aH u K uf) (l : Launch) : CT l G yX0_keepIfUnlike cX0_keepIfUnlike 2 none { frames := 3, cells := 0, slots := 0, locals := 64 } [.ref ah] [(ah, .inr (0, [.int ms, .int mc, .int mr, .ref ag, .ref ar, .ref ur, .int (nI u)])), (ag, .inr (1, [.int (nI aW), .int (nI aH), .int at_, .ref ab])), (ab, ia G 16 af), (ur, ia G 1040 uf)] (fun vv ww => ∃ (uf2 : Nat → Int32), vv = none ∧ ww = [(ah, .inr (0, [.int ms, .int mc, .int mr, .ref ag, .ref ar, .ref ur, .int (nI ((keep aH (u, K) af).1))])), (ag, .inr (1, [.int (nI aW), .int (nI aH), .int at_, .ref ab])), (ab, ia G 16 af), (ur, ia G 1040 uf2)] ∧ (holds aH (keep aH (u, K) af).1 (keep aH (u, K) af).2 uf2)) := by
  refine CT.of (lv := [(0, .ref ah)]) RX0 "keepIfUnlike" rfl rfl (by decide +kernel) (Nat.le_of_ble_eq_true rfl) rfl (fun X hX hR => ?_)
  refine j_iconstN (pc := 0) (j := 0) hX dX0_keepIfUnlike_0 rfl ?_
  refine j_istore_n (pc := 1) (lv' := [(1, .int (nI 0)), (0, .ref ah)]) hX dX0_keepIfUnlike_1 (by decide) rfl ?_
  have L2 : ∀ (m2 : Nat) (j : Nat) (hj : j ≤ u) (hno : ∀ z, z < j → allB aH (fun y => decide (K z y = af y)) = false), u - j < m2 → J X G 2 0 0 [(ah, .inr (0, [.int ms, .int mc, .int mr, .ref ag, .ref ar, .ref ur, .int (nI u)])), (ag, .inr (1, [.int (nI aW), .int (nI aH), .int at_, .ref ab])), (ab, ia G 16 af), (ur, ia G 1040 uf)] [(0, .ref ah), (1, .int (nI j))] 2 [] := by
    intro m2
    induction m2 with
    | zero => intro j hj hno hm2; exact absurd hm2 (Nat.not_lt_zero _)
    | succ m2 ih2 =>
      intro j hj hno hm2
      refine j_iload_n (pc := 2) hX dX0_keepIfUnlike_2 1 rfl ?_
      refine j_aload_n (pc := 3) hX dX0_keepIfUnlike_3 0 rfl ?_
      refine j_get (pc := 4) hX f_RX0_39 0 rfl rfl dX0_keepIfUnlike_4 ?_
      refine j_icmp_ge (pc := 7) (tgt := 25) hX dX0_keepIfUnlike_7 (by decide) (nI_toInt (n := j) (by omega)) (nI_toInt (n := u) (by omega)) (fun c7 => ?_) (fun c7 => ?_)
      · skip
        refine j_iconstN (pc := 25) (j := 0) hX dX0_keepIfUnlike_25 rfl ?_
        refine j_istore_n (pc := 26) (lv' := [(1, .int (nI 0)), (0, .ref ah)]) hX dX0_keepIfUnlike_26 (by decide) rfl ?_
        have L27 : ∀ (m27 : Nat) (y : Nat) (uf3 : Nat → Int32) (hy : y ≤ aH) (hA : ∀ z, z < 16 * u → uf3 z = uf z) (hB : ∀ z, z < y → uf3 (16 * u + z) = af z), aH - y < m27 → J X G 2 0 0 [(ah, .inr (0, [.int ms, .int mc, .int mr, .ref ag, .ref ar, .ref ur, .int (nI u)])), (ag, .inr (1, [.int (nI aW), .int (nI aH), .int at_, .ref ab])), (ab, ia G 16 af), (ur, ia G 1040 uf3)] [(0, .ref ah), (1, .int (nI y))] 27 [] := by
          intro m27
          induction m27 with
          | zero => intro y uf3 hy hA hB hm27; exact absurd hm27 (Nat.not_lt_zero _)
          | succ m27 ih27 =>
            intro y uf3 hy hA hB hm27
            refine j_iload_n (pc := 27) hX dX0_keepIfUnlike_27 1 rfl ?_
            refine j_aload_n (pc := 28) hX dX0_keepIfUnlike_28 0 rfl ?_
            refine j_get (pc := 29) hX f_RX0_24 0 rfl rfl dX0_keepIfUnlike_29 ?_
            refine j_get (pc := 32) hX f_RX0_61 1 rfl rfl dX0_keepIfUnlike_32 ?_
            refine j_icmp_ge (pc := 35) (tgt := 68) hX dX0_keepIfUnlike_35 (by decide) (nI_toInt (n := y) (by omega)) (nI_toInt (n := aH) (by omega)) (fun c35 => ?_) (fun c35 => ?_)
            · skip
              refine j_aload_n (pc := 68) hX dX0_keepIfUnlike_68 0 rfl ?_
              refine j_dup (pc := 69) hX dX0_keepIfUnlike_69 rfl ?_
              refine j_get (pc := 70) hX f_RX0_39 0 rfl rfl dX0_keepIfUnlike_70 ?_
              refine j_iconstN (pc := 73) (j := 1) hX dX0_keepIfUnlike_73 rfl ?_
              refine j_iadd (pc := 74) hX dX0_keepIfUnlike_74 ?_
              refine j_topi (y := nI (u + 1)) (nI_add _ _) ?_
              refine j_put (pc := 75) (ws' := [(ah, .inr (0, [.int ms, .int mc, .int mr, .ref ag, .ref ar, .ref ur, .int (nI (u + 1))])), (ag, .inr (1, [.int (nI aW), .int (nI aH), .int at_, .ref ab])), (ab, ia G 16 af), (ur, ia G 1040 uf3)]) hX f_RX0_39 0 rfl rfl rfl (Nat.le_of_ble_eq_true rfl) rfl dX0_keepIfUnlike_75 ?_
              have hke : keep aH (u, K) af = (u + 1, fun z => if z = u then af else K z) := by unfold keep; rw [if_neg (by rw [anyB_f (fun z hz => hno z (by omega))]; exact Bool.false_ne_true)]
              refine j_eqw (ws' := [(ah, .inr (0, [.int ms, .int mc, .int mr, .ref ag, .ref ar, .ref ur, .int (nI ((keep aH (u, K) af).1))])), (ag, .inr (1, [.int (nI aW), .int (nI aH), .int at_, .ref ab])), (ab, ia G 16 af), (ur, ia G 1040 uf3)]) (congrArg (fun ζ : Int32 => ([(ah, .inr (0, [.int ms, .int mc, .int mr, .ref ag, .ref ar, .ref ur, .int ζ])), (ag, .inr (1, [.int (nI aW), .int (nI aH), .int at_, .ref ab])), (ab, ia G 16 af), (ur, ia G 1040 uf3)] : va_W)) (show nI (u + 1) = nI ((keep aH (u, K) af).1) from by rw [hke])) ?_
              exact j_vret (pc := 78) hX hR dX0_keepIfUnlike_78 ⟨uf3, rfl, rfl, by rw [hke]; exact holds_add hH hk hA (fun z hz => hB z (by omega))⟩
            · skip
              refine j_aload_n (pc := 38) hX dX0_keepIfUnlike_38 0 rfl ?_
              refine j_get (pc := 39) hX f_RX0_35 0 rfl rfl dX0_keepIfUnlike_39 ?_
              refine j_aload_n (pc := 42) hX dX0_keepIfUnlike_42 0 rfl ?_
              refine j_get (pc := 43) hX f_RX0_39 0 rfl rfl dX0_keepIfUnlike_43 ?_
              refine j_bipush (pc := 46) (v := nI 16) hX dX0_keepIfUnlike_46 (by decide) ?_
              refine j_imul (pc := 48) hX dX0_keepIfUnlike_48 ?_
              refine j_topi (y := nI (u * 16)) (pk_mul _ _) ?_
              refine j_iload_n (pc := 49) hX dX0_keepIfUnlike_49 1 rfl ?_
              refine j_iadd (pc := 50) hX dX0_keepIfUnlike_50 ?_
              refine j_topi (y := nI (u * 16 + y)) (nI_add _ _) ?_
              refine j_aload_n (pc := 51) hX dX0_keepIfUnlike_51 0 rfl ?_
              refine j_get (pc := 52) hX f_RX0_24 0 rfl rfl dX0_keepIfUnlike_52 ?_
              refine j_iload_n (pc := 55) hX dX0_keepIfUnlike_55 1 rfl ?_
              refine j_callV (pc := 56) hX kX1_rowAt kVX1_rowAt l_RX0_78 (fun l => c_X1_rowAt_any G ag aW aH at_ ab af y (by omega) l) [1, 2] [0, 3] [.int (nI (u * 16 + y)), .ref ur] rfl 0 1 rfl rfl rfl rfl rfl rfl ⟨rfl, rfl, by decide⟩ rfl rfl (Nat.le_of_ble_eq_true rfl) dX0_keepIfUnlike_56 (fun v w hq => ?_)
              obtain ⟨rfl, rfl⟩ := hq
              refine j_ws [0, 2, 3, 1] (ws' := [(ah, .inr (0, [.int ms, .int mc, .int mr, .ref ag, .ref ar, .ref ur, .int (nI u)])), (ag, .inr (1, [.int (nI aW), .int (nI aH), .int at_, .ref ab])), (ab, ia G 16 af), (ur, ia G 1040 uf3)]) rfl rfl ?_
              refine j_callSN (pc := 59) hX kX8_put kSX8_put l_RX0_82 (fun l => c_X8_put G ur 1040 uf3 (u * 16 + y) (af y) (by omega) (by omega) l) [3] [0, 1, 2] [] rfl rfl rfl rfl ⟨rfl, rfl, by decide⟩ rfl rfl (Nat.le_of_ble_eq_true rfl) dX0_keepIfUnlike_59 (fun v w hq => ?_)
              obtain ⟨rfl, rfl⟩ := hq
              refine j_ws [0, 1, 2, 3] (ws' := [(ah, .inr (0, [.int ms, .int mc, .int mr, .ref ag, .ref ar, .ref ur, .int (nI u)])), (ag, .inr (1, [.int (nI aW), .int (nI aH), .int at_, .ref ab])), (ab, ia G 16 af), (ur, ia G 1040 (upd uf3 (u * 16 + y) (af y)))]) rfl rfl ?_
              refine j_iinc (pc := 62) (q := 1) (v := nI (y + 1)) (lv' := [(1, .int (nI (y + 1))), (0, .ref ah)]) hX dX0_keepIfUnlike_62 rfl (nI_inc _ 1) (by decide) rfl ?_
              refine j_goto (pc := 65) (tgt := 27) hX dX0_keepIfUnlike_65 (by decide) ?_
              refine j_lv [1, 0] (lv' := [(0, .ref ah), (1, .int (nI (y + 1)))]) rfl ?_
              exact ih27 (y + 1) (upd uf3 (u * 16 + y) (af y)) (by omega) (fun z hz => by unfold upd; rw [if_neg (by omega)]; exact hA z hz) (fun z hz => by unfold upd; split; (rw [show z = y from by omega]); exact hB z (by omega)) (by omega)
        refine j_lv [1, 0] (lv' := [(0, .ref ah), (1, .int (nI 0))]) rfl ?_
        exact L27 ((aH - 0) + 1) 0 uf (by omega) (fun _ _ => rfl) (fun z hz => absurd hz (Nat.not_lt_zero _)) (Nat.lt_succ_self _)
      · skip
        refine j_aload_n (pc := 10) hX dX0_keepIfUnlike_10 0 rfl ?_
        refine j_iload_n (pc := 11) hX dX0_keepIfUnlike_11 1 rfl ?_
        refine j_callV (pc := 12) hX kX0_isKeptAs kVX0_isKeptAs l_RX0_74 (fun l => c_X0_isKeptAs G ah ms mc mr ag ar ur u aW aH at_ ab af uf j K (by omega) (by omega) (by omega) (by assumption) l) [0, 1, 2, 3] [] [] rfl 0 0 rfl rfl rfl rfl rfl rfl ⟨rfl, rfl, by decide⟩ rfl rfl (Nat.le_of_ble_eq_true rfl) dX0_keepIfUnlike_12 (fun v w hq => ?_)
        obtain ⟨rfl, rfl⟩ := hq
        refine j_ws [0, 1, 2, 3] (ws' := [(ah, .inr (0, [.int ms, .int mc, .int mr, .ref ag, .ref ar, .ref ur, .int (nI u)])), (ag, .inr (1, [.int (nI aW), .int (nI aH), .int at_, .ref ab])), (ab, ia G 16 af), (ur, ia G 1040 uf)]) rfl rfl ?_
        refine j_ifB_eq (pc := 15) (tgt := 19) hX dX0_keepIfUnlike_15 (by decide) (fun c15 => ?_) (fun c15 => ?_)
        · skip
          refine j_iinc (pc := 19) (q := 1) (v := nI (j + 1)) (lv' := [(1, .int (nI (j + 1))), (0, .ref ah)]) hX dX0_keepIfUnlike_19 rfl (nI_inc _ 1) (by decide) rfl ?_
          refine j_goto (pc := 22) (tgt := 2) hX dX0_keepIfUnlike_22 (by decide) ?_
          refine j_lv [1, 0] (lv' := [(0, .ref ah), (1, .int (nI (j + 1)))]) rfl ?_
          exact ih2 (j + 1) (by omega) (lt_s hno c15) (by omega)
        · skip
          have hke : keep aH (u, K) af = (u, K) := by unfold keep; rw [if_pos (anyB_t (z := j) (by omega) c15)]
          refine j_eqw (ws' := [(ah, .inr (0, [.int ms, .int mc, .int mr, .ref ag, .ref ar, .ref ur, .int (nI ((keep aH (u, K) af).1))])), (ag, .inr (1, [.int (nI aW), .int (nI aH), .int at_, .ref ab])), (ab, ia G 16 af), (ur, ia G 1040 uf)]) (congrArg (fun ζ : Int32 => ([(ah, .inr (0, [.int ms, .int mc, .int mr, .ref ag, .ref ar, .ref ur, .int ζ])), (ag, .inr (1, [.int (nI aW), .int (nI aH), .int at_, .ref ab])), (ab, ia G 16 af), (ur, ia G 1040 uf)] : va_W)) (show nI u = nI ((keep aH (u, K) af).1) from by rw [hke])) ?_
          exact j_vret (pc := 18) hX hR dX0_keepIfUnlike_18 ⟨uf, rfl, rfl, by rw [hke]; exact hk⟩
  refine j_lv [1, 0] (lv' := [(0, .ref ah), (1, .int (nI 0))]) rfl ?_
  exact L2 ((u - 0) + 1) 0 (by omega) (fun z hz => absurd hz (Nat.not_lt_zero _)) (Nat.lt_succ_self _)
set_option maxHeartbeats 4000000 in
set_option maxRecDepth 100000 in
theorem c_X0_unlikeGrids (G : GT) (ah : Nat) (ms : Int32) (mc : Int32) (mr : Int32) (ag : Nat) (ar : Nat) (ur : Nat) (un : Int32) (aW : Nat) (aH : Nat) (at_ : Int32) (ab : Nat) (af : Nat → Int32) (uf : Nat → Int32) (g : Nat) (W : Nat) (H : Nat) (t : Int32) (b : Nat) (f : Nat → Int32) (ru : Nat) (rn : Nat) (rf : Nat) (p : Nat → Nat) (q : Nat → Nat) (n : Nat) (hW1 : 2 ≤ W) (hW2 : W ≤ 16) (hH1 : 2 ≤ H) (hH2 : H ≤ 16) (hW3 : W % 2 = 0) (hH3 : H % 2 = 0) (hn : n ≤ 64) (l : Launch) : CT l G yX0_unlikeGrids cX0_unlikeGrids 5 (some .int) { frames := 4, cells := 0, slots := 0, locals := 97 } [.ref ah, .ref g, .ref ru, .int (nI n)] [(ah, .inr (0, [.int ms, .int mc, .int mr, .ref ag, .ref ar, .ref ur, .int un])), (ag, .inr (1, [.int (nI aW), .int (nI aH), .int at_, .ref ab])), (ab, ia G 16 af), (ur, ia G 1040 uf), (g, .inr (1, [.int (nI W), .int (nI H), .int t, .ref b])), (b, ia G 16 f), (ru, .inr (3, [.ref rn, .ref rf])), (rn, ia G 16 (fun ι => nI (p ι))), (rf, ia G 16 (fun ι => nI (q ι)))] (fun vv ww => ∃ (un2 : Int32) (aW2 aH2 : Nat) (at2 : Int32) (af2 uf2 : Nat → Int32), vv = some (.int (nI ((unS H (fun j => gF W H p t j f) n).1))) ∧ ww = [(ah, .inr (0, [.int ms, .int mc, .int mr, .ref ag, .ref ar, .ref ur, .int un2])), (ag, .inr (1, [.int (nI aW2), .int (nI aH2), .int at2, .ref ab])), (ab, ia G 16 af2), (ur, ia G 1040 uf2), (g, .inr (1, [.int (nI W), .int (nI H), .int t, .ref b])), (b, ia G 16 f), (ru, .inr (3, [.ref rn, .ref rf])), (rn, ia G 16 (fun ι => nI (p ι))), (rf, ia G 16 (fun ι => nI (q ι)))]) := by
  refine CT.of (lv := [(0, .ref ah), (1, .ref g), (2, .ref ru), (3, .int (nI n))]) RX0 "unlikeGrids" rfl rfl (by decide +kernel) (Nat.le_of_ble_eq_true rfl) rfl (fun X hX hR => ?_)
  refine j_aload_n (pc := 0) hX dX0_unlikeGrids_0 0 rfl ?_
  refine j_get (pc := 1) hX f_RX0_24 0 rfl rfl dX0_unlikeGrids_1 ?_
  refine j_aload_n (pc := 4) hX dX0_unlikeGrids_4 1 rfl ?_
  refine j_callV (pc := 5) hX kX1_copyOf kVX1_copyOf l_RX0_42 (fun l => c_X1_copyOf G ag aW aH at_ ab af g W H t b f  l) [1, 2, 4, 5] [0, 3, 6, 7, 8] [] rfl 0 1 rfl rfl rfl rfl rfl rfl ⟨rfl, rfl, by decide⟩ rfl rfl (Nat.le_of_ble_eq_true rfl) dX0_unlikeGrids_5 (fun v w hq => ?_)
  obtain ⟨rfl, rfl⟩ := hq
  refine j_ws [0, 5, 6, 1, 7, 8, 2, 3, 4] (ws' := [(ah, .inr (0, [.int ms, .int mc, .int mr, .ref ag, .ref ar, .ref ur, .int un])), (ag, .inr (1, [.int (nI W), .int (nI H), .int t, .ref ab])), (ab, ia G 16 f), (ur, ia G 1040 uf), (g, .inr (1, [.int (nI W), .int (nI H), .int t, .ref b])), (b, ia G 16 f), (ru, .inr (3, [.ref rn, .ref rf])), (rn, ia G 16 (fun ι => nI (p ι))), (rf, ia G 16 (fun ι => nI (q ι)))]) rfl rfl ?_
  refine j_aload_n (pc := 8) hX dX0_unlikeGrids_8 0 rfl ?_
  refine j_iconstN (pc := 9) (j := 0) hX dX0_unlikeGrids_9 rfl ?_
  refine j_put (pc := 10) (ws' := [(ah, .inr (0, [.int ms, .int mc, .int mr, .ref ag, .ref ar, .ref ur, .int (nI 0)])), (ag, .inr (1, [.int (nI W), .int (nI H), .int t, .ref ab])), (ab, ia G 16 f), (ur, ia G 1040 uf), (g, .inr (1, [.int (nI W), .int (nI H), .int t, .ref b])), (b, ia G 16 f), (ru, .inr (3, [.ref rn, .ref rf])), (rn, ia G 16 (fun ι => nI (p ι))), (rf, ia G 16 (fun ι => nI (q ι)))]) hX f_RX0_39 0 rfl rfl rfl (Nat.le_of_ble_eq_true rfl) rfl dX0_unlikeGrids_10 ?_
  refine j_aload_n (pc := 13) hX dX0_unlikeGrids_13 0 rfl ?_
  refine j_callV (pc := 14) hX kX0_keepIfUnlike kVX0_keepIfUnlike l_RX0_71 (fun l => c_X0_keepIfUnlike G ah ms mc mr ag ar ur 0 W H t ab f uf (fun _ _ => 0) (by omega) (by omega) (fun z hz => absurd hz (Nat.not_lt_zero _)) l) [0, 1, 2, 3] [4, 5, 6, 7, 8] [] rfl 0 0 rfl rfl rfl rfl rfl rfl ⟨rfl, rfl, by decide⟩ rfl rfl (Nat.le_of_ble_eq_true rfl) dX0_unlikeGrids_14 (fun v w hq => ?_)
  obtain ⟨uf2_14, rfl, rfl, h14_0⟩ := hq
  refine j_ws [5, 6, 7, 8, 0, 1, 2, 3, 4] (ws' := [(ah, .inr (0, [.int ms, .int mc, .int mr, .ref ag, .ref ar, .ref ur, .int (nI ((keep H (0, (fun _ _ => 0)) f).1))])), (ag, .inr (1, [.int (nI W), .int (nI H), .int t, .ref ab])), (ab, ia G 16 f), (ur, ia G 1040 uf2_14), (g, .inr (1, [.int (nI W), .int (nI H), .int t, .ref b])), (b, ia G 16 f), (ru, .inr (3, [.ref rn, .ref rf])), (rn, ia G 16 (fun ι => nI (p ι))), (rf, ia G 16 (fun ι => nI (q ι)))]) rfl rfl ?_
  refine j_iconstN (pc := 17) (j := 0) hX dX0_unlikeGrids_17 rfl ?_
  refine j_istore (pc := 18) (lv' := [(4, .int (nI 0)), (0, .ref ah), (1, .ref g), (2, .ref ru), (3, .int (nI n))]) hX dX0_unlikeGrids_18 (by decide) rfl ?_
  have L20 : ∀ (m20 : Nat) (i : Nat) (u : Nat) (uf3 : Nat → Int32) (t3 : Int32) (f3 : Nat → Int32) (hi : i ≤ n) (ht3 : t3 = t + nI i) (h3 : f3 = gF W H p t i f) (hu : u = (unS H (fun j => gF W H p t j f) i).1) (hh : holds H u (unS H (fun j => gF W H p t j f) i).2 uf3), n - i < m20 → J X G 5 0 0 [(ah, .inr (0, [.int ms, .int mc, .int mr, .ref ag, .ref ar, .ref ur, .int (nI u)])), (ag, .inr (1, [.int (nI W), .int (nI H), .int t3, .ref ab])), (ab, ia G 16 f3), (ur, ia G 1040 uf3), (g, .inr (1, [.int (nI W), .int (nI H), .int t, .ref b])), (b, ia G 16 f), (ru, .inr (3, [.ref rn, .ref rf])), (rn, ia G 16 (fun ι => nI (p ι))), (rf, ia G 16 (fun ι => nI (q ι)))] [(0, .ref ah), (1, .ref g), (2, .ref ru), (3, .int (nI n)), (4, .int (nI i))] 20 [] := by
    intro m20
    induction m20 with
    | zero => intro i u uf3 t3 f3 hi ht3 h3 hu hh hm20; exact absurd hm20 (Nat.not_lt_zero _)
    | succ m20 ih20 =>
      intro i u uf3 t3 f3 hi ht3 h3 hu hh hm20
      refine j_iload (pc := 20) hX dX0_unlikeGrids_20 4 rfl ?_
      refine j_iload_n (pc := 22) hX dX0_unlikeGrids_22 3 rfl ?_
      refine j_icmp_ge (pc := 23) (tgt := 45) hX dX0_unlikeGrids_23 (by decide) (nI_toInt (n := i) (by omega)) (nI_toInt (n := n) (by omega)) (fun c23 => ?_) (fun c23 => ?_)
      · skip
        refine j_aload_n (pc := 45) hX dX0_unlikeGrids_45 0 rfl ?_
        refine j_get (pc := 46) hX f_RX0_39 0 rfl rfl dX0_unlikeGrids_46 ?_
        exact j_iret (pc := 49) hX hR dX0_unlikeGrids_49 ⟨(nI u), W, H, t3, f3, uf3, congrArg some (show Value.int (nI u) = Value.int (nI ((unS H (fun j => gF W H p t j f) n).1)) from by rw [hu, show i = n from by omega]), rfl⟩
      · skip
        have hul : u ≤ i + 1 := by rw [hu]; exact unS_le _ _ _
        refine j_aload_n (pc := 26) hX dX0_unlikeGrids_26 0 rfl ?_
        refine j_get (pc := 27) hX f_RX0_24 0 rfl rfl dX0_unlikeGrids_27 ?_
        refine j_iconstN (pc := 30) (j := 1) hX dX0_unlikeGrids_30 rfl ?_
        refine j_aload_n (pc := 31) hX dX0_unlikeGrids_31 2 rfl ?_
        refine j_callV (pc := 32) hX kX1_go kVX1_go l_RX0_46 (fun l => c_X1_go G ag W H t3 ab f3 (nI 1) ru rn rf p q (by omega) (by omega) (by omega) (by omega) (by omega) (by omega) (by first | omega | (rw [nI_toInt (by omega)]; omega)) l) [1, 2, 6, 7, 8] [0, 3, 4, 5] [] rfl 0 1 rfl rfl rfl rfl rfl rfl ⟨rfl, rfl, by decide⟩ rfl rfl (Nat.le_of_ble_eq_true rfl) dX0_unlikeGrids_32 (fun v w hq => ?_)
        obtain ⟨rfl, rfl⟩ := hq
        refine j_ws [0, 4, 5, 1, 2, 3, 6, 7, 8] (ws' := [(ah, .inr (0, [.int ms, .int mc, .int mr, .ref ag, .ref ar, .ref ur, .int (nI u)])), (ag, .inr (1, [.int (nI W), .int (nI H), .int (t3 + (nI 1)), .ref ab])), (ab, ia G 16 (goF W H p q t3 (nI 1) f3)), (ur, ia G 1040 uf3), (g, .inr (1, [.int (nI W), .int (nI H), .int t, .ref b])), (b, ia G 16 f), (ru, .inr (3, [.ref rn, .ref rf])), (rn, ia G 16 (fun ι => nI (p ι))), (rf, ia G 16 (fun ι => nI (q ι)))]) rfl rfl ?_
        have hg3 : goF W H p q t3 (nI 1) f3 = gF W H p t (i + 1) f := by rw [h3, ht3, goF_on (by omega)]
        refine j_aload_n (pc := 35) hX dX0_unlikeGrids_35 0 rfl ?_
        refine j_callV (pc := 36) hX kX0_keepIfUnlike kVX0_keepIfUnlike l_RX0_71 (fun l => c_X0_keepIfUnlike G ah ms mc mr ag ar ur u W H (t3 + (nI 1)) ab (goF W H p q t3 (nI 1) f3) uf3 ((unS H (fun j => gF W H p t j f) i).2) (by omega) (by omega) (by assumption) l) [0, 1, 2, 3] [4, 5, 6, 7, 8] [] rfl 0 0 rfl rfl rfl rfl rfl rfl ⟨rfl, rfl, by decide⟩ rfl rfl (Nat.le_of_ble_eq_true rfl) dX0_unlikeGrids_36 (fun v w hq => ?_)
        obtain ⟨uf2_36, rfl, rfl, h36_0⟩ := hq
        refine j_ws [5, 6, 7, 8, 0, 1, 2, 3, 4] (ws' := [(ah, .inr (0, [.int ms, .int mc, .int mr, .ref ag, .ref ar, .ref ur, .int (nI ((keep H (u, ((unS H (fun j => gF W H p t j f) i).2)) (goF W H p q t3 (nI 1) f3)).1))])), (ag, .inr (1, [.int (nI W), .int (nI H), .int (t3 + (nI 1)), .ref ab])), (ab, ia G 16 (goF W H p q t3 (nI 1) f3)), (ur, ia G 1040 uf2_36), (g, .inr (1, [.int (nI W), .int (nI H), .int t, .ref b])), (b, ia G 16 f), (ru, .inr (3, [.ref rn, .ref rf])), (rn, ia G 16 (fun ι => nI (p ι))), (rf, ia G 16 (fun ι => nI (q ι)))]) rfl rfl ?_
        refine j_iinc (pc := 39) (q := 4) (v := nI (i + 1)) (lv' := [(4, .int (nI (i + 1))), (0, .ref ah), (1, .ref g), (2, .ref ru), (3, .int (nI n))]) hX dX0_unlikeGrids_39 rfl (nI_inc _ 1) (by decide) rfl ?_
        refine j_goto (pc := 42) (tgt := 20) hX dX0_unlikeGrids_42 (by decide) ?_
        refine j_lv [1, 2, 3, 4, 0] (lv' := [(0, .ref ah), (1, .ref g), (2, .ref ru), (3, .int (nI n)), (4, .int (nI (i + 1)))]) rfl ?_
        exact ih20 (i + 1) ((keep H (u, ((unS H (fun j => gF W H p t j f) i).2)) (goF W H p q t3 (nI 1) f3)).1) uf2_36 (t3 + (nI 1)) (goF W H p q t3 (nI 1) f3) (by omega) (by rw [ht3]; exact addS t i) (hg3) (by rw [hu, hg3]; rfl) (by have q := h36_0; rw [hu, hg3] at q ⊢; exact q) (by omega)
  refine j_lv [1, 2, 3, 4, 0] (lv' := [(0, .ref ah), (1, .ref g), (2, .ref ru), (3, .int (nI n)), (4, .int (nI 0))]) rfl ?_
  exact L20 ((n - 0) + 1) 0 ((keep H (0, (fun _ _ => 0)) f).1) uf2_14 t f (by omega) (add0 t) (rfl) (rfl) (h14_0) (Nat.lt_succ_self _)
set_option maxHeartbeats 4000000 in
set_option maxRecDepth 100000 in
theorem c_X0_isSeenBy (G : GT) (ah : Nat) (ms : Int32) (mc : Int32) (mr : Int32) (ag : Nat) (ar : Nat) (ur : Nat) (un : Int32) (aW : Nat) (aH : Nat) (at_ : Int32) (ab : Nat) (af : Nat → Int32) (arn : Nat) (arf : Nat) (ap : Nat → Nat) (aq : Nat → Nat) (nw : Nat) (g : Nat) (ru : Nat) (se : Nat) (ev : Nat) (W : Nat) (H : Nat) (t : Int32) (b : Nat) (f : Nat → Int32) (m : Nat) (sn : Nat) (s0 : Nat → Int32) (s1 : Nat → Nat) (s2 : Nat → Int32) (w : Nat) (hW1 : 2 ≤ W) (hW2 : W ≤ 16) (hH1 : 2 ≤ H) (hH2 : H ≤ 16) (hW3 : W % 2 = 0) (hH3 : H % 2 = 0) (hw : w < 5) (hm : m ≤ 5) (hs : ∀ i, i < m → (-12 ≤ (s0 i).toInt ∧ (s0 i).toInt ≤ 12) ∧ s1 i < 1600) (hap : ∀ s, s < 16 → ap s < 16) (l : Launch) : CT l G yX0_isSeenBy cX0_isSeenBy 5 (some .boolean) { frames := 5, cells := 0, slots := 0, locals := 121 } [.ref ah, .int (nI w), .ref nw] [(ah, .inr (0, [.int ms, .int mc, .int mr, .ref ag, .ref ar, .ref ur, .int un])), (ag, .inr (1, [.int (nI aW), .int (nI aH), .int at_, .ref ab])), (ab, ia G 16 af), (ar, .inr (3, [.ref arn, .ref arf])), (arn, ia G 16 (fun ι => nI (ap ι))), (arf, ia G 16 (fun ι => nI (aq ι))), (nw, .inr (7, [.ref g, .ref ru, .ref se, .ref ev])), (g, .inr (1, [.int (nI W), .int (nI H), .int t, .ref b])), (b, ia G 16 f), (se, .inr (4, [.int (nI m), .ref sn])), (sn, ia G (3 * 5) (tab s0 (fun ι => nI (s1 ι)) s2))] (fun vv ww => ∃ (aW2 aH2 : Nat) (at2 : Int32) (af2 : Nat → Int32), vv = some (.int (bI (seenB W H (wrd w) (wrdI w) t f m s0 s1 s2))) ∧ ww = [(ah, .inr (0, [.int ms, .int mc, .int mr, .ref ag, .ref ar, .ref ur, .int un])), (ag, .inr (1, [.int (nI aW2), .int (nI aH2), .int at2, .ref ab])), (ab, ia G 16 af2), (ar, .inr (3, [.ref arn, .ref arf])), (arn, ia G 16 (fun ι => nI (wrd w ι))), (arf, ia G 16 (fun ι => nI (wrdI w ι))), (nw, .inr (7, [.ref g, .ref ru, .ref se, .ref ev])), (g, .inr (1, [.int (nI W), .int (nI H), .int t, .ref b])), (b, ia G 16 f), (se, .inr (4, [.int (nI m), .ref sn])), (sn, ia G (3 * 5) (tab s0 (fun ι => nI (s1 ι)) s2))]) := by
  refine CT.of (lv := [(0, .ref ah), (1, .int (nI w)), (2, .ref nw)]) RX0 "isSeenBy" rfl rfl (by decide +kernel) (Nat.le_of_ble_eq_true rfl) rfl (fun X hX hR => ?_)
  refine j_aload_n (pc := 0) hX dX0_isSeenBy_0 0 rfl ?_
  refine j_get (pc := 1) hX f_RX0_31 0 rfl rfl dX0_isSeenBy_1 ?_
  refine j_iload_n (pc := 4) hX dX0_isSeenBy_4 1 rfl ?_
  refine j_callV (pc := 5) hX kX3_becomeWord kVX3_becomeWord l_RX0_90 (fun l => c_X3_becomeWord G ar arn arf ap (fun ι => nI (aq ι)) w (by omega) (by assumption) l) [3, 4, 5] [0, 1, 2, 6, 7, 8, 9, 10] [] rfl 0 3 rfl rfl rfl rfl rfl rfl ⟨rfl, rfl, by decide⟩ rfl rfl (Nat.le_of_ble_eq_true rfl) dX0_isSeenBy_5 (fun v w hq => ?_)
  obtain ⟨rfl, rfl⟩ := hq
  refine j_ws [0, 1, 2, 8, 9, 10, 3, 4, 5, 6, 7] (ws' := [(ah, .inr (0, [.int ms, .int mc, .int mr, .ref ag, .ref ar, .ref ur, .int un])), (ag, .inr (1, [.int (nI aW), .int (nI aH), .int at_, .ref ab])), (ab, ia G 16 af), (ar, .inr (3, [.ref arn, .ref arf])), (arn, ia G 16 (fun ι => nI (wrd w ι))), (arf, ia G 16 (fun ι => nI (wrdI w ι))), (nw, .inr (7, [.ref g, .ref ru, .ref se, .ref ev])), (g, .inr (1, [.int (nI W), .int (nI H), .int t, .ref b])), (b, ia G 16 f), (se, .inr (4, [.int (nI m), .ref sn])), (sn, ia G (3 * 5) (tab s0 (fun ι => nI (s1 ι)) s2))]) rfl rfl ?_
  refine j_pop (pc := 8) hX dX0_isSeenBy_8 rfl ?_
  refine j_iconstN (pc := 9) (j := 0) hX dX0_isSeenBy_9 rfl ?_
  refine j_istore_n (pc := 10) (lv' := [(3, .int (nI 0)), (0, .ref ah), (1, .int (nI w)), (2, .ref nw)]) hX dX0_isSeenBy_10 (by decide) rfl ?_
  have L11 : ∀ (m11 : Nat) (i : Nat) (aW3 aH3 : Nat) (at3 : Int32) (af3 : Nat → Int32) (hi : i ≤ m) (hall : ∀ z, z < i → (s1 z / 100 < W ∧ s1 z % 100 < H) ∧ bI (bt (goF W H (wrd w) (wrdI w) t (s0 z) f (s1 z % 100)) (s1 z / 100)) = s2 z), m - i < m11 → J X G 5 0 0 [(ah, .inr (0, [.int ms, .int mc, .int mr, .ref ag, .ref ar, .ref ur, .int un])), (ag, .inr (1, [.int (nI aW3), .int (nI aH3), .int at3, .ref ab])), (ab, ia G 16 af3), (ar, .inr (3, [.ref arn, .ref arf])), (arn, ia G 16 (fun ι => nI (wrd w ι))), (arf, ia G 16 (fun ι => nI (wrdI w ι))), (nw, .inr (7, [.ref g, .ref ru, .ref se, .ref ev])), (g, .inr (1, [.int (nI W), .int (nI H), .int t, .ref b])), (b, ia G 16 f), (se, .inr (4, [.int (nI m), .ref sn])), (sn, ia G (3 * 5) (tab s0 (fun ι => nI (s1 ι)) s2))] [(0, .ref ah), (1, .int (nI w)), (2, .ref nw), (3, .int (nI i))] 11 [] := by
    intro m11
    induction m11 with
    | zero => intro i aW3 aH3 at3 af3 hi hall hm11; exact absurd hm11 (Nat.not_lt_zero _)
    | succ m11 ih11 =>
      intro i aW3 aH3 at3 af3 hi hall hm11
      refine j_iload_n (pc := 11) hX dX0_isSeenBy_11 3 rfl ?_
      refine j_aload_n (pc := 12) hX dX0_isSeenBy_12 2 rfl ?_
      refine j_getR (pc := 13) hX f_RX0_93 6 rfl rfl dX0_isSeenBy_13 ?_
      refine j_get (pc := 16) hX f_RX0_99 9 rfl rfl dX0_isSeenBy_16 ?_
      refine j_icmp_ge (pc := 19) (tgt := 95) hX dX0_isSeenBy_19 (by decide) (nI_toInt (n := i) (by omega)) (nI_toInt (n := m) (by omega)) (fun c19 => ?_) (fun c19 => ?_)
      · skip
        refine j_iconstN (pc := 95) (j := 1) hX dX0_isSeenBy_95 rfl ?_
        exact j_zret (pc := 96) hX hR (by decide) dX0_isSeenBy_96 ⟨aW3, aH3, at3, af3, congrArg some (show Value.int (nI 1) = Value.int (bI (seenB W H (wrd w) (wrdI w) t f m s0 s1 s2)) from bI_tt (allB_t (fun z hz => decide_eq_true (hall z (by omega))))), rfl⟩
      · skip
        have hsi := hs i (by omega)
        refine j_aload_n (pc := 22) hX dX0_isSeenBy_22 2 rfl ?_
        refine j_getR (pc := 23) hX f_RX0_93 6 rfl rfl dX0_isSeenBy_23 ?_
        refine j_iload_n (pc := 26) hX dX0_isSeenBy_26 3 rfl ?_
        refine j_callV (pc := 27) hX kX4_second kVX4_second l_RX0_104 (fun l => c_X4_second G se sn 5 m s0 (fun ι => nI (s1 ι)) s2 i (by omega) (by omega) l) [9, 10] [0, 1, 2, 3, 4, 5, 6, 7, 8] [] rfl 0 4 rfl rfl rfl rfl rfl rfl ⟨rfl, rfl, by decide⟩ rfl rfl (Nat.le_of_ble_eq_true rfl) dX0_isSeenBy_27 (fun v w hq => ?_)
        obtain ⟨rfl, rfl⟩ := hq
        refine j_ws [0, 1, 2, 3, 4, 5, 6, 7, 8, 9, 10] (ws' := [(ah, .inr (0, [.int ms, .int mc, .int mr, .ref ag, .ref ar, .ref ur, .int un])), (ag, .inr (1, [.int (nI aW3), .int (nI aH3), .int at3, .ref ab])), (ab, ia G 16 af3), (ar, .inr (3, [.ref arn, .ref arf])), (arn, ia G 16 (fun ι => nI (wrd w ι))), (arf, ia G 16 (fun ι => nI (wrdI w ι))), (nw, .inr (7, [.ref g, .ref ru, .ref se, .ref ev])), (g, .inr (1, [.int (nI W), .int (nI H), .int t, .ref b])), (b, ia G 16 f), (se, .inr (4, [.int (nI m), .ref sn])), (sn, ia G (3 * 5) (tab s0 (fun ι => nI (s1 ι)) s2))]) rfl rfl ?_
        refine j_istore (pc := 30) (lv' := [(4, .int (nI (s1 i))), (0, .ref ah), (1, .int (nI w)), (2, .ref nw), (3, .int (nI i))]) hX dX0_isSeenBy_30 (by decide) rfl ?_
        refine j_aload_n (pc := 32) hX dX0_isSeenBy_32 3 rfl ?_
        refine j_getR (pc := 33) hX f_RX0_107 6 rfl rfl dX0_isSeenBy_33 ?_
        refine j_iload (pc := 36) hX dX0_isSeenBy_36 0 rfl ?_
        refine j_bipush (pc := 38) (v := nI 100) hX dX0_isSeenBy_38 (by decide) ?_
        refine j_idiv (pc := 40) hX dX0_isSeenBy_40 (by decide) ?_
        refine j_topi (y := nI ((s1 i) / 100)) (pk_div (by omega) (by omega) (by omega)) ?_
        refine j_iload (pc := 41) hX dX0_isSeenBy_41 0 rfl ?_
        refine j_bipush (pc := 43) (v := nI 100) hX dX0_isSeenBy_43 (by decide) ?_
        refine j_irem (pc := 45) hX dX0_isSeenBy_45 (by decide) ?_
        refine j_topi (y := nI ((s1 i) % 100)) (pk_rem (by omega) (by omega) (by omega)) ?_
        refine j_callV (pc := 46) hX kX1_has kVX1_has l_RX0_108 (fun l => c_X1_has G g W H t b f (nI ((s1 i) / 100)) (nI ((s1 i) % 100)) (by omega) (by omega) (by omega) (by omega) l) [7, 8] [0, 1, 2, 3, 4, 5, 6, 9, 10] [] rfl 0 1 rfl rfl rfl rfl rfl rfl ⟨rfl, rfl, by decide⟩ rfl rfl (Nat.le_of_ble_eq_true rfl) dX0_isSeenBy_46 (fun v w hq => ?_)
        obtain ⟨rfl, rfl⟩ := hq
        refine j_ws [0, 1, 2, 3, 4, 5, 6, 9, 10, 7, 8] (ws' := [(ah, .inr (0, [.int ms, .int mc, .int mr, .ref ag, .ref ar, .ref ur, .int un])), (ag, .inr (1, [.int (nI aW3), .int (nI aH3), .int at3, .ref ab])), (ab, ia G 16 af3), (ar, .inr (3, [.ref arn, .ref arf])), (arn, ia G 16 (fun ι => nI (wrd w ι))), (arf, ia G 16 (fun ι => nI (wrdI w ι))), (nw, .inr (7, [.ref g, .ref ru, .ref se, .ref ev])), (g, .inr (1, [.int (nI W), .int (nI H), .int t, .ref b])), (b, ia G 16 f), (se, .inr (4, [.int (nI m), .ref sn])), (sn, ia G (3 * 5) (tab s0 (fun ι => nI (s1 ι)) s2))]) rfl rfl ?_
        refine j_ifB_ne (pc := 49) (tgt := 54) hX dX0_isSeenBy_49 (by decide) (fun c49 => ?_) (fun c49 => ?_)
        · skip
          rw [inG_nat (by omega) (by omega)] at c49; have c49 := of_decide_eq_true c49
          refine j_aload_n (pc := 54) hX dX0_isSeenBy_54 1 rfl ?_
          refine j_aload_n (pc := 55) hX dX0_isSeenBy_55 3 rfl ?_
          refine j_getR (pc := 56) hX f_RX0_107 6 rfl rfl dX0_isSeenBy_56 ?_
          refine j_aload_n (pc := 59) hX dX0_isSeenBy_59 1 rfl ?_
          refine j_get (pc := 60) hX f_RX0_31 0 rfl rfl dX0_isSeenBy_60 ?_
          refine j_iload (pc := 63) hX dX0_isSeenBy_63 0 rfl ?_
          refine j_aload_n (pc := 65) hX dX0_isSeenBy_65 3 rfl ?_
          refine j_getR (pc := 66) hX f_RX0_93 6 rfl rfl dX0_isSeenBy_66 ?_
          refine j_iload_n (pc := 69) hX dX0_isSeenBy_69 4 rfl ?_
          refine j_callV (pc := 70) hX kX4_first kVX4_first l_RX0_112 (fun l => c_X4_first G se sn 5 m s0 (fun ι => nI (s1 ι)) s2 i (by omega) (by omega) l) [9, 10] [0, 1, 2, 3, 4, 5, 6, 7, 8] [.int (nI (s1 i)), .ref ar, .ref g, .ref ah] rfl 0 4 rfl rfl rfl rfl rfl rfl ⟨rfl, rfl, by decide⟩ rfl rfl (Nat.le_of_ble_eq_true rfl) dX0_isSeenBy_70 (fun v w hq => ?_)
          obtain ⟨rfl, rfl⟩ := hq
          refine j_ws [0, 1, 2, 3, 4, 5, 6, 7, 8, 9, 10] (ws' := [(ah, .inr (0, [.int ms, .int mc, .int mr, .ref ag, .ref ar, .ref ur, .int un])), (ag, .inr (1, [.int (nI aW3), .int (nI aH3), .int at3, .ref ab])), (ab, ia G 16 af3), (ar, .inr (3, [.ref arn, .ref arf])), (arn, ia G 16 (fun ι => nI (wrd w ι))), (arf, ia G 16 (fun ι => nI (wrdI w ι))), (nw, .inr (7, [.ref g, .ref ru, .ref se, .ref ev])), (g, .inr (1, [.int (nI W), .int (nI H), .int t, .ref b])), (b, ia G 16 f), (se, .inr (4, [.int (nI m), .ref sn])), (sn, ia G (3 * 5) (tab s0 (fun ι => nI (s1 ι)) s2))]) rfl rfl ?_
          refine j_callV (pc := 73) hX kX0_cellThen kVX0_cellThen l_RX0_115 (fun l => c_X0_cellThen G ah ms mc mr ag ar ur un aW3 aH3 at3 ab af3 g W H t b f ar arn arf (wrd w) (wrdI w) (s1 i) (s0 i) (by omega) (by omega) (by omega) (by omega) (by omega) (by omega) (by omega) (by omega) (by omega) l) [0, 1, 2, 7, 8, 3, 4, 5] [6, 9, 10] [] rfl 0 0 rfl rfl rfl rfl rfl rfl ⟨rfl, rfl, by decide⟩ rfl rfl (Nat.le_of_ble_eq_true rfl) dX0_isSeenBy_73 (fun v w hq => ?_)
          obtain ⟨rfl, rfl⟩ := hq
          refine j_ws [3, 4, 5, 8, 9, 10, 0, 6, 7, 1, 2] (ws' := [(ah, .inr (0, [.int ms, .int mc, .int mr, .ref ag, .ref ar, .ref ur, .int un])), (ag, .inr (1, [.int (nI W), .int (nI H), .int (t + (s0 i)), .ref ab])), (ab, ia G 16 (goF W H (wrd w) (wrdI w) t (s0 i) f)), (ar, .inr (3, [.ref arn, .ref arf])), (arn, ia G 16 (fun ι => nI ((wrd w) ι))), (arf, ia G 16 (fun ι => nI ((wrdI w) ι))), (nw, .inr (7, [.ref g, .ref ru, .ref se, .ref ev])), (g, .inr (1, [.int (nI W), .int (nI H), .int t, .ref b])), (b, ia G 16 f), (se, .inr (4, [.int (nI m), .ref sn])), (sn, ia G (3 * 5) (tab s0 (fun ι => nI (s1 ι)) s2))]) rfl rfl ?_
          refine j_aload_n (pc := 76) hX dX0_isSeenBy_76 3 rfl ?_
          refine j_getR (pc := 77) hX f_RX0_93 6 rfl rfl dX0_isSeenBy_77 ?_
          refine j_iload_n (pc := 80) hX dX0_isSeenBy_80 4 rfl ?_
          refine j_callV (pc := 81) hX kX4_third kVX4_third l_RX0_119 (fun l => c_X4_third G se sn 5 m s0 (fun ι => nI (s1 ι)) s2 i (by omega) (by omega) l) [9, 10] [0, 1, 2, 3, 4, 5, 6, 7, 8] [.int (bI (bt (goF W H (wrd w) (wrdI w) t (s0 i) f ((s1 i) % 100)) ((s1 i) / 100)))] rfl 0 4 rfl rfl rfl rfl rfl rfl ⟨rfl, rfl, by decide⟩ rfl rfl (Nat.le_of_ble_eq_true rfl) dX0_isSeenBy_81 (fun v w hq => ?_)
          obtain ⟨rfl, rfl⟩ := hq
          refine j_ws [0, 1, 2, 3, 4, 5, 6, 7, 8, 9, 10] (ws' := [(ah, .inr (0, [.int ms, .int mc, .int mr, .ref ag, .ref ar, .ref ur, .int un])), (ag, .inr (1, [.int (nI W), .int (nI H), .int (t + (s0 i)), .ref ab])), (ab, ia G 16 (goF W H (wrd w) (wrdI w) t (s0 i) f)), (ar, .inr (3, [.ref arn, .ref arf])), (arn, ia G 16 (fun ι => nI ((wrd w) ι))), (arf, ia G 16 (fun ι => nI ((wrdI w) ι))), (nw, .inr (7, [.ref g, .ref ru, .ref se, .ref ev])), (g, .inr (1, [.int (nI W), .int (nI H), .int t, .ref b])), (b, ia G 16 f), (se, .inr (4, [.int (nI m), .ref sn])), (sn, ia G (3 * 5) (tab s0 (fun ι => nI (s1 ι)) s2))]) rfl rfl ?_
          refine j_icmp_eq (pc := 84) (tgt := 89) hX dX0_isSeenBy_84 (by decide) (bI_toInt (bt (goF W H (wrd w) (wrdI w) t (s0 i) f ((s1 i) % 100)) ((s1 i) / 100))) rfl (fun c84 => ?_) (fun c84 => ?_)
          · skip
            refine j_iinc (pc := 89) (q := 4) (v := nI (i + 1)) (lv' := [(3, .int (nI (i + 1))), (4, .int (nI (s1 i))), (0, .ref ah), (1, .int (nI w)), (2, .ref nw)]) hX dX0_isSeenBy_89 rfl (nI_inc _ 1) (by decide) rfl ?_
            refine j_goto (pc := 92) (tgt := 11) hX dX0_isSeenBy_92 (by decide) ?_
            refine j_ia (q0 := 4) (f := fun ι => nI ((wrd w) ι)) (g := fun ι => nI (wrd w ι)) rfl (fun z hz => by rfl) (ws' := [(ah, .inr (0, [.int ms, .int mc, .int mr, .ref ag, .ref ar, .ref ur, .int un])), (ag, .inr (1, [.int (nI W), .int (nI H), .int (t + (s0 i)), .ref ab])), (ab, ia G 16 (goF W H (wrd w) (wrdI w) t (s0 i) f)), (ar, .inr (3, [.ref arn, .ref arf])), (arn, ia G 16 (fun ι => nI (wrd w ι))), (arf, ia G 16 (fun ι => nI ((wrdI w) ι))), (nw, .inr (7, [.ref g, .ref ru, .ref se, .ref ev])), (g, .inr (1, [.int (nI W), .int (nI H), .int t, .ref b])), (b, ia G 16 f), (se, .inr (4, [.int (nI m), .ref sn])), (sn, ia G (3 * 5) (tab s0 (fun ι => nI (s1 ι)) s2))]) rfl ?_
            refine j_ia (q0 := 5) (f := fun ι => nI ((wrdI w) ι)) (g := fun ι => nI (wrdI w ι)) rfl (fun z hz => by rfl) (ws' := [(ah, .inr (0, [.int ms, .int mc, .int mr, .ref ag, .ref ar, .ref ur, .int un])), (ag, .inr (1, [.int (nI W), .int (nI H), .int (t + (s0 i)), .ref ab])), (ab, ia G 16 (goF W H (wrd w) (wrdI w) t (s0 i) f)), (ar, .inr (3, [.ref arn, .ref arf])), (arn, ia G 16 (fun ι => nI (wrd w ι))), (arf, ia G 16 (fun ι => nI (wrdI w ι))), (nw, .inr (7, [.ref g, .ref ru, .ref se, .ref ev])), (g, .inr (1, [.int (nI W), .int (nI H), .int t, .ref b])), (b, ia G 16 f), (se, .inr (4, [.int (nI m), .ref sn])), (sn, ia G (3 * 5) (tab s0 (fun ι => nI (s1 ι)) s2))]) rfl ?_
            refine j_lv [2, 3, 4, 0] (lv' := [(0, .ref ah), (1, .int (nI w)), (2, .ref nw), (3, .int (nI (i + 1)))]) rfl ?_
            exact ih11 (i + 1) W H (t + (s0 i)) (goF W H (wrd w) (wrdI w) t (s0 i) f) (by omega) (lt_s hall ⟨c49, Int32.toInt_inj.mp (by rw [← c84, bI_toInt])⟩) (by omega)
          · skip
            refine j_iconstN (pc := 87) (j := 0) hX dX0_isSeenBy_87 rfl ?_
            refine j_ia (q0 := 4) (f := fun ι => nI ((wrd w) ι)) (g := fun ι => nI (wrd w ι)) rfl (fun z hz => by rfl) (ws' := [(ah, .inr (0, [.int ms, .int mc, .int mr, .ref ag, .ref ar, .ref ur, .int un])), (ag, .inr (1, [.int (nI W), .int (nI H), .int (t + (s0 i)), .ref ab])), (ab, ia G 16 (goF W H (wrd w) (wrdI w) t (s0 i) f)), (ar, .inr (3, [.ref arn, .ref arf])), (arn, ia G 16 (fun ι => nI (wrd w ι))), (arf, ia G 16 (fun ι => nI ((wrdI w) ι))), (nw, .inr (7, [.ref g, .ref ru, .ref se, .ref ev])), (g, .inr (1, [.int (nI W), .int (nI H), .int t, .ref b])), (b, ia G 16 f), (se, .inr (4, [.int (nI m), .ref sn])), (sn, ia G (3 * 5) (tab s0 (fun ι => nI (s1 ι)) s2))]) rfl ?_
            refine j_ia (q0 := 5) (f := fun ι => nI ((wrdI w) ι)) (g := fun ι => nI (wrdI w ι)) rfl (fun z hz => by rfl) (ws' := [(ah, .inr (0, [.int ms, .int mc, .int mr, .ref ag, .ref ar, .ref ur, .int un])), (ag, .inr (1, [.int (nI W), .int (nI H), .int (t + (s0 i)), .ref ab])), (ab, ia G 16 (goF W H (wrd w) (wrdI w) t (s0 i) f)), (ar, .inr (3, [.ref arn, .ref arf])), (arn, ia G 16 (fun ι => nI (wrd w ι))), (arf, ia G 16 (fun ι => nI (wrdI w ι))), (nw, .inr (7, [.ref g, .ref ru, .ref se, .ref ev])), (g, .inr (1, [.int (nI W), .int (nI H), .int t, .ref b])), (b, ia G 16 f), (se, .inr (4, [.int (nI m), .ref sn])), (sn, ia G (3 * 5) (tab s0 (fun ι => nI (s1 ι)) s2))]) rfl ?_
            exact j_zret (pc := 88) hX hR (by decide) dX0_isSeenBy_88 ⟨W, H, (t + (s0 i)), (goF W H (wrd w) (wrdI w) t (s0 i) f), congrArg some (show Value.int (nI 0) = Value.int (bI (seenB W H (wrd w) (wrdI w) t f m s0 s1 s2)) from bI_ff (allB_f (z := i) (by omega) (decide_eq_false (fun h => c84 (by rw [← h.2, bI_toInt]))))), rfl⟩
        · skip
          rw [inG_nat (by omega) (by omega)] at c49; have c49 := of_decide_eq_false c49
          refine j_iconstN (pc := 52) (j := 0) hX dX0_isSeenBy_52 rfl ?_
          exact j_zret (pc := 53) hX hR (by decide) dX0_isSeenBy_53 ⟨aW3, aH3, at3, af3, congrArg some (show Value.int (nI 0) = Value.int (bI (seenB W H (wrd w) (wrdI w) t f m s0 s1 s2)) from bI_ff (allB_f (z := i) (by omega) (decide_eq_false (fun h => c49 h.1)))), rfl⟩
  refine j_lv [1, 2, 3, 0] (lv' := [(0, .ref ah), (1, .int (nI w)), (2, .ref nw), (3, .int (nI 0))]) rfl ?_
  exact L11 ((m - 0) + 1) 0 aW aH at_ af (by omega) (fun z hz => absurd hz (Nat.not_lt_zero _)) (Nat.lt_succ_self _)
set_option maxHeartbeats 4000000 in
set_option maxRecDepth 100000 in
theorem c_X0_happen (G : GT) (ah : Nat) (ms : Int32) (mc : Int32) (mr : Int32) (ag : Nat) (ar : Nat) (ur : Nat) (un : Int32) (aW : Nat) (aH : Nat) (at_ : Int32) (ab : Nat) (af : Nat → Int32) (arn : Nat) (arf : Nat) (ap : Nat → Nat) (aq : Nat → Nat) (a0 n : Nat) (hW1 : 2 ≤ aW) (hW2 : aW ≤ 16) (hH1 : 2 ≤ aH) (hH2 : aH ≤ 16) (hW3 : aW % 2 = 0) (hH3 : aH % 2 = 0) (hev : evOK aW aH a0 n) (hap : ∀ s, s < 16 → ap s < 16) (l : Launch) : CT l G yX0_happen cX0_happen 3 none { frames := 4, cells := 0, slots := 0, locals := 97 } [.ref ah, .int (nI a0), .int (nI n)] [(ah, .inr (0, [.int ms, .int mc, .int mr, .ref ag, .ref ar, .ref ur, .int un])), (ag, .inr (1, [.int (nI aW), .int (nI aH), .int at_, .ref ab])), (ab, ia G 16 af), (ar, .inr (3, [.ref arn, .ref arf])), (arn, ia G 16 (fun ι => nI (ap ι))), (arf, ia G 16 (fun ι => nI (aq ι)))] (fun vv ww => vv = none ∧ ww = [(ah, .inr (0, [.int ms, .int mc, .int mr, .ref ag, .ref ar, .ref ur, .int un])), (ag, .inr (1, [.int (nI aW), .int (nI aH), .int ((ev1 aW aH a0 n (at_, af, ap, aq)).1), .ref ab])), (ab, ia G 16 ((ev1 aW aH a0 n (at_, af, ap, aq)).2.1)), (ar, .inr (3, [.ref arn, .ref arf])), (arn, ia G 16 (fun ι => nI ((ev1 aW aH a0 n (at_, af, ap, aq)).2.2.1 ι))), (arf, ia G 16 (fun ι => nI ((ev1 aW aH a0 n (at_, af, ap, aq)).2.2.2 ι)))]) := by
  refine CT.of (lv := [(0, .ref ah), (1, .int (nI a0)), (2, .int (nI n))]) RX0 "happen" rfl rfl (by decide +kernel) (Nat.le_of_ble_eq_true rfl) rfl (fun X hX hR => ?_)
  obtain ⟨ha0, hn0, hn1, hn⟩ := hev
  refine j_iload_n (pc := 0) hX dX0_happen_0 1 rfl ?_
  rcases (show (nI a0).toInt = 0 ∨ (nI a0).toInt = 1 ∨ ((nI a0).toInt ≠ 0 ∧ (nI a0).toInt ≠ 1) from by omega) with s1 | s1 | s1
  · skip
    refine j_lookup (pc := 1) (off := 27) (tgt := 28) hX dX0_happen_1 rfl (by rw [s1]; rfl) (by decide) ?_
    have he : a0 = 0 := by rw [nI_toInt (by omega)] at s1; omega
    have hn5 := hn0 he
    refine j_aload_n (pc := 28) hX dX0_happen_28 0 rfl ?_
    refine j_get (pc := 29) hX f_RX0_31 0 rfl rfl dX0_happen_29 ?_
    refine j_iload_n (pc := 32) hX dX0_happen_32 2 rfl ?_
    refine j_callV (pc := 33) hX kX3_becomeWord kVX3_becomeWord l_RX0_90 (fun l => c_X3_becomeWord G ar arn arf ap (fun ι => nI (aq ι)) n (by omega) (by assumption) l) [3, 4, 5] [0, 1, 2] [] rfl 0 3 rfl rfl rfl rfl rfl rfl ⟨rfl, rfl, by decide⟩ rfl rfl (Nat.le_of_ble_eq_true rfl) dX0_happen_33 (fun v w hq => ?_)
    obtain ⟨rfl, rfl⟩ := hq
    refine j_ws [0, 1, 2, 3, 4, 5] (ws' := [(ah, .inr (0, [.int ms, .int mc, .int mr, .ref ag, .ref ar, .ref ur, .int un])), (ag, .inr (1, [.int (nI aW), .int (nI aH), .int at_, .ref ab])), (ab, ia G 16 af), (ar, .inr (3, [.ref arn, .ref arf])), (arn, ia G 16 (fun ι => nI (wrd n ι))), (arf, ia G 16 (fun ι => nI (wrdI n ι)))]) rfl rfl ?_
    refine j_pop (pc := 36) hX dX0_happen_36 rfl ?_
    refine j_goto (pc := 37) (tgt := 70) hX dX0_happen_37 (by decide) ?_
    refine j_ia (q0 := 2) (f := af) (g := (ev1 aW aH a0 n (at_, af, ap, aq)).2.1) rfl (fun z hz => by (rw [he]; rfl)) (ws' := [(ah, .inr (0, [.int ms, .int mc, .int mr, .ref ag, .ref ar, .ref ur, .int un])), (ag, .inr (1, [.int (nI aW), .int (nI aH), .int at_, .ref ab])), (ab, ia G 16 ((ev1 aW aH a0 n (at_, af, ap, aq)).2.1)), (ar, .inr (3, [.ref arn, .ref arf])), (arn, ia G 16 (fun ι => nI (wrd n ι))), (arf, ia G 16 (fun ι => nI (wrdI n ι)))]) rfl ?_
    refine j_ia (q0 := 4) (f := fun ι => nI (wrd n ι)) (g := fun ι => nI ((ev1 aW aH a0 n (at_, af, ap, aq)).2.2.1 ι)) rfl (fun z hz => by (rw [he]; rfl)) (ws' := [(ah, .inr (0, [.int ms, .int mc, .int mr, .ref ag, .ref ar, .ref ur, .int un])), (ag, .inr (1, [.int (nI aW), .int (nI aH), .int at_, .ref ab])), (ab, ia G 16 ((ev1 aW aH a0 n (at_, af, ap, aq)).2.1)), (ar, .inr (3, [.ref arn, .ref arf])), (arn, ia G 16 (fun ι => nI ((ev1 aW aH a0 n (at_, af, ap, aq)).2.2.1 ι))), (arf, ia G 16 (fun ι => nI (wrdI n ι)))]) rfl ?_
    refine j_ia (q0 := 5) (f := fun ι => nI (wrdI n ι)) (g := fun ι => nI ((ev1 aW aH a0 n (at_, af, ap, aq)).2.2.2 ι)) rfl (fun z hz => by (rw [he]; rfl)) (ws' := [(ah, .inr (0, [.int ms, .int mc, .int mr, .ref ag, .ref ar, .ref ur, .int un])), (ag, .inr (1, [.int (nI aW), .int (nI aH), .int at_, .ref ab])), (ab, ia G 16 ((ev1 aW aH a0 n (at_, af, ap, aq)).2.1)), (ar, .inr (3, [.ref arn, .ref arf])), (arn, ia G 16 (fun ι => nI ((ev1 aW aH a0 n (at_, af, ap, aq)).2.2.1 ι))), (arf, ia G 16 (fun ι => nI ((ev1 aW aH a0 n (at_, af, ap, aq)).2.2.2 ι)))]) rfl ?_
    refine j_eqw (ws' := [(ah, .inr (0, [.int ms, .int mc, .int mr, .ref ag, .ref ar, .ref ur, .int un])), (ag, .inr (1, [.int (nI aW), .int (nI aH), .int ((ev1 aW aH a0 n (at_, af, ap, aq)).1), .ref ab])), (ab, ia G 16 ((ev1 aW aH a0 n (at_, af, ap, aq)).2.1)), (ar, .inr (3, [.ref arn, .ref arf])), (arn, ia G 16 (fun ι => nI ((ev1 aW aH a0 n (at_, af, ap, aq)).2.2.1 ι))), (arf, ia G 16 (fun ι => nI ((ev1 aW aH a0 n (at_, af, ap, aq)).2.2.2 ι)))]) (congrArg (fun ζ : Int32 => ([(ah, .inr (0, [.int ms, .int mc, .int mr, .ref ag, .ref ar, .ref ur, .int un])), (ag, .inr (1, [.int (nI aW), .int (nI aH), .int ζ, .ref ab])), (ab, ia G 16 ((ev1 aW aH a0 n (at_, af, ap, aq)).2.1)), (ar, .inr (3, [.ref arn, .ref arf])), (arn, ia G 16 (fun ι => nI ((ev1 aW aH a0 n (at_, af, ap, aq)).2.2.1 ι))), (arf, ia G 16 (fun ι => nI ((ev1 aW aH a0 n (at_, af, ap, aq)).2.2.2 ι)))] : va_W)) (show at_ = (ev1 aW aH a0 n (at_, af, ap, aq)).1 from by (rw [he]; rfl))) ?_
    exact j_vret (pc := 70) hX hR dX0_happen_70 ⟨rfl, rfl⟩
  · skip
    refine j_lookup (pc := 1) (off := 39) (tgt := 40) hX dX0_happen_1 rfl (by rw [s1]; rfl) (by decide) ?_
    have he : a0 = 1 := by rw [nI_toInt (by omega)] at s1; omega
    have hn20 := hn1 he
    have hnt : (nI n).toInt = n := nI_toInt (by omega)
    refine j_aload_n (pc := 40) hX dX0_happen_40 0 rfl ?_
    refine j_get (pc := 41) hX f_RX0_24 0 rfl rfl dX0_happen_41 ?_
    refine j_iload_n (pc := 44) hX dX0_happen_44 2 rfl ?_
    refine j_aload_n (pc := 45) hX dX0_happen_45 0 rfl ?_
    refine j_get (pc := 46) hX f_RX0_31 0 rfl rfl dX0_happen_46 ?_
    refine j_callV (pc := 49) hX kX1_go kVX1_go l_RX0_46 (fun l => c_X1_go G ag aW aH at_ ab af (nI n) ar arn arf ap aq (by omega) (by omega) (by omega) (by omega) (by omega) (by omega) (by first | omega | (rw [nI_toInt (by omega)]; omega)) l) [1, 2, 3, 4, 5] [0] [] rfl 0 1 rfl rfl rfl rfl rfl rfl ⟨rfl, rfl, by decide⟩ rfl rfl (Nat.le_of_ble_eq_true rfl) dX0_happen_49 (fun v w hq => ?_)
    obtain ⟨rfl, rfl⟩ := hq
    refine j_ws [0, 1, 2, 3, 4, 5] (ws' := [(ah, .inr (0, [.int ms, .int mc, .int mr, .ref ag, .ref ar, .ref ur, .int un])), (ag, .inr (1, [.int (nI aW), .int (nI aH), .int (at_ + (nI n)), .ref ab])), (ab, ia G 16 (goF aW aH ap aq at_ (nI n) af)), (ar, .inr (3, [.ref arn, .ref arf])), (arn, ia G 16 (fun ι => nI (ap ι))), (arf, ia G 16 (fun ι => nI (aq ι)))]) rfl rfl ?_
    refine j_goto (pc := 52) (tgt := 70) hX dX0_happen_52 (by decide) ?_
    refine j_ia (q0 := 2) (f := goF aW aH ap aq at_ (nI n) af) (g := (ev1 aW aH a0 n (at_, af, ap, aq)).2.1) rfl (fun z hz => by (rw [he]; rfl)) (ws' := [(ah, .inr (0, [.int ms, .int mc, .int mr, .ref ag, .ref ar, .ref ur, .int un])), (ag, .inr (1, [.int (nI aW), .int (nI aH), .int (at_ + (nI n)), .ref ab])), (ab, ia G 16 ((ev1 aW aH a0 n (at_, af, ap, aq)).2.1)), (ar, .inr (3, [.ref arn, .ref arf])), (arn, ia G 16 (fun ι => nI (ap ι))), (arf, ia G 16 (fun ι => nI (aq ι)))]) rfl ?_
    refine j_ia (q0 := 4) (f := fun ι => nI (ap ι)) (g := fun ι => nI ((ev1 aW aH a0 n (at_, af, ap, aq)).2.2.1 ι)) rfl (fun z hz => by (rw [he]; rfl)) (ws' := [(ah, .inr (0, [.int ms, .int mc, .int mr, .ref ag, .ref ar, .ref ur, .int un])), (ag, .inr (1, [.int (nI aW), .int (nI aH), .int (at_ + (nI n)), .ref ab])), (ab, ia G 16 ((ev1 aW aH a0 n (at_, af, ap, aq)).2.1)), (ar, .inr (3, [.ref arn, .ref arf])), (arn, ia G 16 (fun ι => nI ((ev1 aW aH a0 n (at_, af, ap, aq)).2.2.1 ι))), (arf, ia G 16 (fun ι => nI (aq ι)))]) rfl ?_
    refine j_ia (q0 := 5) (f := fun ι => nI (aq ι)) (g := fun ι => nI ((ev1 aW aH a0 n (at_, af, ap, aq)).2.2.2 ι)) rfl (fun z hz => by (rw [he]; rfl)) (ws' := [(ah, .inr (0, [.int ms, .int mc, .int mr, .ref ag, .ref ar, .ref ur, .int un])), (ag, .inr (1, [.int (nI aW), .int (nI aH), .int (at_ + (nI n)), .ref ab])), (ab, ia G 16 ((ev1 aW aH a0 n (at_, af, ap, aq)).2.1)), (ar, .inr (3, [.ref arn, .ref arf])), (arn, ia G 16 (fun ι => nI ((ev1 aW aH a0 n (at_, af, ap, aq)).2.2.1 ι))), (arf, ia G 16 (fun ι => nI ((ev1 aW aH a0 n (at_, af, ap, aq)).2.2.2 ι)))]) rfl ?_
    refine j_eqw (ws' := [(ah, .inr (0, [.int ms, .int mc, .int mr, .ref ag, .ref ar, .ref ur, .int un])), (ag, .inr (1, [.int (nI aW), .int (nI aH), .int ((ev1 aW aH a0 n (at_, af, ap, aq)).1), .ref ab])), (ab, ia G 16 ((ev1 aW aH a0 n (at_, af, ap, aq)).2.1)), (ar, .inr (3, [.ref arn, .ref arf])), (arn, ia G 16 (fun ι => nI ((ev1 aW aH a0 n (at_, af, ap, aq)).2.2.1 ι))), (arf, ia G 16 (fun ι => nI ((ev1 aW aH a0 n (at_, af, ap, aq)).2.2.2 ι)))]) (congrArg (fun ζ : Int32 => ([(ah, .inr (0, [.int ms, .int mc, .int mr, .ref ag, .ref ar, .ref ur, .int un])), (ag, .inr (1, [.int (nI aW), .int (nI aH), .int ζ, .ref ab])), (ab, ia G 16 ((ev1 aW aH a0 n (at_, af, ap, aq)).2.1)), (ar, .inr (3, [.ref arn, .ref arf])), (arn, ia G 16 (fun ι => nI ((ev1 aW aH a0 n (at_, af, ap, aq)).2.2.1 ι))), (arf, ia G 16 (fun ι => nI ((ev1 aW aH a0 n (at_, af, ap, aq)).2.2.2 ι)))] : va_W)) (show at_ + (nI n) = (ev1 aW aH a0 n (at_, af, ap, aq)).1 from by (rw [he]; rfl))) ?_
    exact j_vret (pc := 70) hX hR dX0_happen_70 ⟨rfl, rfl⟩
  · skip
    refine j_lookup (pc := 1) (off := 54) (tgt := 55) hX dX0_happen_1 rfl (by simp [Op.lookupswitch.offset, Ne.symm s1.1, Ne.symm s1.2]) (by decide) ?_
    have he : a0 = 2 := by rw [nI_toInt (by omega)] at s1; omega
    refine j_aload_n (pc := 55) hX dX0_happen_55 0 rfl ?_
    refine j_get (pc := 56) hX f_RX0_24 0 rfl rfl dX0_happen_56 ?_
    refine j_iload_n (pc := 59) hX dX0_happen_59 2 rfl ?_
    refine j_bipush (pc := 60) (v := nI 100) hX dX0_happen_60 (by decide) ?_
    refine j_idiv (pc := 62) hX dX0_happen_62 (by decide) ?_
    refine j_topi (y := nI (n / 100)) (pk_div (by omega) (by omega) (by omega)) ?_
    refine j_iload_n (pc := 63) hX dX0_happen_63 2 rfl ?_
    refine j_bipush (pc := 64) (v := nI 100) hX dX0_happen_64 (by decide) ?_
    refine j_irem (pc := 66) hX dX0_happen_66 (by decide) ?_
    refine j_topi (y := nI (n % 100)) (pk_rem (by omega) (by omega) (by omega)) ?_
    refine j_callV (pc := 67) hX kX1_flip kVX1_flip l_RX0_133 (fun l => c_X1_flip G ag aW aH at_ ab af (n / 100) (n % 100) (by omega) (by omega) (by omega) (by omega) (by omega) (by omega) l) [1, 2] [0, 3, 4, 5] [] rfl 0 1 rfl rfl rfl rfl rfl rfl ⟨rfl, rfl, by decide⟩ rfl rfl (Nat.le_of_ble_eq_true rfl) dX0_happen_67 (fun v w hq => ?_)
    obtain ⟨rfl, rfl⟩ := hq
    refine j_ws [0, 4, 5, 1, 2, 3] (ws' := [(ah, .inr (0, [.int ms, .int mc, .int mr, .ref ag, .ref ar, .ref ur, .int un])), (ag, .inr (1, [.int (nI aW), .int (nI aH), .int at_, .ref ab])), (ab, ia G 16 (flp aW aH af (n / 100) (n % 100))), (ar, .inr (3, [.ref arn, .ref arf])), (arn, ia G 16 (fun ι => nI (ap ι))), (arf, ia G 16 (fun ι => nI (aq ι)))]) rfl rfl ?_
    refine j_ia (q0 := 2) (f := flp aW aH af (n / 100) (n % 100)) (g := (ev1 aW aH a0 n (at_, af, ap, aq)).2.1) rfl (fun z hz => by (rw [he]; rfl)) (ws' := [(ah, .inr (0, [.int ms, .int mc, .int mr, .ref ag, .ref ar, .ref ur, .int un])), (ag, .inr (1, [.int (nI aW), .int (nI aH), .int at_, .ref ab])), (ab, ia G 16 ((ev1 aW aH a0 n (at_, af, ap, aq)).2.1)), (ar, .inr (3, [.ref arn, .ref arf])), (arn, ia G 16 (fun ι => nI (ap ι))), (arf, ia G 16 (fun ι => nI (aq ι)))]) rfl ?_
    refine j_ia (q0 := 4) (f := fun ι => nI (ap ι)) (g := fun ι => nI ((ev1 aW aH a0 n (at_, af, ap, aq)).2.2.1 ι)) rfl (fun z hz => by (rw [he]; rfl)) (ws' := [(ah, .inr (0, [.int ms, .int mc, .int mr, .ref ag, .ref ar, .ref ur, .int un])), (ag, .inr (1, [.int (nI aW), .int (nI aH), .int at_, .ref ab])), (ab, ia G 16 ((ev1 aW aH a0 n (at_, af, ap, aq)).2.1)), (ar, .inr (3, [.ref arn, .ref arf])), (arn, ia G 16 (fun ι => nI ((ev1 aW aH a0 n (at_, af, ap, aq)).2.2.1 ι))), (arf, ia G 16 (fun ι => nI (aq ι)))]) rfl ?_
    refine j_ia (q0 := 5) (f := fun ι => nI (aq ι)) (g := fun ι => nI ((ev1 aW aH a0 n (at_, af, ap, aq)).2.2.2 ι)) rfl (fun z hz => by (rw [he]; rfl)) (ws' := [(ah, .inr (0, [.int ms, .int mc, .int mr, .ref ag, .ref ar, .ref ur, .int un])), (ag, .inr (1, [.int (nI aW), .int (nI aH), .int at_, .ref ab])), (ab, ia G 16 ((ev1 aW aH a0 n (at_, af, ap, aq)).2.1)), (ar, .inr (3, [.ref arn, .ref arf])), (arn, ia G 16 (fun ι => nI ((ev1 aW aH a0 n (at_, af, ap, aq)).2.2.1 ι))), (arf, ia G 16 (fun ι => nI ((ev1 aW aH a0 n (at_, af, ap, aq)).2.2.2 ι)))]) rfl ?_
    refine j_eqw (ws' := [(ah, .inr (0, [.int ms, .int mc, .int mr, .ref ag, .ref ar, .ref ur, .int un])), (ag, .inr (1, [.int (nI aW), .int (nI aH), .int ((ev1 aW aH a0 n (at_, af, ap, aq)).1), .ref ab])), (ab, ia G 16 ((ev1 aW aH a0 n (at_, af, ap, aq)).2.1)), (ar, .inr (3, [.ref arn, .ref arf])), (arn, ia G 16 (fun ι => nI ((ev1 aW aH a0 n (at_, af, ap, aq)).2.2.1 ι))), (arf, ia G 16 (fun ι => nI ((ev1 aW aH a0 n (at_, af, ap, aq)).2.2.2 ι)))]) (congrArg (fun ζ : Int32 => ([(ah, .inr (0, [.int ms, .int mc, .int mr, .ref ag, .ref ar, .ref ur, .int un])), (ag, .inr (1, [.int (nI aW), .int (nI aH), .int ζ, .ref ab])), (ab, ia G 16 ((ev1 aW aH a0 n (at_, af, ap, aq)).2.1)), (ar, .inr (3, [.ref arn, .ref arf])), (arn, ia G 16 (fun ι => nI ((ev1 aW aH a0 n (at_, af, ap, aq)).2.2.1 ι))), (arf, ia G 16 (fun ι => nI ((ev1 aW aH a0 n (at_, af, ap, aq)).2.2.2 ι)))] : va_W)) (show at_ = (ev1 aW aH a0 n (at_, af, ap, aq)).1 from by (rw [he]; rfl))) ?_
    exact j_vret (pc := 70) hX hR dX0_happen_70 ⟨rfl, rfl⟩
set_option maxHeartbeats 4000000 in
set_option maxRecDepth 100000 in
theorem c_X0_behindEvents (G : GT) (ah : Nat) (ms : Int32) (mc : Int32) (mr : Int32) (ag : Nat) (ar : Nat) (ur : Nat) (un : Int32) (aW : Nat) (aH : Nat) (at_ : Int32) (ab : Nat) (af : Nat → Int32) (arn : Nat) (arf : Nat) (ap : Nat → Nat) (aq : Nat → Nat) (nw : Nat) (g : Nat) (ru : Nat) (se : Nat) (ev : Nat) (W : Nat) (H : Nat) (t : Int32) (b : Nat) (f : Nat → Int32) (rn : Nat) (rf : Nat) (p : Nat → Nat) (q : Nat → Nat) (k : Nat) (en : Nat) (e0 : Nat → Nat) (e1 : Nat → Nat) (hW1 : 2 ≤ W) (hW2 : W ≤ 16) (hH1 : 2 ≤ H) (hH2 : H ≤ 16) (hW3 : W % 2 = 0) (hH3 : H % 2 = 0) (hk : k ≤ 8) (he : ∀ i, i < k → evOK W H (e0 i) (e1 i)) (hp : ∀ s, s < 16 → p s < 16) (l : Launch) : CT l G yX0_behindEvents cX0_behindEvents 3 (some (.object "BlockCells$Grid")) { frames := 5, cells := 0, slots := 0, locals := 119 } [.ref ah, .ref nw] [(ah, .inr (0, [.int ms, .int mc, .int mr, .ref ag, .ref ar, .ref ur, .int un])), (ag, .inr (1, [.int (nI aW), .int (nI aH), .int at_, .ref ab])), (ab, ia G 16 af), (ar, .inr (3, [.ref arn, .ref arf])), (arn, ia G 16 (fun ι => nI (ap ι))), (arf, ia G 16 (fun ι => nI (aq ι))), (nw, .inr (7, [.ref g, .ref ru, .ref se, .ref ev])), (g, .inr (1, [.int (nI W), .int (nI H), .int t, .ref b])), (b, ia G 16 f), (ru, .inr (3, [.ref rn, .ref rf])), (rn, ia G 16 (fun ι => nI (p ι))), (rf, ia G 16 (fun ι => nI (q ι))), (ev, .inr (4, [.int (nI k), .ref en])), (en, ia G (3 * 8) (tab (fun ι => nI (e0 ι)) (fun ι => nI (e1 ι)) (fun _ => 0)))] (fun vv ww => vv = some (.ref ag) ∧ ww = [(ah, .inr (0, [.int ms, .int mc, .int mr, .ref ag, .ref ar, .ref ur, .int un])), (ag, .inr (1, [.int (nI W), .int (nI H), .int ((evS W H e0 e1 (t, f, p, q) k).1), .ref ab])), (ab, ia G 16 ((evS W H e0 e1 (t, f, p, q) k).2.1)), (ar, .inr (3, [.ref arn, .ref arf])), (arn, ia G 16 (fun ι => nI ((evS W H e0 e1 (t, f, p, q) k).2.2.1 ι))), (arf, ia G 16 (fun ι => nI ((evS W H e0 e1 (t, f, p, q) k).2.2.2 ι))), (nw, .inr (7, [.ref g, .ref ru, .ref se, .ref ev])), (g, .inr (1, [.int (nI W), .int (nI H), .int t, .ref b])), (b, ia G 16 f), (ru, .inr (3, [.ref rn, .ref rf])), (rn, ia G 16 (fun ι => nI (p ι))), (rf, ia G 16 (fun ι => nI (q ι))), (ev, .inr (4, [.int (nI k), .ref en])), (en, ia G (3 * 8) (tab (fun ι => nI (e0 ι)) (fun ι => nI (e1 ι)) (fun _ => 0)))]) := by
  refine CT.of (lv := [(0, .ref ah), (1, .ref nw)]) RX0 "behindEvents" rfl rfl (by decide +kernel) (Nat.le_of_ble_eq_true rfl) rfl (fun X hX hR => ?_)
  refine j_aload_n (pc := 0) hX dX0_behindEvents_0 0 rfl ?_
  refine j_get (pc := 1) hX f_RX0_24 0 rfl rfl dX0_behindEvents_1 ?_
  refine j_aload_n (pc := 4) hX dX0_behindEvents_4 1 rfl ?_
  refine j_getR (pc := 5) hX f_RX0_107 6 rfl rfl dX0_behindEvents_5 ?_
  refine j_callV (pc := 8) hX kX1_copyOf kVX1_copyOf l_RX0_42 (fun l => c_X1_copyOf G ag aW aH at_ ab af g W H t b f  l) [1, 2, 7, 8] [0, 3, 4, 5, 6, 9, 10, 11, 12, 13] [] rfl 0 1 rfl rfl rfl rfl rfl rfl ⟨rfl, rfl, by decide⟩ rfl rfl (Nat.le_of_ble_eq_true rfl) dX0_behindEvents_8 (fun v w hq => ?_)
  obtain ⟨rfl, rfl⟩ := hq
  refine j_ws [0, 10, 11, 1, 2, 3, 4, 12, 13, 5, 6, 7, 8, 9] (ws' := [(ah, .inr (0, [.int ms, .int mc, .int mr, .ref ag, .ref ar, .ref ur, .int un])), (ag, .inr (1, [.int (nI W), .int (nI H), .int t, .ref ab])), (ab, ia G 16 f), (ar, .inr (3, [.ref arn, .ref arf])), (arn, ia G 16 (fun ι => nI (ap ι))), (arf, ia G 16 (fun ι => nI (aq ι))), (nw, .inr (7, [.ref g, .ref ru, .ref se, .ref ev])), (g, .inr (1, [.int (nI W), .int (nI H), .int t, .ref b])), (b, ia G 16 f), (ru, .inr (3, [.ref rn, .ref rf])), (rn, ia G 16 (fun ι => nI (p ι))), (rf, ia G 16 (fun ι => nI (q ι))), (ev, .inr (4, [.int (nI k), .ref en])), (en, ia G (3 * 8) (tab (fun ι => nI (e0 ι)) (fun ι => nI (e1 ι)) (fun _ => 0)))]) rfl rfl ?_
  refine j_aload_n (pc := 11) hX dX0_behindEvents_11 0 rfl ?_
  refine j_get (pc := 12) hX f_RX0_31 0 rfl rfl dX0_behindEvents_12 ?_
  refine j_aload_n (pc := 15) hX dX0_behindEvents_15 1 rfl ?_
  refine j_getR (pc := 16) hX f_RX0_122 6 rfl rfl dX0_behindEvents_16 ?_
  refine j_callV (pc := 19) hX kX3_copyOf kVX3_copyOf l_RX0_123 (fun l => c_X3_copyOf G ar arn arf ap aq ru rn rf p q  l) [3, 4, 5, 9, 10, 11] [0, 1, 2, 6, 7, 8, 12, 13] [] rfl 0 3 rfl rfl rfl rfl rfl rfl ⟨rfl, rfl, by decide⟩ rfl rfl (Nat.le_of_ble_eq_true rfl) dX0_behindEvents_19 (fun v w hq => ?_)
  obtain ⟨rfl, rfl⟩ := hq
  refine j_ws [0, 1, 2, 8, 9, 10, 3, 4, 5, 11, 12, 13, 6, 7] (ws' := [(ah, .inr (0, [.int ms, .int mc, .int mr, .ref ag, .ref ar, .ref ur, .int un])), (ag, .inr (1, [.int (nI W), .int (nI H), .int t, .ref ab])), (ab, ia G 16 f), (ar, .inr (3, [.ref arn, .ref arf])), (arn, ia G 16 (fun ι => nI (p ι))), (arf, ia G 16 (fun ι => nI (q ι))), (nw, .inr (7, [.ref g, .ref ru, .ref se, .ref ev])), (g, .inr (1, [.int (nI W), .int (nI H), .int t, .ref b])), (b, ia G 16 f), (ru, .inr (3, [.ref rn, .ref rf])), (rn, ia G 16 (fun ι => nI (p ι))), (rf, ia G 16 (fun ι => nI (q ι))), (ev, .inr (4, [.int (nI k), .ref en])), (en, ia G (3 * 8) (tab (fun ι => nI (e0 ι)) (fun ι => nI (e1 ι)) (fun _ => 0)))]) rfl rfl ?_
  refine j_iconstN (pc := 22) (j := 0) hX dX0_behindEvents_22 rfl ?_
  refine j_istore_n (pc := 23) (lv' := [(2, .int (nI 0)), (0, .ref ah), (1, .ref nw)]) hX dX0_behindEvents_23 (by decide) rfl ?_
  have L24 : ∀ (m24 : Nat) (i : Nat) (t3 : Int32) (f3 : Nat → Int32) (p3 q3 : Nat → Nat) (hi : i ≤ k) (h3 : (t3, f3, p3, q3) = evS W H e0 e1 (t, f, p, q) i), k - i < m24 → J X G 3 0 0 [(ah, .inr (0, [.int ms, .int mc, .int mr, .ref ag, .ref ar, .ref ur, .int un])), (ag, .inr (1, [.int (nI W), .int (nI H), .int t3, .ref ab])), (ab, ia G 16 f3), (ar, .inr (3, [.ref arn, .ref arf])), (arn, ia G 16 (fun ι => nI (p3 ι))), (arf, ia G 16 (fun ι => nI (q3 ι))), (nw, .inr (7, [.ref g, .ref ru, .ref se, .ref ev])), (g, .inr (1, [.int (nI W), .int (nI H), .int t, .ref b])), (b, ia G 16 f), (ru, .inr (3, [.ref rn, .ref rf])), (rn, ia G 16 (fun ι => nI (p ι))), (rf, ia G 16 (fun ι => nI (q ι))), (ev, .inr (4, [.int (nI k), .ref en])), (en, ia G (3 * 8) (tab (fun ι => nI (e0 ι)) (fun ι => nI (e1 ι)) (fun _ => 0)))] [(0, .ref ah), (1, .ref nw), (2, .int (nI i))] 24 [] := by
    intro m24
    induction m24 with
    | zero => intro i t3 f3 p3 q3 hi h3 hm24; exact absurd hm24 (Nat.not_lt_zero _)
    | succ m24 ih24 =>
      intro i t3 f3 p3 q3 hi h3 hm24
      refine j_iload_n (pc := 24) hX dX0_behindEvents_24 2 rfl ?_
      refine j_aload_n (pc := 25) hX dX0_behindEvents_25 1 rfl ?_
      refine j_getR (pc := 26) hX f_RX0_126 6 rfl rfl dX0_behindEvents_26 ?_
      refine j_get (pc := 29) hX f_RX0_99 12 rfl rfl dX0_behindEvents_29 ?_
      refine j_icmp_ge (pc := 32) (tgt := 61) hX dX0_behindEvents_32 (by decide) (nI_toInt (n := i) (by omega)) (nI_toInt (n := k) (by omega)) (fun c32 => ?_) (fun c32 => ?_)
      · skip
        refine j_aload_n (pc := 61) hX dX0_behindEvents_61 0 rfl ?_
        refine j_get (pc := 62) hX f_RX0_24 0 rfl rfl dX0_behindEvents_62 ?_
        have hik : i = k := by omega
        refine j_ia (q0 := 2) (f := f3) (g := (evS W H e0 e1 (t, f, p, q) k).2.1) rfl (fun z hz => by rw [← hik, ← h3]) (ws' := [(ah, .inr (0, [.int ms, .int mc, .int mr, .ref ag, .ref ar, .ref ur, .int un])), (ag, .inr (1, [.int (nI W), .int (nI H), .int t3, .ref ab])), (ab, ia G 16 ((evS W H e0 e1 (t, f, p, q) k).2.1)), (ar, .inr (3, [.ref arn, .ref arf])), (arn, ia G 16 (fun ι => nI (p3 ι))), (arf, ia G 16 (fun ι => nI (q3 ι))), (nw, .inr (7, [.ref g, .ref ru, .ref se, .ref ev])), (g, .inr (1, [.int (nI W), .int (nI H), .int t, .ref b])), (b, ia G 16 f), (ru, .inr (3, [.ref rn, .ref rf])), (rn, ia G 16 (fun ι => nI (p ι))), (rf, ia G 16 (fun ι => nI (q ι))), (ev, .inr (4, [.int (nI k), .ref en])), (en, ia G (3 * 8) (tab (fun ι => nI (e0 ι)) (fun ι => nI (e1 ι)) (fun _ => 0)))]) rfl ?_
        refine j_ia (q0 := 4) (f := fun ι => nI (p3 ι)) (g := fun ι => nI ((evS W H e0 e1 (t, f, p, q) k).2.2.1 ι)) rfl (fun z hz => by rw [← hik, ← h3]) (ws' := [(ah, .inr (0, [.int ms, .int mc, .int mr, .ref ag, .ref ar, .ref ur, .int un])), (ag, .inr (1, [.int (nI W), .int (nI H), .int t3, .ref ab])), (ab, ia G 16 ((evS W H e0 e1 (t, f, p, q) k).2.1)), (ar, .inr (3, [.ref arn, .ref arf])), (arn, ia G 16 (fun ι => nI ((evS W H e0 e1 (t, f, p, q) k).2.2.1 ι))), (arf, ia G 16 (fun ι => nI (q3 ι))), (nw, .inr (7, [.ref g, .ref ru, .ref se, .ref ev])), (g, .inr (1, [.int (nI W), .int (nI H), .int t, .ref b])), (b, ia G 16 f), (ru, .inr (3, [.ref rn, .ref rf])), (rn, ia G 16 (fun ι => nI (p ι))), (rf, ia G 16 (fun ι => nI (q ι))), (ev, .inr (4, [.int (nI k), .ref en])), (en, ia G (3 * 8) (tab (fun ι => nI (e0 ι)) (fun ι => nI (e1 ι)) (fun _ => 0)))]) rfl ?_
        refine j_ia (q0 := 5) (f := fun ι => nI (q3 ι)) (g := fun ι => nI ((evS W H e0 e1 (t, f, p, q) k).2.2.2 ι)) rfl (fun z hz => by rw [← hik, ← h3]) (ws' := [(ah, .inr (0, [.int ms, .int mc, .int mr, .ref ag, .ref ar, .ref ur, .int un])), (ag, .inr (1, [.int (nI W), .int (nI H), .int t3, .ref ab])), (ab, ia G 16 ((evS W H e0 e1 (t, f, p, q) k).2.1)), (ar, .inr (3, [.ref arn, .ref arf])), (arn, ia G 16 (fun ι => nI ((evS W H e0 e1 (t, f, p, q) k).2.2.1 ι))), (arf, ia G 16 (fun ι => nI ((evS W H e0 e1 (t, f, p, q) k).2.2.2 ι))), (nw, .inr (7, [.ref g, .ref ru, .ref se, .ref ev])), (g, .inr (1, [.int (nI W), .int (nI H), .int t, .ref b])), (b, ia G 16 f), (ru, .inr (3, [.ref rn, .ref rf])), (rn, ia G 16 (fun ι => nI (p ι))), (rf, ia G 16 (fun ι => nI (q ι))), (ev, .inr (4, [.int (nI k), .ref en])), (en, ia G (3 * 8) (tab (fun ι => nI (e0 ι)) (fun ι => nI (e1 ι)) (fun _ => 0)))]) rfl ?_
        refine j_eqw (ws' := [(ah, .inr (0, [.int ms, .int mc, .int mr, .ref ag, .ref ar, .ref ur, .int un])), (ag, .inr (1, [.int (nI W), .int (nI H), .int ((evS W H e0 e1 (t, f, p, q) k).1), .ref ab])), (ab, ia G 16 ((evS W H e0 e1 (t, f, p, q) k).2.1)), (ar, .inr (3, [.ref arn, .ref arf])), (arn, ia G 16 (fun ι => nI ((evS W H e0 e1 (t, f, p, q) k).2.2.1 ι))), (arf, ia G 16 (fun ι => nI ((evS W H e0 e1 (t, f, p, q) k).2.2.2 ι))), (nw, .inr (7, [.ref g, .ref ru, .ref se, .ref ev])), (g, .inr (1, [.int (nI W), .int (nI H), .int t, .ref b])), (b, ia G 16 f), (ru, .inr (3, [.ref rn, .ref rf])), (rn, ia G 16 (fun ι => nI (p ι))), (rf, ia G 16 (fun ι => nI (q ι))), (ev, .inr (4, [.int (nI k), .ref en])), (en, ia G (3 * 8) (tab (fun ι => nI (e0 ι)) (fun ι => nI (e1 ι)) (fun _ => 0)))]) (congrArg (fun ζ : Int32 => ([(ah, .inr (0, [.int ms, .int mc, .int mr, .ref ag, .ref ar, .ref ur, .int un])), (ag, .inr (1, [.int (nI W), .int (nI H), .int ζ, .ref ab])), (ab, ia G 16 ((evS W H e0 e1 (t, f, p, q) k).2.1)), (ar, .inr (3, [.ref arn, .ref arf])), (arn, ia G 16 (fun ι => nI ((evS W H e0 e1 (t, f, p, q) k).2.2.1 ι))), (arf, ia G 16 (fun ι => nI ((evS W H e0 e1 (t, f, p, q) k).2.2.2 ι))), (nw, .inr (7, [.ref g, .ref ru, .ref se, .ref ev])), (g, .inr (1, [.int (nI W), .int (nI H), .int t, .ref b])), (b, ia G 16 f), (ru, .inr (3, [.ref rn, .ref rf])), (rn, ia G 16 (fun ι => nI (p ι))), (rf, ia G 16 (fun ι => nI (q ι))), (ev, .inr (4, [.int (nI k), .ref en])), (en, ia G (3 * 8) (tab (fun ι => nI (e0 ι)) (fun ι => nI (e1 ι)) (fun _ => 0)))] : va_W)) (show t3 = (evS W H e0 e1 (t, f, p, q) k).1 from by rw [← hik, ← h3])) ?_
        exact j_aret (pc := 65) hX hR (Or.inr ⟨_, rfl⟩) dX0_behindEvents_65 ⟨rfl, rfl⟩
      · skip
        have hei := he i (by omega)
        have hp3 : ∀ s, s < 16 → p3 s < 16 := by have z := evS_lt (W := W) (H := H) (z := (t, f, p, q)) (fun j hj => (he j (Nat.lt_of_lt_of_le hj hi)).2.1) hp; rw [← h3] at z; exact z
        refine j_aload_n (pc := 35) hX dX0_behindEvents_35 0 rfl ?_
        refine j_aload_n (pc := 36) hX dX0_behindEvents_36 1 rfl ?_
        refine j_getR (pc := 37) hX f_RX0_126 6 rfl rfl dX0_behindEvents_37 ?_
        refine j_iload_n (pc := 40) hX dX0_behindEvents_40 2 rfl ?_
        refine j_callV (pc := 41) hX kX4_first kVX4_first l_RX0_112 (fun l => c_X4_first G ev en 8 k (fun ι => nI (e0 ι)) (fun ι => nI (e1 ι)) (fun _ => 0) i (by omega) (by omega) l) [12, 13] [0, 1, 2, 3, 4, 5, 6, 7, 8, 9, 10, 11] [.ref ah] rfl 0 4 rfl rfl rfl rfl rfl rfl ⟨rfl, rfl, by decide⟩ rfl rfl (Nat.le_of_ble_eq_true rfl) dX0_behindEvents_41 (fun v w hq => ?_)
        obtain ⟨rfl, rfl⟩ := hq
        refine j_ws [0, 1, 2, 3, 4, 5, 6, 7, 8, 9, 10, 11, 12, 13] (ws' := [(ah, .inr (0, [.int ms, .int mc, .int mr, .ref ag, .ref ar, .ref ur, .int un])), (ag, .inr (1, [.int (nI W), .int (nI H), .int t3, .ref ab])), (ab, ia G 16 f3), (ar, .inr (3, [.ref arn, .ref arf])), (arn, ia G 16 (fun ι => nI (p3 ι))), (arf, ia G 16 (fun ι => nI (q3 ι))), (nw, .inr (7, [.ref g, .ref ru, .ref se, .ref ev])), (g, .inr (1, [.int (nI W), .int (nI H), .int t, .ref b])), (b, ia G 16 f), (ru, .inr (3, [.ref rn, .ref rf])), (rn, ia G 16 (fun ι => nI (p ι))), (rf, ia G 16 (fun ι => nI (q ι))), (ev, .inr (4, [.int (nI k), .ref en])), (en, ia G (3 * 8) (tab (fun ι => nI (e0 ι)) (fun ι => nI (e1 ι)) (fun _ => 0)))]) rfl rfl ?_
        refine j_aload_n (pc := 44) hX dX0_behindEvents_44 1 rfl ?_
        refine j_getR (pc := 45) hX f_RX0_126 6 rfl rfl dX0_behindEvents_45 ?_
        refine j_iload_n (pc := 48) hX dX0_behindEvents_48 2 rfl ?_
        refine j_callV (pc := 49) hX kX4_second kVX4_second l_RX0_104 (fun l => c_X4_second G ev en 8 k (fun ι => nI (e0 ι)) (fun ι => nI (e1 ι)) (fun _ => 0) i (by omega) (by omega) l) [12, 13] [0, 1, 2, 3, 4, 5, 6, 7, 8, 9, 10, 11] [.int (nI (e0 i)), .ref ah] rfl 0 4 rfl rfl rfl rfl rfl rfl ⟨rfl, rfl, by decide⟩ rfl rfl (Nat.le_of_ble_eq_true rfl) dX0_behindEvents_49 (fun v w hq => ?_)
        obtain ⟨rfl, rfl⟩ := hq
        refine j_ws [0, 1, 2, 3, 4, 5, 6, 7, 8, 9, 10, 11, 12, 13] (ws' := [(ah, .inr (0, [.int ms, .int mc, .int mr, .ref ag, .ref ar, .ref ur, .int un])), (ag, .inr (1, [.int (nI W), .int (nI H), .int t3, .ref ab])), (ab, ia G 16 f3), (ar, .inr (3, [.ref arn, .ref arf])), (arn, ia G 16 (fun ι => nI (p3 ι))), (arf, ia G 16 (fun ι => nI (q3 ι))), (nw, .inr (7, [.ref g, .ref ru, .ref se, .ref ev])), (g, .inr (1, [.int (nI W), .int (nI H), .int t, .ref b])), (b, ia G 16 f), (ru, .inr (3, [.ref rn, .ref rf])), (rn, ia G 16 (fun ι => nI (p ι))), (rf, ia G 16 (fun ι => nI (q ι))), (ev, .inr (4, [.int (nI k), .ref en])), (en, ia G (3 * 8) (tab (fun ι => nI (e0 ι)) (fun ι => nI (e1 ι)) (fun _ => 0)))]) rfl rfl ?_
        refine j_callV (pc := 52) hX kX0_happen kVX0_happen l_RX0_129 (fun l => c_X0_happen G ah ms mc mr ag ar ur un W H t3 ab f3 arn arf p3 q3 (e0 i) (e1 i) (by omega) (by omega) (by omega) (by omega) (by omega) (by omega) (by assumption) (by assumption) l) [0, 1, 2, 3, 4, 5] [6, 7, 8, 9, 10, 11, 12, 13] [] rfl 0 0 rfl rfl rfl rfl rfl rfl ⟨rfl, rfl, by decide⟩ rfl rfl (Nat.le_of_ble_eq_true rfl) dX0_behindEvents_52 (fun v w hq => ?_)
        obtain ⟨rfl, rfl⟩ := hq
        refine j_ws [8, 9, 10, 11, 12, 13, 0, 1, 2, 3, 4, 5, 6, 7] (ws' := [(ah, .inr (0, [.int ms, .int mc, .int mr, .ref ag, .ref ar, .ref ur, .int un])), (ag, .inr (1, [.int (nI W), .int (nI H), .int ((ev1 W H (e0 i) (e1 i) (t3, f3, p3, q3)).1), .ref ab])), (ab, ia G 16 ((ev1 W H (e0 i) (e1 i) (t3, f3, p3, q3)).2.1)), (ar, .inr (3, [.ref arn, .ref arf])), (arn, ia G 16 (fun ι => nI ((ev1 W H (e0 i) (e1 i) (t3, f3, p3, q3)).2.2.1 ι))), (arf, ia G 16 (fun ι => nI ((ev1 W H (e0 i) (e1 i) (t3, f3, p3, q3)).2.2.2 ι))), (nw, .inr (7, [.ref g, .ref ru, .ref se, .ref ev])), (g, .inr (1, [.int (nI W), .int (nI H), .int t, .ref b])), (b, ia G 16 f), (ru, .inr (3, [.ref rn, .ref rf])), (rn, ia G 16 (fun ι => nI (p ι))), (rf, ia G 16 (fun ι => nI (q ι))), (ev, .inr (4, [.int (nI k), .ref en])), (en, ia G (3 * 8) (tab (fun ι => nI (e0 ι)) (fun ι => nI (e1 ι)) (fun _ => 0)))]) rfl rfl ?_
        refine j_iinc (pc := 55) (q := 2) (v := nI (i + 1)) (lv' := [(2, .int (nI (i + 1))), (0, .ref ah), (1, .ref nw)]) hX dX0_behindEvents_55 rfl (nI_inc _ 1) (by decide) rfl ?_
        refine j_goto (pc := 58) (tgt := 24) hX dX0_behindEvents_58 (by decide) ?_
        refine j_ia (q0 := 4) (f := fun ι => nI ((ev1 W H (e0 i) (e1 i) (t3, f3, p3, q3)).2.2.1 ι)) (g := fun ι => nI (((ev1 W H (e0 i) (e1 i) (t3, f3, p3, q3)).2.2.1) ι)) rfl (fun z hz => by rfl) (ws' := [(ah, .inr (0, [.int ms, .int mc, .int mr, .ref ag, .ref ar, .ref ur, .int un])), (ag, .inr (1, [.int (nI W), .int (nI H), .int ((ev1 W H (e0 i) (e1 i) (t3, f3, p3, q3)).1), .ref ab])), (ab, ia G 16 ((ev1 W H (e0 i) (e1 i) (t3, f3, p3, q3)).2.1)), (ar, .inr (3, [.ref arn, .ref arf])), (arn, ia G 16 (fun ι => nI (((ev1 W H (e0 i) (e1 i) (t3, f3, p3, q3)).2.2.1) ι))), (arf, ia G 16 (fun ι => nI ((ev1 W H (e0 i) (e1 i) (t3, f3, p3, q3)).2.2.2 ι))), (nw, .inr (7, [.ref g, .ref ru, .ref se, .ref ev])), (g, .inr (1, [.int (nI W), .int (nI H), .int t, .ref b])), (b, ia G 16 f), (ru, .inr (3, [.ref rn, .ref rf])), (rn, ia G 16 (fun ι => nI (p ι))), (rf, ia G 16 (fun ι => nI (q ι))), (ev, .inr (4, [.int (nI k), .ref en])), (en, ia G (3 * 8) (tab (fun ι => nI (e0 ι)) (fun ι => nI (e1 ι)) (fun _ => 0)))]) rfl ?_
        refine j_ia (q0 := 5) (f := fun ι => nI ((ev1 W H (e0 i) (e1 i) (t3, f3, p3, q3)).2.2.2 ι)) (g := fun ι => nI (((ev1 W H (e0 i) (e1 i) (t3, f3, p3, q3)).2.2.2) ι)) rfl (fun z hz => by rfl) (ws' := [(ah, .inr (0, [.int ms, .int mc, .int mr, .ref ag, .ref ar, .ref ur, .int un])), (ag, .inr (1, [.int (nI W), .int (nI H), .int ((ev1 W H (e0 i) (e1 i) (t3, f3, p3, q3)).1), .ref ab])), (ab, ia G 16 ((ev1 W H (e0 i) (e1 i) (t3, f3, p3, q3)).2.1)), (ar, .inr (3, [.ref arn, .ref arf])), (arn, ia G 16 (fun ι => nI (((ev1 W H (e0 i) (e1 i) (t3, f3, p3, q3)).2.2.1) ι))), (arf, ia G 16 (fun ι => nI (((ev1 W H (e0 i) (e1 i) (t3, f3, p3, q3)).2.2.2) ι))), (nw, .inr (7, [.ref g, .ref ru, .ref se, .ref ev])), (g, .inr (1, [.int (nI W), .int (nI H), .int t, .ref b])), (b, ia G 16 f), (ru, .inr (3, [.ref rn, .ref rf])), (rn, ia G 16 (fun ι => nI (p ι))), (rf, ia G 16 (fun ι => nI (q ι))), (ev, .inr (4, [.int (nI k), .ref en])), (en, ia G (3 * 8) (tab (fun ι => nI (e0 ι)) (fun ι => nI (e1 ι)) (fun _ => 0)))]) rfl ?_
        refine j_lv [1, 2, 0] (lv' := [(0, .ref ah), (1, .ref nw), (2, .int (nI (i + 1)))]) rfl ?_
        exact ih24 (i + 1) ((ev1 W H (e0 i) (e1 i) (t3, f3, p3, q3)).1) ((ev1 W H (e0 i) (e1 i) (t3, f3, p3, q3)).2.1) ((ev1 W H (e0 i) (e1 i) (t3, f3, p3, q3)).2.2.1) ((ev1 W H (e0 i) (e1 i) (t3, f3, p3, q3)).2.2.2) (by omega) (by rw [h3]; rfl) (by omega)
  refine j_lv [1, 2, 0] (lv' := [(0, .ref ah), (1, .ref nw), (2, .int (nI 0))]) rfl ?_
  exact L24 ((k - 0) + 1) 0 t f p q (by omega) (rfl) (Nat.lt_succ_self _)
