set_option maxHeartbeats 20000000 in
set_option maxRecDepth 100000 in
theorem law_loop {X : XT} {G : GT} {nm : String} {sb L : Nat} {xs : Nat → Int32} {x : Nat} {nw : Nat} {nwT : Nat} {ch : Nat} {ah : Nat} {th : Nat} {tp : Nat} {wt : Nat} {rows : Nat} {g : Nat} {ru : Nat} {se : Nat} {ev : Nat} {b : Nat} {rn : Nat} {rf : Nat} {sn : Nat} {en : Nat} {gT : Nat} {ruT : Nat} {seT : Nat} {evT : Nat} {bT : Nat} {rnT : Nat} {rfT : Nat} {snT : Nat} {enT : Nat} {cn : Nat} {ag : Nat} {ar : Nat} {ur : Nat} {ab : Nat} {arn : Nat} {arf : Nat} {tht : Nat} {thp : Nat} {ths : Nat} {tho : Nat} {thm : Nat} {tl : Nat} {pl : Nat} {rw0 : Nat} {rw1 : Nat} {rw2 : Nat} {rw3 : Nat} {lo0 : Nat} {lo1 : Nat} {lo2 : Nat} {lo3 : Nat} {md : Nat} {zc : Nat} {zr : Nat} {zb : Nat} {z1 : Nat} {z2 : Nat} {z3 : Nat} {z4 : Nat} {z5 : Nat} {zm : Nat} {zmr : Nat} {zmb : Nat} {zca : Nat} {zcw : Nat} {zg : Nat} {zt : Nat} {zs : Nat} {zf : Nat} {zy : Nat} {zso : Nat} {zsf : Nat} {zsm : Nat} {ztp : Nat} {zrw : Nat} {zpp : Nat} {zsz : Nat} {zit : Nat} {zk : Nat} (hX : okX X G cL_law RL nm 4 room_1) (hSc : scrOK X sb L xs) (hL : L ≤ 2560) (hEnd : ∀ (ws : va_W) (lv : List (Nat × Value)), J X G 4 77 6522 ws lv 1274 [.int (nI 1)]) : ∀ (r jj : Nat) (itk : Bool) (W : Nat) (H : Nat) (t : Int32) (f : Nat → Int32) (p : Nat → Nat) (q : Nat → Nat) (m : Nat) (s0 : Nat → Int32) (s1 : Nat → Nat) (s2 : Nat → Int32) (k : Nat) (e0 : Nat → Nat) (e1 : Nat → Nat) (WT : Nat) (HT : Nat) (tT : Int32) (fT : Nat → Int32) (pT : Nat → Nat) (qT : Nat → Nat) (mT : Nat) (s0T : Nat → Int32) (s1T : Nat → Nat) (s2T : Nat → Int32) (kT : Nat) (e0T : Nat → Nat) (e1T : Nat → Nat) (c : Nat) (c0 : Nat → Nat) (c1 : Nat → Nat) (c2 : Nat → Int32) (ms : Int32) (mc : Int32) (mr : Int32) (un : Int32) (aW : Nat) (aH : Nat) (at_ : Int32) (af : Nat → Int32) (ap : Nat → Nat) (aq : Nat → Nat) (uf : Nat → Int32) (nM : Nat) (nS : Nat) (thw : Nat) (thh : Nat) (nP : Nat) (La : Nat → Int32) (E : Nat → Nat) (st_ : Nat → Nat) (No : Nat → Nat) (Mo : Nat → Nat) (tn : Nat) (ts : Nat → Int32) (pn : Nat) (ps : Nat → Int32) (sz : Nat → Int32) (II : Nat → Nat → Int64) (mt : Int32) (nt : Int32) (nsh : Int32) (rdw : Int32) (rdh : Int32) (bk : Nat → Int32) (mf : Nat → Int32) (mrf : Nat → Int32) (mbf : Nat → Int32) (gu : Nat → Int32) (La9 : Nat → Int32) (Sk9 : Nat → Nat) (Ff9 : Nat → Nat) (Zy9 : Nat → Nat) (No9 : Nat → Nat) (Mo9 : Nat → Nat) (Ny9 : Nat → Nat) (rr : Nat → Int32) (kp : Nat → Int32) (hO : WOK W H f p q m s0 s1 k e0 e1) (hT : itk = true → WOK WT HT fT pT qT mT s0T s1T kT e0T e1T) (hkp : itk = true → ∀ z, z < 60 → kp z = kpF WT HT tT mT kT fT pT s0T s1T s2T e0T e1T z) (hC : CHK W H c c0 c1) (hpt : tn ≤ 300 ∧ pn ≤ 271) (hsz : ∀ i, i < 4 → -1 ≤ (sz i).toInt ∧ (sz i).toInt ≤ 20) (hst0 : st_ 0 = 0) (hap : ∀ s, s < 16 → ap s < 16), jj ≤ L → L < jj + r → J X G 4 77 6522 [(x, .inr (8, [.ref nw, .ref nwT, .int (bI itk), .ref ch, .ref ah, .ref th, .ref tp, .ref wt, .ref rows])), (nw, .inr (7, [.ref g, .ref ru, .ref se, .ref ev])), (g, .inr (1, [.int (nI W), .int (nI H), .int t, .ref b])), (b, ia G 16 f), (ru, .inr (3, [.ref rn, .ref rf])), (rn, ia G 16 (fun ι => nI (p ι))), (rf, ia G 16 (fun ι => nI (q ι))), (se, .inr (4, [.int (nI m), .ref sn])), (sn, ia G (3 * 5) (tab s0 (fun ι => nI (s1 ι)) s2)), (ev, .inr (4, [.int (nI k), .ref en])), (en, ia G (3 * 8) (tab (fun ι => nI (e0 ι)) (fun ι => nI (e1 ι)) (fun _ => 0))), (nwT, .inr (7, [.ref gT, .ref ruT, .ref seT, .ref evT])), (gT, .inr (1, [.int (nI WT), .int (nI HT), .int tT, .ref bT])), (bT, ia G 16 fT), (ruT, .inr (3, [.ref rnT, .ref rfT])), (rnT, ia G 16 (fun ι => nI (pT ι))), (rfT, ia G 16 (fun ι => nI (qT ι))), (seT, .inr (4, [.int (nI mT), .ref snT])), (snT, ia G (3 * 5) (tab s0T (fun ι => nI (s1T ι)) s2T)), (evT, .inr (4, [.int (nI kT), .ref enT])), (enT, ia G (3 * 8) (tab (fun ι => nI (e0T ι)) (fun ι => nI (e1T ι)) (fun _ => 0))), (ch, .inr (4, [.int (nI c), .ref cn])), (cn, ia G (3 * 12) (tab (fun ι => nI (c0 ι)) (fun ι => nI (c1 ι)) c2)), (ah, .inr (0, [.int ms, .int mc, .int mr, .ref ag, .ref ar, .ref ur, .int un])), (ag, .inr (1, [.int (nI aW), .int (nI aH), .int at_, .ref ab])), (ab, ia G 16 af), (ar, .inr (3, [.ref arn, .ref arf])), (arn, ia G 16 (fun ι => nI (ap ι))), (arf, ia G 16 (fun ι => nI (aq ι))), (ur, ia G 1040 uf), (th, .inr (6, [.int (nI nM), .int (nI nS), .int (nI thw), .int (nI thh), .ref tht, .ref thp, .int (nI nP), .ref ths, .ref tho, .ref thm])), (tht, ia G 256 La), (thp, ia G 256 (fun ι => nI (E ι))), (ths, ia G 65 (fun ι => nI (st_ ι))), (tho, ia G 64 (fun ι => nI (No ι))), (thm, ia G 64 (fun ι => nI (Mo ι))), (tp, .inr (5, [.int (nI tn), .ref tl])), (tl, ia G 300 ts), (wt, .inr (5, [.int (nI pn), .ref pl])), (pl, ia G 271 ps), (rows, ra G 4 (va_up (va_up (va_up (va_up (fun _ => none) 0 (some rw0)) 1 (some rw1)) 2 (some rw2)) 3 (some rw3))), (rw0, .inr (2, [.int (sz 0), .ref lo0])), (lo0, la G 20 (II 0)), (rw1, .inr (2, [.int (sz 1), .ref lo1])), (lo1, la G 20 (II 1)), (rw2, .inr (2, [.int (sz 2), .ref lo2])), (lo2, la G 20 (II 2)), (rw3, .inr (2, [.int (sz 3), .ref lo3])), (lo3, la G 20 (II 3)), (md, .inr (9, [.int (nI W), .int (nI H), .int t, .int (nI m), .int (nI k), .ref zc, .ref zr, .ref zb, .ref z1, .ref z2, .ref z3, .ref z4, .ref z5, .ref zm, .ref zmr, .ref zmb, .int mt, .ref zca, .ref zcw, .int (nI c), .ref zg, .ref zt, .ref zs, .ref zf, .ref zy, .ref zso, .ref zsf, .ref zsm, .int nt, .int nsh, .ref ztp, .ref zrw, .ref zpp, .int (nI tn), .int (nI pn), .int rdw, .int rdh, .ref zsz, .ref zit, .ref zk, .int (bI itk)])), (zc, ia G 16 f), (zr, ia G 16 (fun ι => nI (p ι))), (zb, ia G 16 bk), (z1, ia G 5 s0), (z2, ia G 5 (fun ι => nI (s1 ι))), (z3, ia G 5 s2), (z4, ia G 8 (fun ι => nI (e0 ι))), (z5, ia G 8 (fun ι => nI (e1 ι))), (zm, ia G 16 mf), (zmr, ia G 16 mrf), (zmb, ia G 16 mbf), (zca, ia G 12 (fun ι => nI (caF c0 c1 ι))), (zcw, ia G 12 c2), (zg, ia G 1040 gu), (zt, ia G 256 La9), (zs, ia G 256 (fun ι => nI (Sk9 ι))), (zf, ia G 256 (fun ι => nI (Ff9 ι))), (zy, ia G 256 (fun ι => nI (Zy9 ι))), (zso, ia G 256 (fun ι => nI (No9 ι))), (zsf, ia G 256 (fun ι => nI (Mo9 ι))), (zsm, ia G 256 (fun ι => nI (Ny9 ι))), (ztp, ia G 300 ts), (zrw, ia G 16 rr), (zpp, ia G 300 ps), (zsz, ia G 4 sz), (zit, la G 80 (itF II)), (zk, ia G 66 kp)] [(0, .ref sb), (1, .ref x), (2, .ref md), (3, .int (nI jj))] 18 [] := by
  intro r
  induction r with
  | zero => intro jj itk W H t f p q m s0 s1 s2 k e0 e1 WT HT tT fT pT qT mT s0T s1T s2T kT e0T e1T c c0 c1 c2 ms mc mr un aW aH at_ af ap aq uf nM nS thw thh nP La E st_ No Mo tn ts pn ps sz II mt nt nsh rdw rdh bk mf mrf mbf gu La9 Sk9 Ff9 Zy9 No9 Mo9 Ny9 rr kp hO hT hkp hC hpt hsz hst0 hap hjb hr; exact absurd hr (by omega)
  | succ r ihr =>
    intro jj itk W H t f p q m s0 s1 s2 k e0 e1 WT HT tT fT pT qT mT s0T s1T s2T kT e0T e1T c c0 c1 c2 ms mc mr un aW aH at_ af ap aq uf nM nS thw thh nP La E st_ No Mo tn ts pn ps sz II mt nt nsh rdw rdh bk mf mrf mbf gu La9 Sk9 Ff9 Zy9 No9 Mo9 Ny9 rr kp hO hT hkp hC hpt hsz hst0 hap hjb hr
    refine j_iload_n (pc := 18) hX dL_law_18 3 rfl ?_
    refine j_aload_n (pc := 19) hX dL_law_19 0 rfl ?_
    refine j_slen (pc := 20) hX hSc dL_law_20 ?_
    refine j_iconstN (pc := 21) (j := 5) hX dL_law_21 rfl ?_
    refine j_isub (pc := 22) hX dL_law_22 ?_
    refine j_icmp_gt (pc := 23) (tgt := 1273) hX dL_law_23 (by decide) (nI_toInt (n := jj) (by omega)) rfl (fun c23 => ?_) (fun c23 => ?_)
    · skip
      skip
      exact j_iconstN (pc := 1273) (j := 1) hX dL_law_1273 rfl (hEnd _ _)
    · skip
      have e5 : (nI L - nI 5).toInt = (L : Int) - 5 := pk_sub_toInt (by omega) (by omega)
      rw [e5] at c23
      have hjj : jj + 5 ≤ L := by omega
      have ih18 : LNext X G sb jj x nw nwT ch ah th tp wt rows g ru se ev b rn rf sn en gT ruT seT evT bT rnT rfT snT enT cn ag ar ur ab arn arf tht thp ths tho thm tl pl rw0 rw1 rw2 rw3 lo0 lo1 lo2 lo3 md zc zr zb z1 z2 z3 z4 z5 zm zmr zmb zca zcw zg zt zs zf zy zso zsf zsm ztp zrw zpp zsz zit zk := fun itk W H t f p q m s0 s1 s2 k e0 e1 WT HT tT fT pT qT mT s0T s1T s2T kT e0T e1T c c0 c1 c2 ms mc mr un aW aH at_ af ap aq uf nM nS thw thh nP La E st_ No Mo tn ts pn ps sz II mt nt nsh rdw rdh bk mf mrf mbf gu La9 Sk9 Ff9 Zy9 No9 Mo9 Ny9 rr kp hO hT hkp hC hpt hsz hst0 hap _ => ihr (jj + 5) itk W H t f p q m s0 s1 s2 k e0 e1 WT HT tT fT pT qT mT s0T s1T s2T kT e0T e1T c c0 c1 c2 ms mc mr un aW aH at_ af ap aq uf nM nS thw thh nP La E st_ No Mo tn ts pn ps sz II mt nt nsh rdw rdh bk mf mrf mbf gu La9 Sk9 Ff9 Zy9 No9 Mo9 Ny9 rr kp hO hT hkp hC hpt hsz hst0 hap hjj (by omega)
      refine j_aload_n (pc := 26) hX dL_law_26 0 rfl ?_
      refine j_iload_n (pc := 27) hX dL_law_27 3 rfl ?_
      refine j_sld (pc := 28) hX hSc (i := jj) (by omega) hL dL_law_28 ?_
      refine j_bipush (pc := 29) (v := nI 63) hX dL_law_29 (by decide) ?_
      refine j_iand (pc := 31) hX dL_law_31 ?_
      rcases (show ((xs jj) &&& (nI 63)).toInt = 0 ∨ ((xs jj) &&& (nI 63)).toInt = 1 ∨ ((xs jj) &&& (nI 63)).toInt = 2 ∨ ((xs jj) &&& (nI 63)).toInt = 3 ∨ ((xs jj) &&& (nI 63)).toInt = 4 ∨ ((xs jj) &&& (nI 63)).toInt = 5 ∨ ((xs jj) &&& (nI 63)).toInt = 6 ∨ ((xs jj) &&& (nI 63)).toInt = 7 ∨ ((xs jj) &&& (nI 63)).toInt = 8 ∨ ((xs jj) &&& (nI 63)).toInt = 9 ∨ ((xs jj) &&& (nI 63)).toInt = 10 ∨ ((xs jj) &&& (nI 63)).toInt = 11 ∨ ((xs jj) &&& (nI 63)).toInt = 12 ∨ ((xs jj) &&& (nI 63)).toInt = 13 ∨ ((xs jj) &&& (nI 63)).toInt = 14 ∨ ((xs jj) &&& (nI 63)).toInt = 15 ∨ ((xs jj) &&& (nI 63)).toInt = 16 ∨ ((xs jj) &&& (nI 63)).toInt = 17 ∨ ((xs jj) &&& (nI 63)).toInt = 18 ∨ ((xs jj) &&& (nI 63)).toInt = 19 ∨ ((xs jj) &&& (nI 63)).toInt = 20 ∨ ((xs jj) &&& (nI 63)).toInt = 21 ∨ ((xs jj) &&& (nI 63)).toInt = 22 ∨ ((xs jj) &&& (nI 63)).toInt = 23 ∨ ((xs jj) &&& (nI 63)).toInt = 24 ∨ ((xs jj) &&& (nI 63)).toInt = 25 ∨ ((xs jj) &&& (nI 63)).toInt = 26 ∨ ((xs jj) &&& (nI 63)).toInt = 27 ∨ ((xs jj) &&& (nI 63)).toInt = 28 ∨ ((xs jj) &&& (nI 63)).toInt = 29 ∨ ((xs jj) &&& (nI 63)).toInt = 30 ∨ ((xs jj) &&& (nI 63)).toInt = 31 ∨ ((xs jj) &&& (nI 63)).toInt = 32 ∨ ((xs jj) &&& (nI 63)).toInt = 33 ∨ ((xs jj) &&& (nI 63)).toInt = 34 ∨ ((xs jj) &&& (nI 63)).toInt = 35 ∨ (((xs jj) &&& (nI 63)).toInt < 0 ∨ 35 < ((xs jj) &&& (nI 63)).toInt) from by omega) with s32 | s32 | s32 | s32 | s32 | s32 | s32 | s32 | s32 | s32 | s32 | s32 | s32 | s32 | s32 | s32 | s32 | s32 | s32 | s32 | s32 | s32 | s32 | s32 | s32 | s32 | s32 | s32 | s32 | s32 | s32 | s32 | s32 | s32 | s32 | s32 | s32
      · skip
        refine j_tsIn (pc := 32) (off := 160) (tgt := 192) hX dL_law_32 (0) s32 (by decide) (by decide) rfl (by decide) ?_
        exact lm_size hX hSc hjj hL hO hT hkp hC hpt hsz hst0 hap ih18
      · skip
        refine j_tsIn (pc := 32) (off := 193) (tgt := 225) hX dL_law_32 (1) s32 (by decide) (by decide) rfl (by decide) ?_
        exact lm_toggle hX hSc hjj hL hO hT hkp hC hpt hsz hst0 hap ih18
      · skip
        refine j_tsIn (pc := 32) (off := 226) (tgt := 258) hX dL_law_32 (2) s32 (by decide) (by decide) rfl (by decide) ?_
        exact lm_undo hX hSc hjj hL hO hT hkp hC hpt hsz hst0 hap ih18
      · skip
        refine j_tsIn (pc := 32) (off := 239) (tgt := 271) hX dL_law_32 (3) s32 (by decide) (by decide) rfl (by decide) ?_
        exact lm_cell hX hSc hjj hL hO hT hkp hC hpt hsz hst0 hap ih18
      · skip
        refine j_tsIn (pc := 32) (off := 272) (tgt := 304) hX dL_law_32 (4) s32 (by decide) (by decide) rfl (by decide) ?_
        exact lm_told hX hSc hjj hL hO hT hkp hC hpt hsz hst0 hap ih18
      · skip
        refine j_tsIn (pc := 32) (off := 295) (tgt := 327) hX dL_law_32 (5) s32 (by decide) (by decide) rfl (by decide) ?_
        exact lm_rule hX hSc hjj hL hO hT hkp hC hpt hsz hst0 hap ih18
      · skip
        refine j_tsIn (pc := 32) (off := 318) (tgt := 350) hX dL_law_32 (6) s32 (by decide) (by decide) rfl (by decide) ?_
        exact lm_change hX hSc hjj hL hO hT hkp hC hpt hsz hst0 hap ih18
      · skip
        refine j_tsIn (pc := 32) (off := 351) (tgt := 383) hX dL_law_32 (7) s32 (by decide) (by decide) rfl (by decide) ?_
        exact lm_becomes hX hSc hjj hL hO hT hkp hC hpt hsz hst0 hap ih18
      · skip
        refine j_tsIn (pc := 32) (off := 400) (tgt := 432) hX dL_law_32 (8) s32 (by decide) (by decide) rfl (by decide) ?_
        exact lm_steps hX hSc hjj hL hO hT hkp hC hpt hsz hst0 hap ih18
      · skip
        refine j_tsIn (pc := 32) (off := 423) (tgt := 455) hX dL_law_32 (9) s32 (by decide) (by decide) rfl (by decide) ?_
        exact lm_block hX hSc hjj hL hO hT hkp hC hpt hsz hst0 hap ih18
      · skip
        refine j_tsIn (pc := 32) (off := 456) (tgt := 488) hX dL_law_32 (10) s32 (by decide) (by decide) rfl (by decide) ?_
        exact lm_then hX hSc hjj hL hO hT hkp hC hpt hsz hst0 hap ih18
      · skip
        refine j_tsIn (pc := 32) (off := 499) (tgt := 531) hX dL_law_32 (11) s32 (by decide) (by decide) rfl (by decide) ?_
        exact lm_sum hX hSc hjj hL hO hT hkp hC hpt hsz hst0 hap ih18
      · skip
        refine j_tsIn (pc := 32) (off := 552) (tgt := 584) hX dL_law_32 (12) s32 (by decide) (by decide) rfl (by decide) ?_
        exact lm_kept hX hSc hjj hL hO hT hkp hC hpt hsz hst0 hap ih18
      · skip
        refine j_tsIn (pc := 32) (off := 605) (tgt := 637) hX dL_law_32 (13) s32 (by decide) (by decide) rfl (by decide) ?_
        exact lm_again hX hSc hjj hL hO hT hkp hC hpt hsz hst0 hap ih18
      · skip
        refine j_tsIn (pc := 32) (off := 618) (tgt := 650) hX dL_law_32 (14) s32 (by decide) (by decide) rfl (by decide) ?_
        exact lm_moved hX hSc hjj hL hO hT hkp hC hpt hsz hst0 hap ih18
      · skip
        refine j_tsIn (pc := 32) (off := 641) (tgt := 673) hX dL_law_32 (15) s32 (by decide) (by decide) rfl (by decide) ?_
        exact lm_unlike hX hSc hjj hL hO hT hkp hC hpt hsz hst0 hap ih18
      · skip
        refine j_tsIn (pc := 32) (off := 664) (tgt := 696) hX dL_law_32 (16) s32 (by decide) (by decide) rfl (by decide) ?_
        exact lm_thing hX hSc hjj hL hO hT hkp hC hpt hsz hst0 hap ih18
      · skip
        refine j_tsIn (pc := 32) (off := 697) (tgt := 729) hX dL_law_32 (17) s32 (by decide) (by decide) rfl (by decide) ?_
        exact lm_thingAt hX hSc hjj hL hO hT hkp hC hpt hsz hst0 hap ih18
      · skip
        refine j_tsIn (pc := 32) (off := 730) (tgt := 762) hX dL_law_32 (18) s32 (by decide) (by decide) rfl (by decide) ?_
        exact lm_shape hX hSc hjj hL hO hT hkp hC hpt hsz hst0 hap ih18
      · skip
        refine j_tsIn (pc := 32) (off := 763) (tgt := 795) hX dL_law_32 (19) s32 (by decide) (by decide) rfl (by decide) ?_
        exact lm_feed hX hSc hjj hL hO hT hkp hC hpt hsz hst0 hap ih18
      · skip
        refine j_tsIn (pc := 32) (off := 786) (tgt := 818) hX dL_law_32 (20) s32 (by decide) (by decide) rfl (by decide) ?_
        exact lm_read hX hSc hjj hL hO hT hkp hC hpt hsz hst0 hap ih18
      · skip
        refine j_tsIn (pc := 32) (off := 799) (tgt := 831) hX dL_law_32 (21) s32 (by decide) (by decide) rfl (by decide) ?_
        exact lm_spell hX hSc hjj hL hO hT hkp hC hpt hsz hst0 hap ih18
      · skip
        refine j_tsIn (pc := 32) (off := 812) (tgt := 844) hX dL_law_32 (22) s32 (by decide) (by decide) rfl (by decide) ?_
        exact lm_paper hX hSc hjj hL hO hT hkp hC hpt hsz hst0 hap ih18
      · skip
        refine j_tsIn (pc := 32) (off := 835) (tgt := 867) hX dL_law_32 (23) s32 (by decide) (by decide) rfl (by decide) ?_
        exact lm_list hX hSc hjj hL hO hT hkp hC hpt hsz hst0 hap ih18
      · skip
        refine j_tsIn (pc := 32) (off := 868) (tgt := 900) hX dL_law_32 (24) s32 (by decide) (by decide) rfl (by decide) ?_
        exact lm_set hX hSc hjj hL hO hT hkp hC hpt hsz hst0 hap ih18
      · skip
        refine j_tsIn (pc := 32) (off := 941) (tgt := 973) hX dL_law_32 (25) s32 (by decide) (by decide) rfl (by decide) ?_
        exact lm_get hX hSc hjj hL hO hT hkp hC hpt hsz hst0 hap ih18
      · skip
        refine j_tsIn (pc := 32) (off := 975) (tgt := 1007) hX dL_law_32 (26) s32 (by decide) (by decide) rfl (by decide) ?_
        exact lm_lay hX hSc hjj hL hO hT hkp hC hpt hsz hst0 hap ih18
      · skip
        refine j_tsIn (pc := 32) (off := 1008) (tgt := 1040) hX dL_law_32 (27) s32 (by decide) (by decide) rfl (by decide) ?_
        exact lm_load hX hSc hjj hL hO hT hkp hC hpt hsz hst0 hap ih18
      · skip
        refine j_tsIn (pc := 32) (off := 1041) (tgt := 1073) hX dL_law_32 (28) s32 (by decide) (by decide) rfl (by decide) ?_
        exact lm_judge hX hSc hjj hL hO hT hkp hC hpt hsz hst0 hap ih18
      · skip
        refine j_tsIn (pc := 32) (off := 1074) (tgt := 1106) hX dL_law_32 (29) s32 (by decide) (by decide) rfl (by decide) ?_
        exact lm_see hX hSc hjj hL hO hT hkp hC hpt hsz hst0 hap ih18
      · skip
        refine j_tsIn (pc := 32) (off := 1117) (tgt := 1149) hX dL_law_32 (30) s32 (by decide) (by decide) rfl (by decide) ?_
        exact lm_fits hX hSc hjj hL hO hT hkp hC hpt hsz hst0 hap ih18
      · skip
        refine j_tsIn (pc := 32) (off := 1130) (tgt := 1162) hX dL_law_32 (31) s32 (by decide) (by decide) rfl (by decide) ?_
        exact lm_event hX hSc hjj hL hO hT hkp hC hpt hsz hst0 hap ih18
      · skip
        refine j_tsIn (pc := 32) (off := 1163) (tgt := 1195) hX dL_law_32 (32) s32 (by decide) (by decide) rfl (by decide) ?_
        exact lm_after hX hSc hjj hL hO hT hkp hC hpt hsz hst0 hap ih18
      · skip
        refine j_tsIn (pc := 32) (off := 1186) (tgt := 1218) hX dL_law_32 (33) s32 (by decide) (by decide) rfl (by decide) ?_
        exact lm_image hX hSc hjj hL hO hT hkp hC hpt hsz hst0 hap ih18
      · skip
        refine j_tsIn (pc := 32) (off := 1199) (tgt := 1231) hX dL_law_32 (34) s32 (by decide) (by decide) rfl (by decide) ?_
        exact lm_back hX hSc hjj hL hO hT hkp hC hpt hsz hst0 hap ih18
      · skip
        refine j_tsIn (pc := 32) (off := 1212) (tgt := 1244) hX dL_law_32 (35) s32 (by decide) (by decide) rfl (by decide) ?_
        exact lm_count hX hSc hjj hL hO hT hkp hC hpt hsz hst0 hap ih18
      · skip
        refine j_tsOut (pc := 32) (tgt := 1267) hX dL_law_32 s32 (by decide) ?_
        refine j_iinc (pc := 1267) (q := 3) (v := nI (jj + 5)) (lv' := [(3, .int (nI (jj + 5))), (0, .ref sb), (1, .ref x), (2, .ref md)]) hX dL_law_1267 rfl (nI_inc _ 5) (by decide) rfl ?_
        refine j_goto (pc := 1270) (tgt := 18) hX dL_law_1270 (by decide) ?_
        refine j_lv [1, 2, 3, 0] (lv' := [(0, .ref sb), (1, .ref x), (2, .ref md), (3, .int (nI (jj + 5)))]) rfl ?_
        exact ih18 itk W H t f p q m s0 s1 s2 k e0 e1 WT HT tT fT pT qT mT s0T s1T s2T kT e0T e1T c c0 c1 c2 ms mc mr un aW aH at_ af ap aq uf nM nS thw thh nP La E st_ No Mo tn ts pn ps sz II mt nt nsh rdw rdh bk mf mrf mbf gu La9 Sk9 Ff9 Zy9 No9 Mo9 Ny9 rr kp (by first | exact hO | assumption) (by first | exact hT | assumption) (by first | exact hkp | assumption) (by first | exact hC | assumption) (by first | exact hpt | assumption) (by first | exact hsz | assumption) (by first | exact hst0 | assumption) (by first | exact hap | assumption) (trivial)
