set_option maxHeartbeats 4000000 in
set_option maxRecDepth 100000 in
theorem c_X6_nameShapes (G : GT) (th : Nat) (nM : Nat) (nS : Nat) (W : Nat) (H : Nat) (tht : Nat) (thp : Nat) (nP : Nat) (ths : Nat) (tho : Nat) (thm : Nat) (La : Nat → Int32) (E : Nat → Nat) (st_ : Nat → Nat) (No : Nat → Nat) (Mo : Nat → Nat) (f : Nat → Int32) (Ln : Nat → Nat) (al : Nat → Nat → Bool) (hW1 : 2 ≤ W) (hW2 : W ≤ 16) (hH1 : 2 ≤ H) (hH2 : H ≤ 16) (hS : ThS W H f nM Ln E st_) (hLb : LbC W H f La Ln) (hal : ∀ m i, al m i = true ↔ alP W H f Ln (fun k => E (st_ k)) (fun k => st_ (k + 1) - st_ k) m i) (l : Launch) : CT l G yX6_nameShapes cX6_nameShapes 3 none { frames := 3, cells := 0, slots := 0, locals := 72 } [.ref th] [(th, .inr (6, [.int (nI nM), .int (nI nS), .int (nI W), .int (nI H), .ref tht, .ref thp, .int (nI nP), .ref ths, .ref tho, .ref thm])), (tht, ia G 256 La), (thp, ia G 256 (fun ι => nI (E ι))), (ths, ia G 65 (fun ι => nI (st_ ι))), (tho, ia G 64 (fun ι => nI (No ι))), (thm, ia G 64 (fun ι => nI (Mo ι)))] (fun vv ww => ∃ (No2 Mo2 : Nat → Nat), vv = none ∧ ww = [(th, .inr (6, [.int (nI nM), .int (nI ((shS al nM).1)), .int (nI W), .int (nI H), .ref tht, .ref thp, .int (nI nP), .ref ths, .ref tho, .ref thm])), (tht, ia G 256 La), (thp, ia G 256 (fun ι => nI (E ι))), (ths, ia G 65 (fun ι => nI (st_ ι))), (tho, ia G 64 (fun ι => nI (No2 ι))), (thm, ia G 64 (fun ι => nI (Mo2 ι)))] ∧ (∀ z, z < nM → No2 z = (shS al nM).2.1 z) ∧ (∀ z, z < (shS al nM).1 → Mo2 z = (shS al nM).2.2 z)) := by
  refine CT.of (lv := [(0, .ref th)]) RX6 "nameShapes" rfl rfl (by decide +kernel) (Nat.le_of_ble_eq_true rfl) rfl (fun X hX hR => ?_)
  have h64 := th_64 hW2 hH2 hS
  refine j_aload_n (pc := 0) hX dX6_nameShapes_0 0 rfl ?_
  refine j_iconstN (pc := 1) (j := 0) hX dX6_nameShapes_1 rfl ?_
  refine j_put (pc := 2) (ws' := [(th, .inr (6, [.int (nI nM), .int (nI 0), .int (nI W), .int (nI H), .ref tht, .ref thp, .int (nI nP), .ref ths, .ref tho, .ref thm])), (tht, ia G 256 La), (thp, ia G 256 (fun ι => nI (E ι))), (ths, ia G 65 (fun ι => nI (st_ ι))), (tho, ia G 64 (fun ι => nI (No ι))), (thm, ia G 64 (fun ι => nI (Mo ι)))]) hX f_RX6_15 0 rfl rfl rfl (Nat.le_of_ble_eq_true rfl) rfl dX6_nameShapes_2 ?_
  refine j_iconstN (pc := 5) (j := 0) hX dX6_nameShapes_5 rfl ?_
  refine j_istore_n (pc := 6) (lv' := [(1, .int (nI 0)), (0, .ref th)]) hX dX6_nameShapes_6 (by decide) rfl ?_
  have L7 : ∀ (m7 : Nat) (i nS3 : Nat) (No3 Mo3 : Nat → Nat) (hi : i ≤ nM) (hz : nS3 = (shS al i).1) (hN : ∀ z, z < i → No3 z = (shS al i).2.1 z) (hMo : ∀ t, t < nS3 → Mo3 t = (shS al i).2.2 t), nM - i < m7 → J X G 3 0 0 [(th, .inr (6, [.int (nI nM), .int (nI nS3), .int (nI W), .int (nI H), .ref tht, .ref thp, .int (nI nP), .ref ths, .ref tho, .ref thm])), (tht, ia G 256 La), (thp, ia G 256 (fun ι => nI (E ι))), (ths, ia G 65 (fun ι => nI (st_ ι))), (tho, ia G 64 (fun ι => nI (No3 ι))), (thm, ia G 64 (fun ι => nI (Mo3 ι)))] [(0, .ref th), (1, .int (nI i))] 7 [] := by
    intro m7
    induction m7 with
    | zero => intro i nS3 No3 Mo3 hi hz hN hMo hm7; exact absurd hm7 (Nat.not_lt_zero _)
    | succ m7 ih7 =>
      intro i nS3 No3 Mo3 hi hz hN hMo hm7
      have hok := shS_ok al i
      refine j_iload_n (pc := 7) hX dX6_nameShapes_7 1 rfl ?_
      refine j_aload_n (pc := 8) hX dX6_nameShapes_8 0 rfl ?_
      refine j_get (pc := 9) hX f_RX6_9 0 rfl rfl dX6_nameShapes_9 ?_
      refine j_icmp_ge (pc := 12) (tgt := 86) hX dX6_nameShapes_12 (by decide) (nI_toInt (n := i) (by omega)) (nI_toInt (n := nM) (by omega)) (fun c12 => ?_) (fun c12 => ?_)
      · skip
        have hin : i = nM := by omega
        refine j_eqw (ws' := [(th, .inr (6, [.int (nI nM), .int (nI ((shS al nM).1)), .int (nI W), .int (nI H), .ref tht, .ref thp, .int (nI nP), .ref ths, .ref tho, .ref thm])), (tht, ia G 256 La), (thp, ia G 256 (fun ι => nI (E ι))), (ths, ia G 65 (fun ι => nI (st_ ι))), (tho, ia G 64 (fun ι => nI (No3 ι))), (thm, ia G 64 (fun ι => nI (Mo3 ι)))]) (congrArg (fun ζ : Int32 => ([(th, .inr (6, [.int (nI nM), .int ζ, .int (nI W), .int (nI H), .ref tht, .ref thp, .int (nI nP), .ref ths, .ref tho, .ref thm])), (tht, ia G 256 La), (thp, ia G 256 (fun ι => nI (E ι))), (ths, ia G 65 (fun ι => nI (st_ ι))), (tho, ia G 64 (fun ι => nI (No3 ι))), (thm, ia G 64 (fun ι => nI (Mo3 ι)))] : va_W)) (show nI nS3 = nI ((shS al nM).1) from by rw [hz, hin])) ?_
        exact j_vret (pc := 86) hX hR dX6_nameShapes_86 ⟨No3, Mo3, rfl, rfl, (fun z hz2 => by rw [hN z (by omega), hin]), (fun z hz2 => by rw [hMo z (by rw [hz, hin]; exact hz2), hin])⟩
      · skip
        refine j_iconstN (pc := 15) (j := 0) hX dX6_nameShapes_15 rfl ?_
        refine j_istore_n (pc := 16) (lv' := [(2, .int (nI 0)), (0, .ref th), (1, .int (nI i))]) hX dX6_nameShapes_16 (by decide) rfl ?_
        have L17 : ∀ (m17 : Nat) (s c : Nat) (hs : s + c = nS3) (hsl : shL al (shS al i).2.2 i 0 (shS al i).1 = shL al (shS al i).2.2 i s c), c < m17 → J X G 3 0 0 [(th, .inr (6, [.int (nI nM), .int (nI nS3), .int (nI W), .int (nI H), .ref tht, .ref thp, .int (nI nP), .ref ths, .ref tho, .ref thm])), (tht, ia G 256 La), (thp, ia G 256 (fun ι => nI (E ι))), (ths, ia G 65 (fun ι => nI (st_ ι))), (tho, ia G 64 (fun ι => nI (No3 ι))), (thm, ia G 64 (fun ι => nI (Mo3 ι)))] [(0, .ref th), (1, .int (nI i)), (2, .int (nI s))] 17 [] := by
          intro m17
          induction m17 with
          | zero => intro s c hs hsl hm17; exact absurd hm17 (Nat.not_lt_zero _)
          | succ m17 ih17 =>
            intro s c hs hsl hm17
            refine j_iload_n (pc := 17) hX dX6_nameShapes_17 2 rfl ?_
            refine j_aload_n (pc := 18) hX dX6_nameShapes_18 0 rfl ?_
            refine j_get (pc := 19) hX f_RX6_15 0 rfl rfl dX6_nameShapes_19 ?_
            refine j_icmp_ge (pc := 22) (tgt := 44) hX dX6_nameShapes_22 (by decide) (nI_toInt (n := s) (by omega)) (nI_toInt (n := nS3) (by omega)) (fun c22 => ?_) (fun c22 => ?_)
            · skip
              have hsv : shL al (shS al i).2.2 i 0 (shS al i).1 = s := by rw [hsl, show c = 0 from by omega]; rfl
              refine j_iload_n (pc := 44) hX dX6_nameShapes_44 2 rfl ?_
              refine j_aload_n (pc := 45) hX dX6_nameShapes_45 0 rfl ?_
              refine j_get (pc := 46) hX f_RX6_15 0 rfl rfl dX6_nameShapes_46 ?_
              refine j_icmp_ne (pc := 49) (tgt := 71) hX dX6_nameShapes_49 (by decide) (nI_toInt (n := s) (by omega)) (nI_toInt (n := nS3) (by omega)) (fun c49 => ?_) (fun c49 => ?_)
              · skip
                have e49 : s ≠ (shS al i).1 := by omega
                have hsh : shS al (i + 1) = ((shS al i).1, updN (shS al i).2.1 i s, (shS al i).2.2) := by show sh1 i _ _ = _; rw [hsv]; unfold sh1; rw [if_neg e49, if_neg e49]
                refine j_aload_n (pc := 71) hX dX6_nameShapes_71 0 rfl ?_
                refine j_get (pc := 72) hX f_RX6_37 0 rfl rfl dX6_nameShapes_72 ?_
                refine j_iload_n (pc := 75) hX dX6_nameShapes_75 1 rfl ?_
                refine j_iload_n (pc := 76) hX dX6_nameShapes_76 2 rfl ?_
                refine j_callSN (pc := 77) hX kX8_put kSX8_put l_RX6_59 (fun l => c_X8_put G tho 64 (fun ι => nI (No3 ι)) i (nI s) (by omega) (by omega) l) [4] [0, 1, 2, 3, 5] [] rfl rfl rfl rfl ⟨rfl, rfl, by decide⟩ rfl rfl (Nat.le_of_ble_eq_true rfl) dX6_nameShapes_77 (fun v w hq => ?_)
                obtain ⟨rfl, rfl⟩ := hq
                refine j_ws [0, 1, 2, 3, 5, 4] (ws' := [(th, .inr (6, [.int (nI nM), .int (nI nS3), .int (nI W), .int (nI H), .ref tht, .ref thp, .int (nI nP), .ref ths, .ref tho, .ref thm])), (tht, ia G 256 La), (thp, ia G 256 (fun ι => nI (E ι))), (ths, ia G 65 (fun ι => nI (st_ ι))), (tho, ia G 64 (upd (fun ι => nI (No3 ι)) i (nI s))), (thm, ia G 64 (fun ι => nI (Mo3 ι)))]) rfl rfl ?_
                refine j_ia (q0 := 4) (f := upd (fun ι => nI (No3 ι)) i (nI s)) (g := fun ι => nI (updN No3 i s ι)) rfl (fun z hz => by exact updNI) (ws' := [(th, .inr (6, [.int (nI nM), .int (nI nS3), .int (nI W), .int (nI H), .ref tht, .ref thp, .int (nI nP), .ref ths, .ref tho, .ref thm])), (tht, ia G 256 La), (thp, ia G 256 (fun ι => nI (E ι))), (ths, ia G 65 (fun ι => nI (st_ ι))), (tho, ia G 64 (fun ι => nI (updN No3 i s ι))), (thm, ia G 64 (fun ι => nI (Mo3 ι)))]) rfl ?_
                refine j_iinc (pc := 80) (q := 1) (v := nI (i + 1)) (lv' := [(1, .int (nI (i + 1))), (0, .ref th), (2, .int (nI s))]) hX dX6_nameShapes_80 rfl (nI_inc _ 1) (by decide) rfl ?_
                refine j_goto (pc := 83) (tgt := 7) hX dX6_nameShapes_83 (by decide) ?_
                refine j_ia (q0 := 4) (f := fun ι => nI (updN No3 i s ι)) (g := fun ι => nI ((updN No3 i s) ι)) rfl (fun z hz => by rfl) (ws' := [(th, .inr (6, [.int (nI nM), .int (nI nS3), .int (nI W), .int (nI H), .ref tht, .ref thp, .int (nI nP), .ref ths, .ref tho, .ref thm])), (tht, ia G 256 La), (thp, ia G 256 (fun ι => nI (E ι))), (ths, ia G 65 (fun ι => nI (st_ ι))), (tho, ia G 64 (fun ι => nI ((updN No3 i s) ι))), (thm, ia G 64 (fun ι => nI (Mo3 ι)))]) rfl ?_
                refine j_lv [1, 0] (lv' := [(0, .ref th), (1, .int (nI (i + 1)))]) rfl ?_
                exact ih7 (i + 1) nS3 (updN No3 i s) Mo3 (by omega) (by rw [hsh]; simp only; omega) (fun z hz2 => by rw [hsh]; show updN No3 i s z = updN _ i s z; unfold updN; split; rfl; exact hN z (by omega)) (fun t ht => by rw [hsh]; first | exact hMo t (by omega) | (show updN Mo3 s i t = updN _ s i t; unfold updN; split; rfl; exact hMo t (by omega))) (by omega)
              · skip
                have e49 : s = (shS al i).1 := by omega
                have hsh : shS al (i + 1) = ((shS al i).1 + 1, updN (shS al i).2.1 i s, updN (shS al i).2.2 s i) := by show sh1 i _ _ = _; rw [hsv]; unfold sh1; rw [if_pos e49, if_pos e49]
                refine j_aload_n (pc := 52) hX dX6_nameShapes_52 0 rfl ?_
                refine j_get (pc := 53) hX f_RX6_40 0 rfl rfl dX6_nameShapes_53 ?_
                refine j_iload_n (pc := 56) hX dX6_nameShapes_56 2 rfl ?_
                refine j_iload_n (pc := 57) hX dX6_nameShapes_57 1 rfl ?_
                refine j_callSN (pc := 58) hX kX8_put kSX8_put l_RX6_59 (fun l => c_X8_put G thm 64 (fun ι => nI (Mo3 ι)) s (nI i) (by omega) (by omega) l) [5] [0, 1, 2, 3, 4] [] rfl rfl rfl rfl ⟨rfl, rfl, by decide⟩ rfl rfl (Nat.le_of_ble_eq_true rfl) dX6_nameShapes_58 (fun v w hq => ?_)
                obtain ⟨rfl, rfl⟩ := hq
                refine j_ws [0, 1, 2, 3, 4, 5] (ws' := [(th, .inr (6, [.int (nI nM), .int (nI nS3), .int (nI W), .int (nI H), .ref tht, .ref thp, .int (nI nP), .ref ths, .ref tho, .ref thm])), (tht, ia G 256 La), (thp, ia G 256 (fun ι => nI (E ι))), (ths, ia G 65 (fun ι => nI (st_ ι))), (tho, ia G 64 (fun ι => nI (No3 ι))), (thm, ia G 64 (upd (fun ι => nI (Mo3 ι)) s (nI i)))]) rfl rfl ?_
                refine j_ia (q0 := 5) (f := upd (fun ι => nI (Mo3 ι)) s (nI i)) (g := fun ι => nI (updN Mo3 s i ι)) rfl (fun z hz => by exact updNI) (ws' := [(th, .inr (6, [.int (nI nM), .int (nI nS3), .int (nI W), .int (nI H), .ref tht, .ref thp, .int (nI nP), .ref ths, .ref tho, .ref thm])), (tht, ia G 256 La), (thp, ia G 256 (fun ι => nI (E ι))), (ths, ia G 65 (fun ι => nI (st_ ι))), (tho, ia G 64 (fun ι => nI (No3 ι))), (thm, ia G 64 (fun ι => nI (updN Mo3 s i ι)))]) rfl ?_
                refine j_aload_n (pc := 61) hX dX6_nameShapes_61 0 rfl ?_
                refine j_dup (pc := 62) hX dX6_nameShapes_62 rfl ?_
                refine j_get (pc := 63) hX f_RX6_15 0 rfl rfl dX6_nameShapes_63 ?_
                refine j_iconstN (pc := 66) (j := 1) hX dX6_nameShapes_66 rfl ?_
                refine j_iadd (pc := 67) hX dX6_nameShapes_67 ?_
                refine j_topi (y := nI (nS3 + 1)) (nI_add _ _) ?_
                refine j_put (pc := 68) (ws' := [(th, .inr (6, [.int (nI nM), .int (nI (nS3 + 1)), .int (nI W), .int (nI H), .ref tht, .ref thp, .int (nI nP), .ref ths, .ref tho, .ref thm])), (tht, ia G 256 La), (thp, ia G 256 (fun ι => nI (E ι))), (ths, ia G 65 (fun ι => nI (st_ ι))), (tho, ia G 64 (fun ι => nI (No3 ι))), (thm, ia G 64 (fun ι => nI (updN Mo3 s i ι)))]) hX f_RX6_15 0 rfl rfl rfl (Nat.le_of_ble_eq_true rfl) rfl dX6_nameShapes_68 ?_
                refine j_aload_n (pc := 71) hX dX6_nameShapes_71 0 rfl ?_
                refine j_get (pc := 72) hX f_RX6_37 0 rfl rfl dX6_nameShapes_72 ?_
                refine j_iload_n (pc := 75) hX dX6_nameShapes_75 1 rfl ?_
                refine j_iload_n (pc := 76) hX dX6_nameShapes_76 2 rfl ?_
                refine j_callSN (pc := 77) hX kX8_put kSX8_put l_RX6_59 (fun l => c_X8_put G tho 64 (fun ι => nI (No3 ι)) i (nI s) (by omega) (by omega) l) [4] [0, 1, 2, 3, 5] [] rfl rfl rfl rfl ⟨rfl, rfl, by decide⟩ rfl rfl (Nat.le_of_ble_eq_true rfl) dX6_nameShapes_77 (fun v w hq => ?_)
                obtain ⟨rfl, rfl⟩ := hq
                refine j_ws [0, 1, 2, 3, 5, 4] (ws' := [(th, .inr (6, [.int (nI nM), .int (nI (nS3 + 1)), .int (nI W), .int (nI H), .ref tht, .ref thp, .int (nI nP), .ref ths, .ref tho, .ref thm])), (tht, ia G 256 La), (thp, ia G 256 (fun ι => nI (E ι))), (ths, ia G 65 (fun ι => nI (st_ ι))), (tho, ia G 64 (upd (fun ι => nI (No3 ι)) i (nI s))), (thm, ia G 64 (fun ι => nI (updN Mo3 s i ι)))]) rfl rfl ?_
                refine j_ia (q0 := 4) (f := upd (fun ι => nI (No3 ι)) i (nI s)) (g := fun ι => nI (updN No3 i s ι)) rfl (fun z hz => by exact updNI) (ws' := [(th, .inr (6, [.int (nI nM), .int (nI (nS3 + 1)), .int (nI W), .int (nI H), .ref tht, .ref thp, .int (nI nP), .ref ths, .ref tho, .ref thm])), (tht, ia G 256 La), (thp, ia G 256 (fun ι => nI (E ι))), (ths, ia G 65 (fun ι => nI (st_ ι))), (tho, ia G 64 (fun ι => nI (updN No3 i s ι))), (thm, ia G 64 (fun ι => nI (updN Mo3 s i ι)))]) rfl ?_
                refine j_iinc (pc := 80) (q := 1) (v := nI (i + 1)) (lv' := [(1, .int (nI (i + 1))), (0, .ref th), (2, .int (nI s))]) hX dX6_nameShapes_80 rfl (nI_inc _ 1) (by decide) rfl ?_
                refine j_goto (pc := 83) (tgt := 7) hX dX6_nameShapes_83 (by decide) ?_
                refine j_ia (q0 := 4) (f := fun ι => nI (updN No3 i s ι)) (g := fun ι => nI ((updN No3 i s) ι)) rfl (fun z hz => by rfl) (ws' := [(th, .inr (6, [.int (nI nM), .int (nI (nS3 + 1)), .int (nI W), .int (nI H), .ref tht, .ref thp, .int (nI nP), .ref ths, .ref tho, .ref thm])), (tht, ia G 256 La), (thp, ia G 256 (fun ι => nI (E ι))), (ths, ia G 65 (fun ι => nI (st_ ι))), (tho, ia G 64 (fun ι => nI ((updN No3 i s) ι))), (thm, ia G 64 (fun ι => nI (updN Mo3 s i ι)))]) rfl ?_
                refine j_ia (q0 := 5) (f := fun ι => nI (updN Mo3 s i ι)) (g := fun ι => nI ((updN Mo3 s i) ι)) rfl (fun z hz => by rfl) (ws' := [(th, .inr (6, [.int (nI nM), .int (nI (nS3 + 1)), .int (nI W), .int (nI H), .ref tht, .ref thp, .int (nI nP), .ref ths, .ref tho, .ref thm])), (tht, ia G 256 La), (thp, ia G 256 (fun ι => nI (E ι))), (ths, ia G 65 (fun ι => nI (st_ ι))), (tho, ia G 64 (fun ι => nI ((updN No3 i s) ι))), (thm, ia G 64 (fun ι => nI ((updN Mo3 s i) ι)))]) rfl ?_
                refine j_lv [1, 0] (lv' := [(0, .ref th), (1, .int (nI (i + 1)))]) rfl ?_
                exact ih7 (i + 1) (nS3 + 1) (updN No3 i s) (updN Mo3 s i) (by omega) (by rw [hsh]; simp only; omega) (fun z hz2 => by rw [hsh]; show updN No3 i s z = updN _ i s z; unfold updN; split; rfl; exact hN z (by omega)) (fun t ht => by rw [hsh]; first | exact hMo t (by omega) | (show updN Mo3 s i t = updN _ s i t; unfold updN; split; rfl; exact hMo t (by omega))) (by omega)
            · skip
              have hms : Mo3 s < nM := by rw [hMo s (by omega)]; have := hok.2.1 s (by omega); omega
              refine j_aload_n (pc := 25) hX dX6_nameShapes_25 0 rfl ?_
              refine j_aload_n (pc := 26) hX dX6_nameShapes_26 0 rfl ?_
              refine j_iload_n (pc := 27) hX dX6_nameShapes_27 2 rfl ?_
              refine j_callV (pc := 28) hX kX6_modelOf kVX6_modelOf l_RX6_83 (fun l => c_X6_modelOf G th nM nS3 W H tht thp nP ths tho thm La E st_ No3 Mo3 s (by omega) l) [0, 1, 2, 3, 4, 5] [] [.ref th] rfl 0 6 rfl rfl rfl rfl rfl rfl ⟨rfl, rfl, by decide⟩ rfl rfl (Nat.le_of_ble_eq_true rfl) dX6_nameShapes_28 (fun v w hq => ?_)
              obtain ⟨rfl, rfl⟩ := hq
              refine j_ws [0, 1, 2, 3, 4, 5] (ws' := [(th, .inr (6, [.int (nI nM), .int (nI nS3), .int (nI W), .int (nI H), .ref tht, .ref thp, .int (nI nP), .ref ths, .ref tho, .ref thm])), (tht, ia G 256 La), (thp, ia G 256 (fun ι => nI (E ι))), (ths, ia G 65 (fun ι => nI (st_ ι))), (tho, ia G 64 (fun ι => nI (No3 ι))), (thm, ia G 64 (fun ι => nI (Mo3 ι)))]) rfl rfl ?_
              refine j_iload_n (pc := 31) hX dX6_nameShapes_31 1 rfl ?_
              refine j_callV (pc := 32) hX kX6_areAlike kVX6_areAlike l_RX6_86 (fun l => c_X6_areAlike G th nM nS3 W H tht thp nP ths tho thm La E st_ No3 Mo3 (Mo3 s) i f Ln al (by omega) (by omega) (by omega) (by omega) (by assumption) (by assumption) (by assumption) (by omega) (by omega) l) [0, 1, 2, 3, 4, 5] [] [] rfl 0 6 rfl rfl rfl rfl rfl rfl ⟨rfl, rfl, by decide⟩ rfl rfl (Nat.le_of_ble_eq_true rfl) dX6_nameShapes_32 (fun v w hq => ?_)
              obtain ⟨rfl, rfl⟩ := hq
              refine j_ws [0, 1, 2, 3, 4, 5] (ws' := [(th, .inr (6, [.int (nI nM), .int (nI nS3), .int (nI W), .int (nI H), .ref tht, .ref thp, .int (nI nP), .ref ths, .ref tho, .ref thm])), (tht, ia G 256 La), (thp, ia G 256 (fun ι => nI (E ι))), (ths, ia G 65 (fun ι => nI (st_ ι))), (tho, ia G 64 (fun ι => nI (No3 ι))), (thm, ia G 64 (fun ι => nI (Mo3 ι)))]) rfl rfl ?_
              refine j_ifB_ne (pc := 35) (tgt := 44) hX dX6_nameShapes_35 (by decide) (fun c35 => ?_) (fun c35 => ?_)
              · skip
                have hsv : shL al (shS al i).2.2 i 0 (shS al i).1 = s := by rw [hsl, shL_s (by omega) (by rw [← hMo s (by omega)]; exact c35)]
                refine j_iload_n (pc := 44) hX dX6_nameShapes_44 2 rfl ?_
                refine j_aload_n (pc := 45) hX dX6_nameShapes_45 0 rfl ?_
                refine j_get (pc := 46) hX f_RX6_15 0 rfl rfl dX6_nameShapes_46 ?_
                refine j_icmp_ne (pc := 49) (tgt := 71) hX dX6_nameShapes_49 (by decide) (nI_toInt (n := s) (by omega)) (nI_toInt (n := nS3) (by omega)) (fun c49 => ?_) (fun c49 => ?_)
                · skip
                  have e49 : s ≠ (shS al i).1 := by omega
                  have hsh : shS al (i + 1) = ((shS al i).1, updN (shS al i).2.1 i s, (shS al i).2.2) := by show sh1 i _ _ = _; rw [hsv]; unfold sh1; rw [if_neg e49, if_neg e49]
                  refine j_aload_n (pc := 71) hX dX6_nameShapes_71 0 rfl ?_
                  refine j_get (pc := 72) hX f_RX6_37 0 rfl rfl dX6_nameShapes_72 ?_
                  refine j_iload_n (pc := 75) hX dX6_nameShapes_75 1 rfl ?_
                  refine j_iload_n (pc := 76) hX dX6_nameShapes_76 2 rfl ?_
                  refine j_callSN (pc := 77) hX kX8_put kSX8_put l_RX6_59 (fun l => c_X8_put G tho 64 (fun ι => nI (No3 ι)) i (nI s) (by omega) (by omega) l) [4] [0, 1, 2, 3, 5] [] rfl rfl rfl rfl ⟨rfl, rfl, by decide⟩ rfl rfl (Nat.le_of_ble_eq_true rfl) dX6_nameShapes_77 (fun v w hq => ?_)
                  obtain ⟨rfl, rfl⟩ := hq
                  refine j_ws [0, 1, 2, 3, 5, 4] (ws' := [(th, .inr (6, [.int (nI nM), .int (nI nS3), .int (nI W), .int (nI H), .ref tht, .ref thp, .int (nI nP), .ref ths, .ref tho, .ref thm])), (tht, ia G 256 La), (thp, ia G 256 (fun ι => nI (E ι))), (ths, ia G 65 (fun ι => nI (st_ ι))), (tho, ia G 64 (upd (fun ι => nI (No3 ι)) i (nI s))), (thm, ia G 64 (fun ι => nI (Mo3 ι)))]) rfl rfl ?_
                  refine j_ia (q0 := 4) (f := upd (fun ι => nI (No3 ι)) i (nI s)) (g := fun ι => nI (updN No3 i s ι)) rfl (fun z hz => by exact updNI) (ws' := [(th, .inr (6, [.int (nI nM), .int (nI nS3), .int (nI W), .int (nI H), .ref tht, .ref thp, .int (nI nP), .ref ths, .ref tho, .ref thm])), (tht, ia G 256 La), (thp, ia G 256 (fun ι => nI (E ι))), (ths, ia G 65 (fun ι => nI (st_ ι))), (tho, ia G 64 (fun ι => nI (updN No3 i s ι))), (thm, ia G 64 (fun ι => nI (Mo3 ι)))]) rfl ?_
                  refine j_iinc (pc := 80) (q := 1) (v := nI (i + 1)) (lv' := [(1, .int (nI (i + 1))), (0, .ref th), (2, .int (nI s))]) hX dX6_nameShapes_80 rfl (nI_inc _ 1) (by decide) rfl ?_
                  refine j_goto (pc := 83) (tgt := 7) hX dX6_nameShapes_83 (by decide) ?_
                  refine j_ia (q0 := 4) (f := fun ι => nI (updN No3 i s ι)) (g := fun ι => nI ((updN No3 i s) ι)) rfl (fun z hz => by rfl) (ws' := [(th, .inr (6, [.int (nI nM), .int (nI nS3), .int (nI W), .int (nI H), .ref tht, .ref thp, .int (nI nP), .ref ths, .ref tho, .ref thm])), (tht, ia G 256 La), (thp, ia G 256 (fun ι => nI (E ι))), (ths, ia G 65 (fun ι => nI (st_ ι))), (tho, ia G 64 (fun ι => nI ((updN No3 i s) ι))), (thm, ia G 64 (fun ι => nI (Mo3 ι)))]) rfl ?_
                  refine j_lv [1, 0] (lv' := [(0, .ref th), (1, .int (nI (i + 1)))]) rfl ?_
                  exact ih7 (i + 1) nS3 (updN No3 i s) Mo3 (by omega) (by rw [hsh]; simp only; omega) (fun z hz2 => by rw [hsh]; show updN No3 i s z = updN _ i s z; unfold updN; split; rfl; exact hN z (by omega)) (fun t ht => by rw [hsh]; first | exact hMo t (by omega) | (show updN Mo3 s i t = updN _ s i t; unfold updN; split; rfl; exact hMo t (by omega))) (by omega)
                · skip
                  have e49 : s = (shS al i).1 := by omega
                  have hsh : shS al (i + 1) = ((shS al i).1 + 1, updN (shS al i).2.1 i s, updN (shS al i).2.2 s i) := by show sh1 i _ _ = _; rw [hsv]; unfold sh1; rw [if_pos e49, if_pos e49]
                  refine j_aload_n (pc := 52) hX dX6_nameShapes_52 0 rfl ?_
                  refine j_get (pc := 53) hX f_RX6_40 0 rfl rfl dX6_nameShapes_53 ?_
                  refine j_iload_n (pc := 56) hX dX6_nameShapes_56 2 rfl ?_
                  refine j_iload_n (pc := 57) hX dX6_nameShapes_57 1 rfl ?_
                  refine j_callSN (pc := 58) hX kX8_put kSX8_put l_RX6_59 (fun l => c_X8_put G thm 64 (fun ι => nI (Mo3 ι)) s (nI i) (by omega) (by omega) l) [5] [0, 1, 2, 3, 4] [] rfl rfl rfl rfl ⟨rfl, rfl, by decide⟩ rfl rfl (Nat.le_of_ble_eq_true rfl) dX6_nameShapes_58 (fun v w hq => ?_)
                  obtain ⟨rfl, rfl⟩ := hq
                  refine j_ws [0, 1, 2, 3, 4, 5] (ws' := [(th, .inr (6, [.int (nI nM), .int (nI nS3), .int (nI W), .int (nI H), .ref tht, .ref thp, .int (nI nP), .ref ths, .ref tho, .ref thm])), (tht, ia G 256 La), (thp, ia G 256 (fun ι => nI (E ι))), (ths, ia G 65 (fun ι => nI (st_ ι))), (tho, ia G 64 (fun ι => nI (No3 ι))), (thm, ia G 64 (upd (fun ι => nI (Mo3 ι)) s (nI i)))]) rfl rfl ?_
                  refine j_ia (q0 := 5) (f := upd (fun ι => nI (Mo3 ι)) s (nI i)) (g := fun ι => nI (updN Mo3 s i ι)) rfl (fun z hz => by exact updNI) (ws' := [(th, .inr (6, [.int (nI nM), .int (nI nS3), .int (nI W), .int (nI H), .ref tht, .ref thp, .int (nI nP), .ref ths, .ref tho, .ref thm])), (tht, ia G 256 La), (thp, ia G 256 (fun ι => nI (E ι))), (ths, ia G 65 (fun ι => nI (st_ ι))), (tho, ia G 64 (fun ι => nI (No3 ι))), (thm, ia G 64 (fun ι => nI (updN Mo3 s i ι)))]) rfl ?_
                  refine j_aload_n (pc := 61) hX dX6_nameShapes_61 0 rfl ?_
                  refine j_dup (pc := 62) hX dX6_nameShapes_62 rfl ?_
                  refine j_get (pc := 63) hX f_RX6_15 0 rfl rfl dX6_nameShapes_63 ?_
                  refine j_iconstN (pc := 66) (j := 1) hX dX6_nameShapes_66 rfl ?_
                  refine j_iadd (pc := 67) hX dX6_nameShapes_67 ?_
                  refine j_topi (y := nI (nS3 + 1)) (nI_add _ _) ?_
                  refine j_put (pc := 68) (ws' := [(th, .inr (6, [.int (nI nM), .int (nI (nS3 + 1)), .int (nI W), .int (nI H), .ref tht, .ref thp, .int (nI nP), .ref ths, .ref tho, .ref thm])), (tht, ia G 256 La), (thp, ia G 256 (fun ι => nI (E ι))), (ths, ia G 65 (fun ι => nI (st_ ι))), (tho, ia G 64 (fun ι => nI (No3 ι))), (thm, ia G 64 (fun ι => nI (updN Mo3 s i ι)))]) hX f_RX6_15 0 rfl rfl rfl (Nat.le_of_ble_eq_true rfl) rfl dX6_nameShapes_68 ?_
                  refine j_aload_n (pc := 71) hX dX6_nameShapes_71 0 rfl ?_
                  refine j_get (pc := 72) hX f_RX6_37 0 rfl rfl dX6_nameShapes_72 ?_
                  refine j_iload_n (pc := 75) hX dX6_nameShapes_75 1 rfl ?_
                  refine j_iload_n (pc := 76) hX dX6_nameShapes_76 2 rfl ?_
                  refine j_callSN (pc := 77) hX kX8_put kSX8_put l_RX6_59 (fun l => c_X8_put G tho 64 (fun ι => nI (No3 ι)) i (nI s) (by omega) (by omega) l) [4] [0, 1, 2, 3, 5] [] rfl rfl rfl rfl ⟨rfl, rfl, by decide⟩ rfl rfl (Nat.le_of_ble_eq_true rfl) dX6_nameShapes_77 (fun v w hq => ?_)
                  obtain ⟨rfl, rfl⟩ := hq
                  refine j_ws [0, 1, 2, 3, 5, 4] (ws' := [(th, .inr (6, [.int (nI nM), .int (nI (nS3 + 1)), .int (nI W), .int (nI H), .ref tht, .ref thp, .int (nI nP), .ref ths, .ref tho, .ref thm])), (tht, ia G 256 La), (thp, ia G 256 (fun ι => nI (E ι))), (ths, ia G 65 (fun ι => nI (st_ ι))), (tho, ia G 64 (upd (fun ι => nI (No3 ι)) i (nI s))), (thm, ia G 64 (fun ι => nI (updN Mo3 s i ι)))]) rfl rfl ?_
                  refine j_ia (q0 := 4) (f := upd (fun ι => nI (No3 ι)) i (nI s)) (g := fun ι => nI (updN No3 i s ι)) rfl (fun z hz => by exact updNI) (ws' := [(th, .inr (6, [.int (nI nM), .int (nI (nS3 + 1)), .int (nI W), .int (nI H), .ref tht, .ref thp, .int (nI nP), .ref ths, .ref tho, .ref thm])), (tht, ia G 256 La), (thp, ia G 256 (fun ι => nI (E ι))), (ths, ia G 65 (fun ι => nI (st_ ι))), (tho, ia G 64 (fun ι => nI (updN No3 i s ι))), (thm, ia G 64 (fun ι => nI (updN Mo3 s i ι)))]) rfl ?_
                  refine j_iinc (pc := 80) (q := 1) (v := nI (i + 1)) (lv' := [(1, .int (nI (i + 1))), (0, .ref th), (2, .int (nI s))]) hX dX6_nameShapes_80 rfl (nI_inc _ 1) (by decide) rfl ?_
                  refine j_goto (pc := 83) (tgt := 7) hX dX6_nameShapes_83 (by decide) ?_
                  refine j_ia (q0 := 4) (f := fun ι => nI (updN No3 i s ι)) (g := fun ι => nI ((updN No3 i s) ι)) rfl (fun z hz => by rfl) (ws' := [(th, .inr (6, [.int (nI nM), .int (nI (nS3 + 1)), .int (nI W), .int (nI H), .ref tht, .ref thp, .int (nI nP), .ref ths, .ref tho, .ref thm])), (tht, ia G 256 La), (thp, ia G 256 (fun ι => nI (E ι))), (ths, ia G 65 (fun ι => nI (st_ ι))), (tho, ia G 64 (fun ι => nI ((updN No3 i s) ι))), (thm, ia G 64 (fun ι => nI (updN Mo3 s i ι)))]) rfl ?_
                  refine j_ia (q0 := 5) (f := fun ι => nI (updN Mo3 s i ι)) (g := fun ι => nI ((updN Mo3 s i) ι)) rfl (fun z hz => by rfl) (ws' := [(th, .inr (6, [.int (nI nM), .int (nI (nS3 + 1)), .int (nI W), .int (nI H), .ref tht, .ref thp, .int (nI nP), .ref ths, .ref tho, .ref thm])), (tht, ia G 256 La), (thp, ia G 256 (fun ι => nI (E ι))), (ths, ia G 65 (fun ι => nI (st_ ι))), (tho, ia G 64 (fun ι => nI ((updN No3 i s) ι))), (thm, ia G 64 (fun ι => nI ((updN Mo3 s i) ι)))]) rfl ?_
                  refine j_lv [1, 0] (lv' := [(0, .ref th), (1, .int (nI (i + 1)))]) rfl ?_
                  exact ih7 (i + 1) (nS3 + 1) (updN No3 i s) (updN Mo3 s i) (by omega) (by rw [hsh]; simp only; omega) (fun z hz2 => by rw [hsh]; show updN No3 i s z = updN _ i s z; unfold updN; split; rfl; exact hN z (by omega)) (fun t ht => by rw [hsh]; first | exact hMo t (by omega) | (show updN Mo3 s i t = updN _ s i t; unfold updN; split; rfl; exact hMo t (by omega))) (by omega)
              · skip
                refine j_iinc (pc := 38) (q := 2) (v := nI (s + 1)) (lv' := [(2, .int (nI (s + 1))), (0, .ref th), (1, .int (nI i))]) hX dX6_nameShapes_38 rfl (nI_inc _ 1) (by decide) rfl ?_
                refine j_goto (pc := 41) (tgt := 17) hX dX6_nameShapes_41 (by decide) ?_
                refine j_lv [1, 2, 0] (lv' := [(0, .ref th), (1, .int (nI i)), (2, .int (nI (s + 1)))]) rfl ?_
                exact ih17 (s + 1) (c - 1) (by omega) (by rw [hsl, shL_n (by omega) (by rw [← hMo s (by omega)]; exact c35)]) (by omega)
        refine j_lv [1, 2, 0] (lv' := [(0, .ref th), (1, .int (nI i)), (2, .int (nI 0))]) rfl ?_
        exact L17 (nS3 + 1) 0 nS3 (by omega) (by rw [hz]) (Nat.lt_succ_self _)
  refine j_lv [1, 0] (lv' := [(0, .ref th), (1, .int (nI 0))]) rfl ?_
  exact L7 ((nM - 0) + 1) 0 0 No Mo (by omega) (rfl) (fun z hz => absurd hz (Nat.not_lt_zero _)) (fun z hz => absurd hz (Nat.not_lt_zero _)) (Nat.lt_succ_self _)
