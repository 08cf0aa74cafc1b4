set_option maxHeartbeats 4000000 in
set_option maxRecDepth 100000 in
theorem c_X6_areAlike (G : GT) (th : Nat) (nM : Nat) (nS : Nat) (W : Nat) (H : Nat) (tht : Nat) (thp : Nat) (nP : Nat) (ths : Nat) (tho : Nat) (thm : Nat) (La : Nat → Int32) (E : Nat → Nat) (st_ : Nat → Nat) (No : Nat → Nat) (Mo : Nat → Nat) (m_ i_ : Nat) (f : Nat → Int32) (Ln : Nat → Nat) (al : Nat → Nat → Bool) (hW1 : 2 ≤ W) (hW2 : W ≤ 16) (hH1 : 2 ≤ H) (hH2 : H ≤ 16) (hS : ThS W H f nM Ln E st_) (hLb : LbC W H f La Ln) (hal : ∀ m i, al m i = true ↔ alP W H f Ln (fun k => E (st_ k)) (fun k => st_ (k + 1) - st_ k) m i) (hm : m_ < nM) (hi_ : i_ < nM) (l : Launch) : CT l G yX6_areAlike cX6_areAlike 10 (some .boolean) { frames := 2, cells := 0, slots := 0, locals := 43 } [.ref th, .int (nI m_), .int (nI i_)] [(th, .inr (6, [.int (nI nM), .int (nI nS), .int (nI W), .int (nI H), .ref tht, .ref thp, .int (nI nP), .ref ths, .ref tho, .ref thm])), (tht, ia G 256 La), (thp, ia G 256 (fun ι => nI (E ι))), (ths, ia G 65 (fun ι => nI (st_ ι))), (tho, ia G 64 (fun ι => nI (No ι))), (thm, ia G 64 (fun ι => nI (Mo ι)))] (fun vv ww => vv = some (.int (bI (al m_ i_))) ∧ ww = [(th, .inr (6, [.int (nI nM), .int (nI nS), .int (nI W), .int (nI H), .ref tht, .ref thp, .int (nI nP), .ref ths, .ref tho, .ref thm])), (tht, ia G 256 La), (thp, ia G 256 (fun ι => nI (E ι))), (ths, ia G 65 (fun ι => nI (st_ ι))), (tho, ia G 64 (fun ι => nI (No ι))), (thm, ia G 64 (fun ι => nI (Mo ι)))]) := by
  refine CT.of (lv := [(0, .ref th), (1, .int (nI m_)), (2, .int (nI i_))]) RX6 "areAlike" rfl rfl (by decide +kernel) (Nat.le_of_ble_eq_true rfl) rfl (fun X hX hR => ?_)
  have h64 := th_64 hW2 hH2 hS
  have bm := th_le hH2 hS hm
  have bi := th_le hH2 hS hi_
  have om := (hS.1.2.2.2.1 m_ hm).1.1
  have oi := (hS.1.2.2.2.1 i_ hi_).1.1
  have hpx := subw (x := E (st_ i_) % 16) (y := E (st_ m_) % 16) (by omega) (by omega)
  have hpy := subw (x := E (st_ i_) / 16) (y := E (st_ m_) / 16) (by omega) (by omega)
  refine j_aload_n (pc := 0) hX dX6_areAlike_0 0 rfl ?_
  refine j_iload_n (pc := 1) hX dX6_areAlike_1 1 rfl ?_
  refine j_callV (pc := 2) hX kX6_cellsOf kVX6_cellsOf l_RX6_90 (fun l => c_X6_cellsOf G th nM nS W H tht thp nP ths tho thm La E st_ No Mo m_ (by omega) ((by omega)) l) [0, 1, 2, 3, 4, 5] [] [] rfl 0 6 rfl rfl rfl rfl rfl rfl ⟨rfl, rfl, by decide⟩ rfl rfl (Nat.le_of_ble_eq_true rfl) dX6_areAlike_2 (fun v w hq => ?_)
  obtain ⟨rfl, rfl⟩ := hq
  refine j_ws [0, 1, 2, 3, 4, 5] (ws' := [(th, .inr (6, [.int (nI nM), .int (nI nS), .int (nI W), .int (nI H), .ref tht, .ref thp, .int (nI nP), .ref ths, .ref tho, .ref thm])), (tht, ia G 256 La), (thp, ia G 256 (fun ι => nI (E ι))), (ths, ia G 65 (fun ι => nI (st_ ι))), (tho, ia G 64 (fun ι => nI (No ι))), (thm, ia G 64 (fun ι => nI (Mo ι)))]) rfl rfl ?_
  refine j_aload_n (pc := 5) hX dX6_areAlike_5 0 rfl ?_
  refine j_iload_n (pc := 6) hX dX6_areAlike_6 2 rfl ?_
  refine j_callV (pc := 7) hX kX6_cellsOf kVX6_cellsOf l_RX6_90 (fun l => c_X6_cellsOf G th nM nS W H tht thp nP ths tho thm La E st_ No Mo i_ (by omega) ((by omega)) l) [0, 1, 2, 3, 4, 5] [] [.int (nI (st_ (m_ + 1) - st_ m_))] rfl 0 6 rfl rfl rfl rfl rfl rfl ⟨rfl, rfl, by decide⟩ rfl rfl (Nat.le_of_ble_eq_true rfl) dX6_areAlike_7 (fun v w hq => ?_)
  obtain ⟨rfl, rfl⟩ := hq
  refine j_ws [0, 1, 2, 3, 4, 5] (ws' := [(th, .inr (6, [.int (nI nM), .int (nI nS), .int (nI W), .int (nI H), .ref tht, .ref thp, .int (nI nP), .ref ths, .ref tho, .ref thm])), (tht, ia G 256 La), (thp, ia G 256 (fun ι => nI (E ι))), (ths, ia G 65 (fun ι => nI (st_ ι))), (tho, ia G 64 (fun ι => nI (No ι))), (thm, ia G 64 (fun ι => nI (Mo ι)))]) rfl rfl ?_
  refine j_icmp_eq (pc := 10) (tgt := 15) hX dX6_areAlike_10 (by decide) (nI_toInt (n := st_ (m_ + 1) - st_ m_) (by omega)) (nI_toInt (n := st_ (i_ + 1) - st_ i_) (by omega)) (fun c10 => ?_) (fun c10 => ?_)
  · skip
    refine j_aload_n (pc := 15) hX dX6_areAlike_15 0 rfl ?_
    refine j_get (pc := 16) hX f_RX6_28 0 rfl rfl dX6_areAlike_16 ?_
    refine j_aload_n (pc := 19) hX dX6_areAlike_19 0 rfl ?_
    refine j_get (pc := 20) hX f_RX6_34 0 rfl rfl dX6_areAlike_20 ?_
    refine j_iload_n (pc := 23) hX dX6_areAlike_23 1 rfl ?_
    refine j_callSN (pc := 24) hX kX8_at kSX8_at l_RX6_43 (fun l => c_X8_at G ths 65 (fun ι => nI (st_ ι)) m_ (by omega) (by omega) l) [3] [0, 1, 2, 4, 5] [.ref thp] rfl rfl rfl rfl ⟨rfl, rfl, by decide⟩ rfl rfl (Nat.le_of_ble_eq_true rfl) dX6_areAlike_24 (fun v w hq => ?_)
    obtain ⟨rfl, rfl⟩ := hq
    refine j_ws [0, 1, 2, 5, 3, 4] (ws' := [(th, .inr (6, [.int (nI nM), .int (nI nS), .int (nI W), .int (nI H), .ref tht, .ref thp, .int (nI nP), .ref ths, .ref tho, .ref thm])), (tht, ia G 256 La), (thp, ia G 256 (fun ι => nI (E ι))), (ths, ia G 65 (fun ι => nI (st_ ι))), (tho, ia G 64 (fun ι => nI (No ι))), (thm, ia G 64 (fun ι => nI (Mo ι)))]) rfl rfl ?_
    refine j_callSN (pc := 27) hX kX8_at kSX8_at l_RX6_43 (fun l => c_X8_at G thp 256 (fun ι => nI (E ι)) (st_ m_) (by omega) (by omega) l) [2] [0, 1, 3, 4, 5] [] rfl rfl rfl rfl ⟨rfl, rfl, by decide⟩ rfl rfl (Nat.le_of_ble_eq_true rfl) dX6_areAlike_27 (fun v w hq => ?_)
    obtain ⟨rfl, rfl⟩ := hq
    refine j_ws [0, 1, 5, 2, 3, 4] (ws' := [(th, .inr (6, [.int (nI nM), .int (nI nS), .int (nI W), .int (nI H), .ref tht, .ref thp, .int (nI nP), .ref ths, .ref tho, .ref thm])), (tht, ia G 256 La), (thp, ia G 256 (fun ι => nI (E ι))), (ths, ia G 65 (fun ι => nI (st_ ι))), (tho, ia G 64 (fun ι => nI (No ι))), (thm, ia G 64 (fun ι => nI (Mo ι)))]) rfl rfl ?_
    refine j_istore_n (pc := 30) (lv' := [(3, .int (nI (E (st_ m_)))), (0, .ref th), (1, .int (nI m_)), (2, .int (nI i_))]) hX dX6_areAlike_30 (by decide) rfl ?_
    refine j_aload_n (pc := 31) hX dX6_areAlike_31 1 rfl ?_
    refine j_get (pc := 32) hX f_RX6_28 0 rfl rfl dX6_areAlike_32 ?_
    refine j_aload_n (pc := 35) hX dX6_areAlike_35 1 rfl ?_
    refine j_get (pc := 36) hX f_RX6_34 0 rfl rfl dX6_areAlike_36 ?_
    refine j_iload_n (pc := 39) hX dX6_areAlike_39 3 rfl ?_
    refine j_callSN (pc := 40) hX kX8_at kSX8_at l_RX6_43 (fun l => c_X8_at G ths 65 (fun ι => nI (st_ ι)) i_ (by omega) (by omega) l) [3] [0, 1, 2, 4, 5] [.ref thp] rfl rfl rfl rfl ⟨rfl, rfl, by decide⟩ rfl rfl (Nat.le_of_ble_eq_true rfl) dX6_areAlike_40 (fun v w hq => ?_)
    obtain ⟨rfl, rfl⟩ := hq
    refine j_ws [0, 1, 2, 5, 3, 4] (ws' := [(th, .inr (6, [.int (nI nM), .int (nI nS), .int (nI W), .int (nI H), .ref tht, .ref thp, .int (nI nP), .ref ths, .ref tho, .ref thm])), (tht, ia G 256 La), (thp, ia G 256 (fun ι => nI (E ι))), (ths, ia G 65 (fun ι => nI (st_ ι))), (tho, ia G 64 (fun ι => nI (No ι))), (thm, ia G 64 (fun ι => nI (Mo ι)))]) rfl rfl ?_
    refine j_callSN (pc := 43) hX kX8_at kSX8_at l_RX6_43 (fun l => c_X8_at G thp 256 (fun ι => nI (E ι)) (st_ i_) (by omega) (by omega) l) [2] [0, 1, 3, 4, 5] [] rfl rfl rfl rfl ⟨rfl, rfl, by decide⟩ rfl rfl (Nat.le_of_ble_eq_true rfl) dX6_areAlike_43 (fun v w hq => ?_)
    obtain ⟨rfl, rfl⟩ := hq
    refine j_ws [0, 1, 5, 2, 3, 4] (ws' := [(th, .inr (6, [.int (nI nM), .int (nI nS), .int (nI W), .int (nI H), .ref tht, .ref thp, .int (nI nP), .ref ths, .ref tho, .ref thm])), (tht, ia G 256 La), (thp, ia G 256 (fun ι => nI (E ι))), (ths, ia G 65 (fun ι => nI (st_ ι))), (tho, ia G 64 (fun ι => nI (No ι))), (thm, ia G 64 (fun ι => nI (Mo ι)))]) rfl rfl ?_
    refine j_istore (pc := 46) (lv' := [(4, .int (nI (E (st_ i_)))), (3, .int (nI (E (st_ m_)))), (0, .ref th), (1, .int (nI m_)), (2, .int (nI i_))]) hX dX6_areAlike_46 (by decide) rfl ?_
    refine j_iload (pc := 48) hX dX6_areAlike_48 0 rfl ?_
    refine j_bipush (pc := 50) (v := nI 15) hX dX6_areAlike_50 (by decide) ?_
    refine j_iand (pc := 52) hX dX6_areAlike_52 ?_
    refine j_topi (y := nI ((E (st_ i_)) % 16)) (pk_andN (by omega) 4 (by decide)) ?_
    refine j_iload_n (pc := 53) hX dX6_areAlike_53 1 rfl ?_
    refine j_bipush (pc := 54) (v := nI 15) hX dX6_areAlike_54 (by decide) ?_
    refine j_iand (pc := 56) hX dX6_areAlike_56 ?_
    refine j_topi (y := nI ((E (st_ m_)) % 16)) (pk_andN (by omega) 4 (by decide)) ?_
    refine j_isub (pc := 57) hX dX6_areAlike_57 ?_
    refine j_istore (pc := 58) (lv' := [(5, .int ((nI ((E (st_ i_)) % 16)) - (nI ((E (st_ m_)) % 16)))), (4, .int (nI (E (st_ i_)))), (3, .int (nI (E (st_ m_)))), (0, .ref th), (1, .int (nI m_)), (2, .int (nI i_))]) hX dX6_areAlike_58 (by decide) rfl ?_
    refine j_iload (pc := 60) hX dX6_areAlike_60 1 rfl ?_
    refine j_iconstN (pc := 62) (j := 4) hX dX6_areAlike_62 rfl ?_
    refine j_ishr (pc := 63) hX dX6_areAlike_63 ?_
    refine j_topi (y := nI ((E (st_ i_)) / 16)) (pk_shrN (by omega) _ 4 (by decide)) ?_
    refine j_iload_n (pc := 64) hX dX6_areAlike_64 2 rfl ?_
    refine j_iconstN (pc := 65) (j := 4) hX dX6_areAlike_65 rfl ?_
    refine j_ishr (pc := 66) hX dX6_areAlike_66 ?_
    refine j_topi (y := nI ((E (st_ m_)) / 16)) (pk_shrN (by omega) _ 4 (by decide)) ?_
    refine j_isub (pc := 67) hX dX6_areAlike_67 ?_
    refine j_istore (pc := 68) (lv' := [(6, .int ((nI ((E (st_ i_)) / 16)) - (nI ((E (st_ m_)) / 16)))), (5, .int ((nI ((E (st_ i_)) % 16)) - (nI ((E (st_ m_)) % 16)))), (4, .int (nI (E (st_ i_)))), (3, .int (nI (E (st_ m_)))), (0, .ref th), (1, .int (nI m_)), (2, .int (nI i_))]) hX dX6_areAlike_68 (by decide) rfl ?_
    refine j_aload_n (pc := 70) hX dX6_areAlike_70 4 rfl ?_
    refine j_get (pc := 71) hX f_RX6_34 0 rfl rfl dX6_areAlike_71 ?_
    refine j_iload_n (pc := 74) hX dX6_areAlike_74 5 rfl ?_
    refine j_callSN (pc := 75) hX kX8_at kSX8_at l_RX6_43 (fun l => c_X8_at G ths 65 (fun ι => nI (st_ ι)) m_ (by omega) (by omega) l) [3] [0, 1, 2, 4, 5] [] rfl rfl rfl rfl ⟨rfl, rfl, by decide⟩ rfl rfl (Nat.le_of_ble_eq_true rfl) dX6_areAlike_75 (fun v w hq => ?_)
    obtain ⟨rfl, rfl⟩ := hq
    refine j_ws [0, 1, 2, 5, 3, 4] (ws' := [(th, .inr (6, [.int (nI nM), .int (nI nS), .int (nI W), .int (nI H), .ref tht, .ref thp, .int (nI nP), .ref ths, .ref tho, .ref thm])), (tht, ia G 256 La), (thp, ia G 256 (fun ι => nI (E ι))), (ths, ia G 65 (fun ι => nI (st_ ι))), (tho, ia G 64 (fun ι => nI (No ι))), (thm, ia G 64 (fun ι => nI (Mo ι)))]) rfl rfl ?_
    refine j_istore (pc := 78) (lv' := [(7, .int (nI (st_ m_))), (6, .int ((nI ((E (st_ i_)) / 16)) - (nI ((E (st_ m_)) / 16)))), (5, .int ((nI ((E (st_ i_)) % 16)) - (nI ((E (st_ m_)) % 16)))), (4, .int (nI (E (st_ i_)))), (3, .int (nI (E (st_ m_)))), (0, .ref th), (1, .int (nI m_)), (2, .int (nI i_))]) hX dX6_areAlike_78 (by decide) rfl ?_
    have L80 : ∀ (m80 : Nat) (j : Nat) (hj : st_ m_ ≤ j ∧ j ≤ st_ (m_ + 1)) (hall : ∀ z, st_ m_ ≤ z → z < j → onC W H f (shI W H (E z) (((E (st_ i_) % 16 : Nat) : Int) - ((E (st_ m_) % 16 : Nat) : Int)) (((E (st_ i_) / 16 : Nat) : Int) - ((E (st_ m_) / 16 : Nat) : Int))) ∧ Ln (shI W H (E z) (((E (st_ i_) % 16 : Nat) : Int) - ((E (st_ m_) % 16 : Nat) : Int)) (((E (st_ i_) / 16 : Nat) : Int) - ((E (st_ m_) / 16 : Nat) : Int))) = i_), st_ (m_ + 1) - j < m80 → J X G 10 0 0 [(th, .inr (6, [.int (nI nM), .int (nI nS), .int (nI W), .int (nI H), .ref tht, .ref thp, .int (nI nP), .ref ths, .ref tho, .ref thm])), (tht, ia G 256 La), (thp, ia G 256 (fun ι => nI (E ι))), (ths, ia G 65 (fun ι => nI (st_ ι))), (tho, ia G 64 (fun ι => nI (No ι))), (thm, ia G 64 (fun ι => nI (Mo ι)))] [(0, .ref th), (1, .int (nI m_)), (2, .int (nI i_)), (3, .int (nI (E (st_ m_)))), (4, .int (nI (E (st_ i_)))), (5, .int ((nI ((E (st_ i_)) % 16)) - (nI ((E (st_ m_)) % 16)))), (6, .int ((nI ((E (st_ i_)) / 16)) - (nI ((E (st_ m_)) / 16)))), (7, .int (nI j))] 80 [] := by
      intro m80
      induction m80 with
      | zero => intro j hj hall hm80; exact absurd hm80 (Nat.not_lt_zero _)
      | succ m80 ih80 =>
        intro j hj hall hm80
        refine j_iload (pc := 80) hX dX6_areAlike_80 7 rfl ?_
        refine j_aload_n (pc := 82) hX dX6_areAlike_82 0 rfl ?_
        refine j_get (pc := 83) hX f_RX6_34 0 rfl rfl dX6_areAlike_83 ?_
        refine j_iload_n (pc := 86) hX dX6_areAlike_86 1 rfl ?_
        refine j_iconstN (pc := 87) (j := 1) hX dX6_areAlike_87 rfl ?_
        refine j_iadd (pc := 88) hX dX6_areAlike_88 ?_
        refine j_topi (y := nI (m_ + 1)) (nI_add _ _) ?_
        refine j_callSN (pc := 89) hX kX8_at kSX8_at l_RX6_43 (fun l => c_X8_at G ths 65 (fun ι => nI (st_ ι)) (m_ + 1) (by omega) (by omega) l) [3] [0, 1, 2, 4, 5] [.int (nI j)] rfl rfl rfl rfl ⟨rfl, rfl, by decide⟩ rfl rfl (Nat.le_of_ble_eq_true rfl) dX6_areAlike_89 (fun v w hq => ?_)
        obtain ⟨rfl, rfl⟩ := hq
        refine j_ws [0, 1, 2, 5, 3, 4] (ws' := [(th, .inr (6, [.int (nI nM), .int (nI nS), .int (nI W), .int (nI H), .ref tht, .ref thp, .int (nI nP), .ref ths, .ref tho, .ref thm])), (tht, ia G 256 La), (thp, ia G 256 (fun ι => nI (E ι))), (ths, ia G 65 (fun ι => nI (st_ ι))), (tho, ia G 64 (fun ι => nI (No ι))), (thm, ia G 64 (fun ι => nI (Mo ι)))]) rfl rfl ?_
        refine j_icmp_ge (pc := 92) (tgt := 162) hX dX6_areAlike_92 (by decide) (nI_toInt (n := j) (by omega)) (nI_toInt (n := st_ (m_ + 1)) (by omega)) (fun c92 => ?_) (fun c92 => ?_)
        · skip
          refine j_iconstN (pc := 162) (j := 1) hX dX6_areAlike_162 rfl ?_
          exact j_zret (pc := 163) hX hR (by decide) dX6_areAlike_163 ⟨congrArg some (show Value.int (nI 1) = Value.int (bI (al m_ i_)) from bI_tt ((hal m_ i_).mpr ⟨by show st_ (m_ + 1) - st_ m_ = st_ (i_ + 1) - st_ i_; omega, fun c hc hl => by obtain ⟨z, hz, ez⟩ := th_idx hS hc; rw [hl] at hz ez; have := hall (st_ m_ + z) (by omega) (by omega); rw [ez] at this; exact this⟩)), rfl⟩
        · skip
          have oj := hS.2.2.2.1 m_ j hm hj.1 (by omega)
          have ojg := oj.1.1
          refine j_aload_n (pc := 95) hX dX6_areAlike_95 0 rfl ?_
          refine j_get (pc := 96) hX f_RX6_28 0 rfl rfl dX6_areAlike_96 ?_
          refine j_iload (pc := 99) hX dX6_areAlike_99 7 rfl ?_
          refine j_callSN (pc := 101) hX kX8_at kSX8_at l_RX6_43 (fun l => c_X8_at G thp 256 (fun ι => nI (E ι)) j (by omega) (by omega) l) [2] [0, 1, 3, 4, 5] [] rfl rfl rfl rfl ⟨rfl, rfl, by decide⟩ rfl rfl (Nat.le_of_ble_eq_true rfl) dX6_areAlike_101 (fun v w hq => ?_)
          obtain ⟨rfl, rfl⟩ := hq
          refine j_ws [0, 1, 5, 2, 3, 4] (ws' := [(th, .inr (6, [.int (nI nM), .int (nI nS), .int (nI W), .int (nI H), .ref tht, .ref thp, .int (nI nP), .ref ths, .ref tho, .ref thm])), (tht, ia G 256 La), (thp, ia G 256 (fun ι => nI (E ι))), (ths, ia G 65 (fun ι => nI (st_ ι))), (tho, ia G 64 (fun ι => nI (No ι))), (thm, ia G 64 (fun ι => nI (Mo ι)))]) rfl rfl ?_
          refine j_bipush (pc := 104) (v := nI 15) hX dX6_areAlike_104 (by decide) ?_
          refine j_iand (pc := 106) hX dX6_areAlike_106 ?_
          refine j_topi (y := nI ((E j) % 16)) (pk_andN (by omega) 4 (by decide)) ?_
          refine j_iload (pc := 107) hX dX6_areAlike_107 5 rfl ?_
          refine j_iadd (pc := 109) hX dX6_areAlike_109 ?_
          refine j_aload_n (pc := 110) hX dX6_areAlike_110 0 rfl ?_
          refine j_get (pc := 111) hX f_RX6_18 0 rfl rfl dX6_areAlike_111 ?_
          refine j_callSN (pc := 114) hX kX8_closedRound kSX8_closedRound l_RX6_80 (fun l => c_X8_closedRound_i G ((nI ((E j) % 16)) + ((nI ((E (st_ i_)) % 16)) - (nI ((E (st_ m_)) % 16)))) W (((E j % 16 : Nat) : Int) + (((E (st_ i_) % 16 : Nat) : Int) - ((E (st_ m_) % 16 : Nat) : Int))) (addw hpx (by omega) (by omega)) (by omega) (by omega) l) [] [0, 1, 2, 3, 4, 5] [] rfl rfl rfl rfl ⟨rfl, rfl, by decide⟩ rfl rfl (Nat.le_of_ble_eq_true rfl) dX6_areAlike_114 (fun v w hq => ?_)
          obtain ⟨rfl, rfl⟩ := hq
          refine j_ws [0, 1, 2, 3, 4, 5] (ws' := [(th, .inr (6, [.int (nI nM), .int (nI nS), .int (nI W), .int (nI H), .ref tht, .ref thp, .int (nI nP), .ref ths, .ref tho, .ref thm])), (tht, ia G 256 La), (thp, ia G 256 (fun ι => nI (E ι))), (ths, ia G 65 (fun ι => nI (st_ ι))), (tho, ia G 64 (fun ι => nI (No ι))), (thm, ia G 64 (fun ι => nI (Mo ι)))]) rfl rfl ?_
          refine j_istore (pc := 117) (lv' := [(8, .int (nI (crI (((E j % 16 : Nat) : Int) + (((E (st_ i_) % 16 : Nat) : Int) - ((E (st_ m_) % 16 : Nat) : Int))) W))), (0, .ref th), (1, .int (nI m_)), (2, .int (nI i_)), (3, .int (nI (E (st_ m_)))), (4, .int (nI (E (st_ i_)))), (5, .int ((nI ((E (st_ i_)) % 16)) - (nI ((E (st_ m_)) % 16)))), (6, .int ((nI ((E (st_ i_)) / 16)) - (nI ((E (st_ m_)) / 16)))), (7, .int (nI j))]) hX dX6_areAlike_117 (by decide) rfl ?_
          refine j_aload_n (pc := 119) hX dX6_areAlike_119 1 rfl ?_
          refine j_get (pc := 120) hX f_RX6_28 0 rfl rfl dX6_areAlike_120 ?_
          refine j_iload (pc := 123) hX dX6_areAlike_123 8 rfl ?_
          refine j_callSN (pc := 125) hX kX8_at kSX8_at l_RX6_43 (fun l => c_X8_at G thp 256 (fun ι => nI (E ι)) j (by omega) (by omega) l) [2] [0, 1, 3, 4, 5] [] rfl rfl rfl rfl ⟨rfl, rfl, by decide⟩ rfl rfl (Nat.le_of_ble_eq_true rfl) dX6_areAlike_125 (fun v w hq => ?_)
          obtain ⟨rfl, rfl⟩ := hq
          refine j_ws [0, 1, 5, 2, 3, 4] (ws' := [(th, .inr (6, [.int (nI nM), .int (nI nS), .int (nI W), .int (nI H), .ref tht, .ref thp, .int (nI nP), .ref ths, .ref tho, .ref thm])), (tht, ia G 256 La), (thp, ia G 256 (fun ι => nI (E ι))), (ths, ia G 65 (fun ι => nI (st_ ι))), (tho, ia G 64 (fun ι => nI (No ι))), (thm, ia G 64 (fun ι => nI (Mo ι)))]) rfl rfl ?_
          refine j_iconstN (pc := 128) (j := 4) hX dX6_areAlike_128 rfl ?_
          refine j_ishr (pc := 129) hX dX6_areAlike_129 ?_
          refine j_topi (y := nI ((E j) / 16)) (pk_shrN (by omega) _ 4 (by decide)) ?_
          refine j_iload (pc := 130) hX dX6_areAlike_130 7 rfl ?_
          refine j_iadd (pc := 132) hX dX6_areAlike_132 ?_
          refine j_aload_n (pc := 133) hX dX6_areAlike_133 1 rfl ?_
          refine j_get (pc := 134) hX f_RX6_21 0 rfl rfl dX6_areAlike_134 ?_
          refine j_callSN (pc := 137) hX kX8_closedRound kSX8_closedRound l_RX6_80 (fun l => c_X8_closedRound_i G ((nI ((E j) / 16)) + ((nI ((E (st_ i_)) / 16)) - (nI ((E (st_ m_)) / 16)))) H (((E j / 16 : Nat) : Int) + (((E (st_ i_) / 16 : Nat) : Int) - ((E (st_ m_) / 16 : Nat) : Int))) (addw hpy (by omega) (by omega)) (by omega) (by omega) l) [] [0, 1, 2, 3, 4, 5] [] rfl rfl rfl rfl ⟨rfl, rfl, by decide⟩ rfl rfl (Nat.le_of_ble_eq_true rfl) dX6_areAlike_137 (fun v w hq => ?_)
          obtain ⟨rfl, rfl⟩ := hq
          refine j_ws [0, 1, 2, 3, 4, 5] (ws' := [(th, .inr (6, [.int (nI nM), .int (nI nS), .int (nI W), .int (nI H), .ref tht, .ref thp, .int (nI nP), .ref ths, .ref tho, .ref thm])), (tht, ia G 256 La), (thp, ia G 256 (fun ι => nI (E ι))), (ths, ia G 65 (fun ι => nI (st_ ι))), (tho, ia G 64 (fun ι => nI (No ι))), (thm, ia G 64 (fun ι => nI (Mo ι)))]) rfl rfl ?_
          have hcx := crI_2 (z := ((E j % 16 : Nat) : Int) + (((E (st_ i_) % 16 : Nat) : Int) - ((E (st_ m_) % 16 : Nat) : Int))) (n := W) (by omega) (by omega) (by omega)
          have hcy := crI_2 (z := ((E j / 16 : Nat) : Int) + (((E (st_ i_) / 16 : Nat) : Int) - ((E (st_ m_) / 16 : Nat) : Int))) (n := H) (by omega) (by omega) (by omega)
          have hsm := sh_mod (W := W) (H := H) (c := E j) (p := ((E (st_ i_) % 16 : Nat) : Int) - ((E (st_ m_) % 16 : Nat) : Int)) (q := ((E (st_ i_) / 16 : Nat) : Int) - ((E (st_ m_) / 16 : Nat) : Int)) hW2 ojg.1 (by omega)
          have hlab := LbC_i (c := shI W H (E j) (((E (st_ i_) % 16 : Nat) : Int) - ((E (st_ m_) % 16 : Nat) : Int)) (((E (st_ i_) / 16 : Nat) : Int) - ((E (st_ m_) / 16 : Nat) : Int))) (i := i_) hLb (by rw [hsm.1, hsm.2]; exact ⟨hcx, hcy⟩) (by omega) (fun o => by have := hS.1.1 _ o; omega)
          refine j_istore (pc := 140) (lv' := [(9, .int (nI (crI (((E j / 16 : Nat) : Int) + (((E (st_ i_) / 16 : Nat) : Int) - ((E (st_ m_) / 16 : Nat) : Int))) H))), (8, .int (nI (crI (((E j % 16 : Nat) : Int) + (((E (st_ i_) % 16 : Nat) : Int) - ((E (st_ m_) % 16 : Nat) : Int))) W))), (0, .ref th), (1, .int (nI m_)), (2, .int (nI i_)), (3, .int (nI (E (st_ m_)))), (4, .int (nI (E (st_ i_)))), (5, .int ((nI ((E (st_ i_)) % 16)) - (nI ((E (st_ m_)) % 16)))), (6, .int ((nI ((E (st_ i_)) / 16)) - (nI ((E (st_ m_)) / 16)))), (7, .int (nI j))]) hX dX6_areAlike_140 (by decide) rfl ?_
          refine j_aload_n (pc := 142) hX dX6_areAlike_142 2 rfl ?_
          refine j_iload (pc := 143) hX dX6_areAlike_143 1 rfl ?_
          refine j_iload (pc := 145) hX dX6_areAlike_145 0 rfl ?_
          refine j_callV (pc := 147) hX kX6_thingOn kVX6_thingOn l_RX6_63 (fun l => c_X6_thingOn G th nM nS W H tht thp nP ths tho thm La E st_ No Mo (crI (((E j % 16 : Nat) : Int) + (((E (st_ i_) % 16 : Nat) : Int) - ((E (st_ m_) % 16 : Nat) : Int))) W) (crI (((E j / 16 : Nat) : Int) + (((E (st_ i_) / 16 : Nat) : Int) - ((E (st_ m_) / 16 : Nat) : Int))) H) (by omega) (by omega) l) [0, 1, 2, 3, 4, 5] [] [] rfl 0 6 rfl rfl rfl rfl rfl rfl ⟨rfl, rfl, by decide⟩ rfl rfl (Nat.le_of_ble_eq_true rfl) dX6_areAlike_147 (fun v w hq => ?_)
          obtain ⟨rfl, rfl⟩ := hq
          refine j_ws [0, 1, 2, 3, 4, 5] (ws' := [(th, .inr (6, [.int (nI nM), .int (nI nS), .int (nI W), .int (nI H), .ref tht, .ref thp, .int (nI nP), .ref ths, .ref tho, .ref thm])), (tht, ia G 256 La), (thp, ia G 256 (fun ι => nI (E ι))), (ths, ia G 65 (fun ι => nI (st_ ι))), (tho, ia G 64 (fun ι => nI (No ι))), (thm, ia G 64 (fun ι => nI (Mo ι)))]) rfl rfl ?_
          refine j_iload_n (pc := 150) hX dX6_areAlike_150 4 rfl ?_
          refine j_icmp_eq (pc := 151) (tgt := 156) hX dX6_areAlike_151 (by decide) rfl (nI_toInt (n := i_) (by omega)) (fun c151 => ?_) (fun c151 => ?_)
          · skip
            refine j_iinc (pc := 156) (q := 9) (v := nI (j + 1)) (lv' := [(7, .int (nI (j + 1))), (9, .int (nI (crI (((E j / 16 : Nat) : Int) + (((E (st_ i_) / 16 : Nat) : Int) - ((E (st_ m_) / 16 : Nat) : Int))) H))), (8, .int (nI (crI (((E j % 16 : Nat) : Int) + (((E (st_ i_) % 16 : Nat) : Int) - ((E (st_ m_) % 16 : Nat) : Int))) W))), (0, .ref th), (1, .int (nI m_)), (2, .int (nI i_)), (3, .int (nI (E (st_ m_)))), (4, .int (nI (E (st_ i_)))), (5, .int ((nI ((E (st_ i_)) % 16)) - (nI ((E (st_ m_)) % 16)))), (6, .int ((nI ((E (st_ i_)) / 16)) - (nI ((E (st_ m_)) / 16))))]) hX dX6_areAlike_156 rfl (nI_inc _ 1) (by decide) rfl ?_
            refine j_goto (pc := 159) (tgt := 80) hX dX6_areAlike_159 (by decide) ?_
            refine j_lv [3, 4, 5, 6, 7, 8, 9, 0] (lv' := [(0, .ref th), (1, .int (nI m_)), (2, .int (nI i_)), (3, .int (nI (E (st_ m_)))), (4, .int (nI (E (st_ i_)))), (5, .int ((nI ((E (st_ i_)) % 16)) - (nI ((E (st_ m_)) % 16)))), (6, .int ((nI ((E (st_ i_)) / 16)) - (nI ((E (st_ m_)) / 16)))), (7, .int (nI (j + 1)))]) rfl ?_
            exact ih80 (j + 1) (by omega) (fun z h1 h2 => by rcases Nat.lt_or_ge z j with q | q; exact hall z h1 q; rw [show z = j from by omega]; exact hlab.mp c151) (by omega)
          · skip
            refine j_iconstN (pc := 154) (j := 0) hX dX6_areAlike_154 rfl ?_
            exact j_zret (pc := 155) hX hR (by decide) dX6_areAlike_155 ⟨congrArg some (show Value.int (nI 0) = Value.int (bI (al m_ i_)) from bI_ff (Bool.eq_false_iff.mpr (fun q => c151 (hlab.mpr (((hal m_ i_).mp q).2 (E j) oj.1 oj.2))))), rfl⟩
    refine j_lv [5, 6, 7, 4, 3, 2, 1, 0] (lv' := [(0, .ref th), (1, .int (nI m_)), (2, .int (nI i_)), (3, .int (nI (E (st_ m_)))), (4, .int (nI (E (st_ i_)))), (5, .int ((nI ((E (st_ i_)) % 16)) - (nI ((E (st_ m_)) % 16)))), (6, .int ((nI ((E (st_ i_)) / 16)) - (nI ((E (st_ m_)) / 16)))), (7, .int (nI (st_ m_)))]) rfl ?_
    exact L80 ((st_ (m_ + 1) - (st_ m_)) + 1) (st_ m_) (by omega) (fun z h1 h2 => absurd h2 (by omega)) (Nat.lt_succ_self _)
  · skip
    refine j_iconstN (pc := 13) (j := 0) hX dX6_areAlike_13 rfl ?_
    exact j_zret (pc := 14) hX hR (by decide) dX6_areAlike_14 ⟨congrArg some (show Value.int (nI 0) = Value.int (bI (al m_ i_)) from bI_ff (Bool.eq_false_iff.mpr (fun q => c10 (by have := ((hal m_ i_).mp q).1; exact congrArg (fun z : Nat => (z : Int)) this)))), rfl⟩
