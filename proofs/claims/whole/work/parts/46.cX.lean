set_option maxHeartbeats 4000000 in
set_option maxRecDepth 100000 in
theorem c_X9_told100 (G : GT) (a_ : Nat) (ha : a_ < 256) (l : Launch) : CT l G yX9_told100 cX9_told100 1 (some .int) { frames := 0, cells := 0, slots := 0, locals := 0 } [.int (nI a_)] [] (fun vv ww => vv = some (.int (nI (100 * (a_ % 16) + a_ / 16))) ∧ ww = []) := by
  refine CT.of (lv := [(0, .int (nI a_))]) RX9 "told100" rfl rfl (by decide +kernel) (Nat.le_of_ble_eq_true rfl) rfl (fun X hX hR => ?_)
  refine j_bipush (pc := 0) (v := nI 100) hX dX9_told100_0 (by decide) ?_
  refine j_iload_n (pc := 2) hX dX9_told100_2 0 rfl ?_
  refine j_bipush (pc := 3) (v := nI 16) hX dX9_told100_3 (by decide) ?_
  refine j_irem (pc := 5) hX dX9_told100_5 (by decide) ?_
  refine j_topi (y := nI (a_ % 16)) (pk_rem (by omega) (by omega) (by omega)) ?_
  refine j_imul (pc := 6) hX dX9_told100_6 ?_
  refine j_topi (y := nI (100 * (a_ % 16))) (pk_mul _ _) ?_
  refine j_iload_n (pc := 7) hX dX9_told100_7 0 rfl ?_
  refine j_bipush (pc := 8) (v := nI 16) hX dX9_told100_8 (by decide) ?_
  refine j_idiv (pc := 10) hX dX9_told100_10 (by decide) ?_
  refine j_topi (y := nI (a_ / 16)) (pk_div (by omega) (by omega) (by omega)) ?_
  refine j_iadd (pc := 11) hX dX9_told100_11 ?_
  refine j_topi (y := nI (100 * (a_ % 16) + (a_ / 16))) (nI_add _ _) ?_
  exact j_iret (pc := 12) hX hR dX9_told100_12 ⟨congrArg some (show Value.int (nI (100 * (a_ % 16) + (a_ / 16))) = Value.int (nI (100 * (a_ % 16) + a_ / 16)) from by rfl), rfl⟩
