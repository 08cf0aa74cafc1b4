set_option maxHeartbeats 4000000 in
set_option maxRecDepth 100000 in
theorem c_X9_reads (G : GT) (md : Nat) (W : Nat) (H : Nat) (t : Int32) (m : Nat) (k : Nat) (zc : Nat) (zr : Nat) (zb : Nat) (z1 : Nat) (z2 : Nat) (z3 : Nat) (z4 : Nat) (z5 : Nat) (zm : Nat) (zmr : Nat) (zmb : Nat) (mt : Int32) (zca : Nat) (zcw : Nat) (c : Nat) (zg : Nat) (zt : Nat) (zs : Nat) (zf : Nat) (zy : Nat) (zso : Nat) (zsf : Nat) (zsm : Nat) (nt : Int32) (nsh : Int32) (ztp : Nat) (zrw : Nat) (zpp : Nat) (tn : Nat) (pn : Nat) (rdw : Int32) (rdh : Int32) (zsz : Nat) (zit : Nat) (zk : Nat) (itk : Bool) (ts : Nat → Int32) (rr : Nat → Int32) (hn : tn ≤ 300) (l : Launch) : CT l G yX9_reads cX9_reads 4 (some .int) { frames := 0, cells := 0, slots := 0, locals := 0 } [.ref md] [(md, .inr (9, [.int (nI W), .int (nI H), .int t, .int (nI m), .int (nI k), .ref zc, .ref zr, .ref zb, .ref z1, .ref z2, .ref z3, .ref z4, .ref z5, .ref zm, .ref zmr, .ref zmb, .int mt, .ref zca, .ref zcw, .int (nI c), .ref zg, .ref zt, .ref zs, .ref zf, .ref zy, .ref zso, .ref zsf, .ref zsm, .int nt, .int nsh, .ref ztp, .ref zrw, .ref zpp, .int (nI tn), .int (nI pn), .int rdw, .int rdh, .ref zsz, .ref zit, .ref zk, .int (bI itk)])), (ztp, ia G 300 ts), (zrw, ia G 16 rr)] (fun vv ww => ∃ (wdt hgt : Nat) (rr2 : Nat → Int32), vv = some (.int ((rdR ts tn).elim (-1) nI)) ∧ ww = [(md, .inr (9, [.int (nI W), .int (nI H), .int t, .int (nI m), .int (nI k), .ref zc, .ref zr, .ref zb, .ref z1, .ref z2, .ref z3, .ref z4, .ref z5, .ref zm, .ref zmr, .ref zmb, .int mt, .ref zca, .ref zcw, .int (nI c), .ref zg, .ref zt, .ref zs, .ref zf, .ref zy, .ref zso, .ref zsf, .ref zsm, .int nt, .int nsh, .ref ztp, .ref zrw, .ref zpp, .int (nI tn), .int (nI pn), .int (nI wdt), .int (nI hgt), .ref zsz, .ref zit, .ref zk, .int (bI itk)])), (ztp, ia G 300 ts), (zrw, ia G 16 rr2)] ∧ (∀ u, rdS ts tn = some u → ¬ u.2.2.2.1 < u.1 → wdt = u.2.2.2.1 ∧ hgt = u.2.2.1 + 1 ∧ ∀ y, y < hgt → rr2 y = u.2.2.2.2 y)) := by
  refine CT.of (lv := [(0, .ref md)]) RX9 "reads" rfl rfl (by decide +kernel) (Nat.le_of_ble_eq_true rfl) rfl (fun X hX hR => ?_)
  refine j_iconstN (pc := 0) (j := 0) hX dX9_reads_0 rfl ?_
  refine j_istore_n (pc := 1) (lv' := [(1, .int (nI 0)), (0, .ref md)]) hX dX9_reads_1 (by decide) rfl ?_
  refine j_aload_n (pc := 2) hX dX9_reads_2 1 rfl ?_
  refine j_bipush (pc := 3) (v := nI 16) hX dX9_reads_3 (by decide) ?_
  refine j_put (pc := 5) (ws' := [(md, .inr (9, [.int (nI W), .int (nI H), .int t, .int (nI m), .int (nI k), .ref zc, .ref zr, .ref zb, .ref z1, .ref z2, .ref z3, .ref z4, .ref z5, .ref zm, .ref zmr, .ref zmb, .int mt, .ref zca, .ref zcw, .int (nI c), .ref zg, .ref zt, .ref zs, .ref zf, .ref zy, .ref zso, .ref zsf, .ref zsm, .int nt, .int nsh, .ref ztp, .ref zrw, .ref zpp, .int (nI tn), .int (nI pn), .int (nI 16), .int rdh, .ref zsz, .ref zit, .ref zk, .int (bI itk)])), (ztp, ia G 300 ts), (zrw, ia G 16 rr)]) hX f_RX9_243 0 rfl rfl rfl (Nat.le_of_ble_eq_true rfl) rfl dX9_reads_5 ?_
  refine j_aload_n (pc := 8) hX dX9_reads_8 1 rfl ?_
  refine j_iconstN (pc := 9) (j := 0) hX dX9_reads_9 rfl ?_
  refine j_put (pc := 10) (ws' := [(md, .inr (9, [.int (nI W), .int (nI H), .int t, .int (nI m), .int (nI k), .ref zc, .ref zr, .ref zb, .ref z1, .ref z2, .ref z3, .ref z4, .ref z5, .ref zm, .ref zmr, .ref zmb, .int mt, .ref zca, .ref zcw, .int (nI c), .ref zg, .ref zt, .ref zs, .ref zf, .ref zy, .ref zso, .ref zsf, .ref zsm, .int nt, .int nsh, .ref ztp, .ref zrw, .ref zpp, .int (nI tn), .int (nI pn), .int (nI 16), .int (nI 0), .ref zsz, .ref zit, .ref zk, .int (bI itk)])), (ztp, ia G 300 ts), (zrw, ia G 16 rr)]) hX f_RX9_246 0 rfl rfl rfl (Nat.le_of_ble_eq_true rfl) rfl dX9_reads_10 ?_
  refine j_iconstN (pc := 13) (j := 1) hX dX9_reads_13 rfl ?_
  refine j_istore_n (pc := 14) (lv' := [(2, .int (nI 1)), (1, .int (nI 0)), (0, .ref md)]) hX dX9_reads_14 (by decide) rfl ?_
  have L15 : ∀ (m15 : Nat) (i R lo2 sh : Nat) (mo : Bool) (k3 g2 : Nat → Int32) (hi : i ≤ tn ∧ R ≤ 16 ∧ lo2 ≤ 16) (h1 : mo = true → rdS ts i = some (sh, lo2, R, 0, g2) ∧ R ≤ 15) (hk : ∀ y, y < R → k3 y = g2 y) (h2 : mo = false → 0 < R ∧ ((i < tn ∧ rdR ts tn = some i) ∨ (i = tn ∧ ∃ s1 s2, rdS ts tn = some (s1, s2, R - 1, lo2, g2) ∧ ¬ lo2 < s1))), 17 - R < m15 → J X G 4 0 0 [(md, .inr (9, [.int (nI W), .int (nI H), .int t, .int (nI m), .int (nI k), .ref zc, .ref zr, .ref zb, .ref z1, .ref z2, .ref z3, .ref z4, .ref z5, .ref zm, .ref zmr, .ref zmb, .int mt, .ref zca, .ref zcw, .int (nI c), .ref zg, .ref zt, .ref zs, .ref zf, .ref zy, .ref zso, .ref zsf, .ref zsm, .int nt, .int nsh, .ref ztp, .ref zrw, .ref zpp, .int (nI tn), .int (nI pn), .int (nI lo2), .int (nI R), .ref zsz, .ref zit, .ref zk, .int (bI itk)])), (ztp, ia G 300 ts), (zrw, ia G 16 k3)] [(0, .ref md), (1, .int (nI i)), (2, .int (bI mo))] 15 [] := by
    intro m15
    induction m15 with
    | zero => intro i R lo2 sh mo k3 g2 hi h1 hk h2 hm15; exact absurd hm15 (Nat.not_lt_zero _)
    | succ m15 ih15 =>
      intro i R lo2 sh mo k3 g2 hi h1 hk h2 hm15
      refine j_iload_n (pc := 15) hX dX9_reads_15 2 rfl ?_
      refine j_ifB_eq (pc := 16) (tgt := 193) hX dX9_reads_16 (by decide) (fun c16 => ?_) (fun c16 => ?_)
      · skip
        refine j_iload_n (pc := 193) hX dX9_reads_193 1 rfl ?_
        refine j_aload_n (pc := 194) hX dX9_reads_194 0 rfl ?_
        refine j_get (pc := 195) hX f_RX9_240 0 rfl rfl dX9_reads_195 ?_
        refine j_icmp_ge (pc := 198) (tgt := 205) hX dX9_reads_198 (by decide) (nI_toInt (n := i) (by omega)) (nI_toInt (n := tn) (by omega)) (fun c198 => ?_) (fun c198 => ?_)
        · skip
          obtain ⟨s1, s2, hF, hcc⟩ := ((h2 c16).2.resolve_left (fun q => absurd q.1 (by omega))).2
          refine j_iconst (pc := 205) (v := (-1)) hX dX9_reads_205 (by decide) ?_
          exact j_iret (pc := 206) hX hR dX9_reads_206 ⟨lo2, R, k3, congrArg some (show Value.int (-1) = Value.int ((rdR ts tn).elim (-1) nI) from by first | (rw [hF]; rfl) | (rw [rdR_C hF hcc]; rfl)), rfl, (by first | exact fun u hu hc => absurd ((rdR_C hu hc).symm.trans hF) (by simp) | (intro u hu hc; rw [hF] at hu; cases hu; exact ⟨rfl, by simp only; have := (h2 c16).1; omega, hk⟩))⟩
        · skip
          have hF := ((h2 c16).2.resolve_right (fun q => absurd q.1 (by omega))).2
          refine j_iload_n (pc := 201) hX dX9_reads_201 1 rfl ?_
          refine j_goto (pc := 202) (tgt := 206) hX dX9_reads_202 (by decide) ?_
          exact j_iret (pc := 206) hX hR dX9_reads_206 ⟨lo2, R, k3, congrArg some (show Value.int (nI i) = Value.int ((rdR ts tn).elim (-1) nI) from by first | (rw [hF]; rfl) | (rw [rdR_C hF hcc]; rfl)), rfl, (by first | exact fun u hu hc => absurd ((rdR_C hu hc).symm.trans hF) (by simp) | (intro u hu hc; rw [hF] at hu; cases hu; exact ⟨rfl, by simp only; have := (h2 c16).1; omega, hk⟩))⟩
      · skip
        obtain ⟨hS, hRR⟩ := h1 c16
        refine j_iconstN (pc := 19) (j := 0) hX dX9_reads_19 rfl ?_
        refine j_istore_n (pc := 20) (lv' := [(3, .int (nI 0)), (0, .ref md), (1, .int (nI i)), (2, .int (bI mo))]) hX dX9_reads_20 (by decide) rfl ?_
        refine j_aload_n (pc := 21) hX dX9_reads_21 1 rfl ?_
        refine j_get (pc := 22) hX f_RX9_85 0 rfl rfl dX9_reads_22 ?_
        refine j_aload_n (pc := 25) hX dX9_reads_25 1 rfl ?_
        refine j_get (pc := 26) hX f_RX9_246 0 rfl rfl dX9_reads_26 ?_
        refine j_iconstN (pc := 29) (j := 0) hX dX9_reads_29 rfl ?_
        refine j_iastN (pc := 30) (j := R) (ws' := [(md, .inr (9, [.int (nI W), .int (nI H), .int t, .int (nI m), .int (nI k), .ref zc, .ref zr, .ref zb, .ref z1, .ref z2, .ref z3, .ref z4, .ref z5, .ref zm, .ref zmr, .ref zmb, .int mt, .ref zca, .ref zcw, .int (nI c), .ref zg, .ref zt, .ref zs, .ref zf, .ref zy, .ref zso, .ref zsf, .ref zsm, .int nt, .int nsh, .ref ztp, .ref zrw, .ref zpp, .int (nI tn), .int (nI pn), .int (nI lo2), .int (nI R), .ref zsz, .ref zit, .ref zk, .int (bI itk)])), (ztp, ia G 300 ts), (zrw, ia G 16 (upd k3 R (nI 0)))]) hX 2 rfl (by omega) (by omega) rfl dX9_reads_30 ?_
        have L31 : ∀ (m31 : Nat) (j col : Nat) (k4 g4 : Nat → Int32) (hj : j ≤ tn ∧ col ≤ lo2) (hS4 : rdS ts j = some (sh, lo2, R, col, g4)) (hk4 : ∀ y, y < R → k4 y = g4 y) (hkR : k4 R = g4 R), tn - j < m31 → J X G 4 0 0 [(md, .inr (9, [.int (nI W), .int (nI H), .int t, .int (nI m), .int (nI k), .ref zc, .ref zr, .ref zb, .ref z1, .ref z2, .ref z3, .ref z4, .ref z5, .ref zm, .ref zmr, .ref zmb, .int mt, .ref zca, .ref zcw, .int (nI c), .ref zg, .ref zt, .ref zs, .ref zf, .ref zy, .ref zso, .ref zsf, .ref zsm, .int nt, .int nsh, .ref ztp, .ref zrw, .ref zpp, .int (nI tn), .int (nI pn), .int (nI lo2), .int (nI R), .ref zsz, .ref zit, .ref zk, .int (bI itk)])), (ztp, ia G 300 ts), (zrw, ia G 16 k4)] [(0, .ref md), (1, .int (nI j)), (2, .int (bI mo)), (3, .int (nI col))] 31 [] := by
          intro m31
          induction m31 with
          | zero => intro j col k4 g4 hj hS4 hk4 hkR hm31; exact absurd hm31 (Nat.not_lt_zero _)
          | succ m31 ih31 =>
            intro j col k4 g4 hj hS4 hk4 hkR hm31
            refine j_iload_n (pc := 31) hX dX9_reads_31 1 rfl ?_
            refine j_aload_n (pc := 32) hX dX9_reads_32 0 rfl ?_
            refine j_get (pc := 33) hX f_RX9_240 0 rfl rfl dX9_reads_33 ?_
            refine j_icmp_ge (pc := 36) (tgt := 108) hX dX9_reads_36 (by decide) (nI_toInt (n := j) (by omega)) (nI_toInt (n := tn) (by omega)) (fun c36 => ?_) (fun c36 => ?_)
            · skip
              have hx : tn ≤ j ∨ lo2 ≤ col ∨ ((ts j).toInt ≠ 46 ∧ (ts j).toInt ≠ 35) := by omega
              have hv4 : sh ≤ lo2 ∧ 1 ≤ sh ∧ lo2 ≤ 16 ∧ col ≤ lo2 ∧ R ≤ 15 := by have := (rdV_all hS4).1; exact ⟨this.1, this.2.1, this.2.2.1, this.2.2.2.1, this.2.2.2.2.1⟩
              have hv5 : 0 < R → sh = lo2 := fun h => ((rdV_all hS4).2.2.1 h).1
              have hv6 : R = 0 → sh = 1 := fun h => ((rdV_all hS4).2.1 h).1
              refine j_iload_n (pc := 108) hX dX9_reads_108 3 rfl ?_
              refine j_if_eq (pc := 109) (tgt := 127) hX dX9_reads_109 (by decide) (nI_toInt (n := col) (by omega)) (fun c109 => ?_) (fun c109 => ?_)
              · skip
                refine j_iload_n (pc := 127) hX dX9_reads_127 1 rfl ?_
                have hF : rdR ts tn = some j := rd_f hS4 (by omega) hx (by omega)
                exact j_iret (pc := 128) hX hR dX9_reads_128 ⟨lo2, R, k4, congrArg some (show Value.int (nI j) = Value.int ((rdR ts tn).elim (-1) nI) from by rw [hF]; rfl), rfl, (fun u hu hc => absurd ((rdR_C hu hc).symm.trans hF) (by simp))⟩
              · skip
                refine j_aload_n (pc := 112) hX dX9_reads_112 0 rfl ?_
                refine j_get (pc := 113) hX f_RX9_246 0 rfl rfl dX9_reads_113 ?_
                refine j_if_le (pc := 116) (tgt := 129) hX dX9_reads_116 (by decide) (nI_toInt (n := R) (by omega)) (fun c116 => ?_) (fun c116 => ?_)
                · skip
                  refine j_aload_n (pc := 129) hX dX9_reads_129 0 rfl ?_
                  refine j_iload_n (pc := 130) hX dX9_reads_130 3 rfl ?_
                  refine j_put (pc := 131) (ws' := [(md, .inr (9, [.int (nI W), .int (nI H), .int t, .int (nI m), .int (nI k), .ref zc, .ref zr, .ref zb, .ref z1, .ref z2, .ref z3, .ref z4, .ref z5, .ref zm, .ref zmr, .ref zmb, .int mt, .ref zca, .ref zcw, .int (nI c), .ref zg, .ref zt, .ref zs, .ref zf, .ref zy, .ref zso, .ref zsf, .ref zsm, .int nt, .int nsh, .ref ztp, .ref zrw, .ref zpp, .int (nI tn), .int (nI pn), .int (nI col), .int (nI R), .ref zsz, .ref zit, .ref zk, .int (bI itk)])), (ztp, ia G 300 ts), (zrw, ia G 16 k4)]) hX f_RX9_243 0 rfl rfl rfl (Nat.le_of_ble_eq_true rfl) rfl dX9_reads_131 ?_
                  refine j_aload_n (pc := 134) hX dX9_reads_134 0 rfl ?_
                  refine j_dup (pc := 135) hX dX9_reads_135 rfl ?_
                  refine j_get (pc := 136) hX f_RX9_246 0 rfl rfl dX9_reads_136 ?_
                  refine j_iconstN (pc := 139) (j := 1) hX dX9_reads_139 rfl ?_
                  refine j_iadd (pc := 140) hX dX9_reads_140 ?_
                  refine j_topi (y := nI (R + 1)) (nI_add _ _) ?_
                  refine j_put (pc := 141) (ws' := [(md, .inr (9, [.int (nI W), .int (nI H), .int t, .int (nI m), .int (nI k), .ref zc, .ref zr, .ref zb, .ref z1, .ref z2, .ref z3, .ref z4, .ref z5, .ref zm, .ref zmr, .ref zmb, .int mt, .ref zca, .ref zcw, .int (nI c), .ref zg, .ref zt, .ref zs, .ref zf, .ref zy, .ref zso, .ref zsf, .ref zsm, .int nt, .int nsh, .ref ztp, .ref zrw, .ref zpp, .int (nI tn), .int (nI pn), .int (nI col), .int (nI (R + 1)), .ref zsz, .ref zit, .ref zk, .int (bI itk)])), (ztp, ia G 300 ts), (zrw, ia G 16 k4)]) hX f_RX9_246 0 rfl rfl rfl (Nat.le_of_ble_eq_true rfl) rfl dX9_reads_141 ?_
                  refine j_iload_n (pc := 144) hX dX9_reads_144 1 rfl ?_
                  refine j_aload_n (pc := 145) hX dX9_reads_145 0 rfl ?_
                  refine j_get (pc := 146) hX f_RX9_240 0 rfl rfl dX9_reads_146 ?_
                  refine j_icmp_ge (pc := 149) (tgt := 176) hX dX9_reads_149 (by decide) (nI_toInt (n := j) (by omega)) (nI_toInt (n := tn) (by omega)) (fun c149 => ?_) (fun c149 => ?_)
                  · skip
                    refine j_iconstN (pc := 176) (j := 0) hX dX9_reads_176 rfl ?_
                    refine j_istore_n (pc := 177) (lv' := [(2, .int (nI 0)), (0, .ref md), (1, .int (nI j)), (3, .int (nI col))]) hX dX9_reads_177 (by decide) rfl ?_
                    refine j_iload_n (pc := 178) hX dX9_reads_178 2 rfl ?_
                    refine j_iload_n (pc := 179) hX dX9_reads_179 0 rfl ?_
                    refine j_if_eq (pc := 180) (tgt := 187) hX dX9_reads_180 (by decide) (nI_toInt (n := 0) (by decide)) (fun c180 => ?_) (fun c180 => absurd c180 (by decide))
                    refine j_iconstN (pc := 187) (j := 0) hX dX9_reads_187 rfl ?_
                    refine j_iadd (pc := 188) hX dX9_reads_188 ?_
                    refine j_topi (y := nI j) (nI_add _ _) ?_
                    refine j_istore_n (pc := 189) (lv' := [(1, .int (nI j)), (2, .int (nI 0)), (0, .ref md), (3, .int (nI col))]) hX dX9_reads_189 (by decide) rfl ?_
                    refine j_goto (pc := 190) (tgt := 15) hX dX9_reads_190 (by decide) ?_
                    refine j_lv [2, 0, 1] (lv' := [(0, .ref md), (1, .int (nI j)), (2, .int (bI false))]) rfl ?_
                    exact ih15 j (R + 1) col col false k4 g4 (by omega) (by first | exact fun h => absurd h (by decide) | exact fun _ => ⟨by rw [rdS_s hS4]; unfold rd1; rw [if_pos c160]; exact if_neg (by simp only; omega), by omega⟩) (lt_s hk4 hkR) (by first | exact fun h => absurd h (by decide) | exact fun _ => ⟨by omega, Or.inr ⟨by omega, sh, lo2, by rw [show tn = j from by omega]; exact hS4, by omega⟩⟩ | exact fun _ => ⟨by omega, Or.inl ⟨by omega, rdR_A (by omega) hS4 (rd_n (by omega))⟩⟩) (by omega)
                  · skip
                    refine j_aload_n (pc := 152) hX dX9_reads_152 0 rfl ?_
                    refine j_get (pc := 153) hX f_RX9_82 0 rfl rfl dX9_reads_153 ?_
                    refine j_iload_n (pc := 156) hX dX9_reads_156 1 rfl ?_
                    refine j_ialdN (pc := 157) (j := j) hX 1 rfl (by omega) (by omega) dX9_reads_157 ?_
                    refine j_bipush (pc := 158) (v := nI 47) hX dX9_reads_158 (by decide) ?_
                    refine j_icmp_ne (pc := 160) (tgt := 176) hX dX9_reads_160 (by decide) rfl (nI_toInt (n := 47) (by decide)) (fun c160 => ?_) (fun c160 => ?_)
                    · skip
                      have c160 : (ts j).toInt ≠ 47 := c160
                      refine j_iconstN (pc := 176) (j := 0) hX dX9_reads_176 rfl ?_
                      refine j_istore_n (pc := 177) (lv' := [(2, .int (nI 0)), (0, .ref md), (1, .int (nI j)), (3, .int (nI col))]) hX dX9_reads_177 (by decide) rfl ?_
                      refine j_iload_n (pc := 178) hX dX9_reads_178 2 rfl ?_
                      refine j_iload_n (pc := 179) hX dX9_reads_179 0 rfl ?_
                      refine j_if_eq (pc := 180) (tgt := 187) hX dX9_reads_180 (by decide) (nI_toInt (n := 0) (by decide)) (fun c180 => ?_) (fun c180 => absurd c180 (by decide))
                      refine j_iconstN (pc := 187) (j := 0) hX dX9_reads_187 rfl ?_
                      refine j_iadd (pc := 188) hX dX9_reads_188 ?_
                      refine j_topi (y := nI j) (nI_add _ _) ?_
                      refine j_istore_n (pc := 189) (lv' := [(1, .int (nI j)), (2, .int (nI 0)), (0, .ref md), (3, .int (nI col))]) hX dX9_reads_189 (by decide) rfl ?_
                      refine j_goto (pc := 190) (tgt := 15) hX dX9_reads_190 (by decide) ?_
                      refine j_lv [2, 0, 1] (lv' := [(0, .ref md), (1, .int (nI j)), (2, .int (bI false))]) rfl ?_
                      exact ih15 j (R + 1) col col false k4 g4 (by omega) (by first | exact fun h => absurd h (by decide) | exact fun _ => ⟨by rw [rdS_s hS4]; unfold rd1; rw [if_pos c160]; exact if_neg (by simp only; omega), by omega⟩) (lt_s hk4 hkR) (by first | exact fun h => absurd h (by decide) | exact fun _ => ⟨by omega, Or.inr ⟨by omega, sh, lo2, by rw [show tn = j from by omega]; exact hS4, by omega⟩⟩ | exact fun _ => ⟨by omega, Or.inl ⟨by omega, rdR_A (by omega) hS4 (rd_n (by omega))⟩⟩) (by omega)
                    · skip
                      have c160 : (ts j).toInt = 47 := c160
                      refine j_aload_n (pc := 163) hX dX9_reads_163 0 rfl ?_
                      refine j_get (pc := 164) hX f_RX9_246 0 rfl rfl dX9_reads_164 ?_
                      refine j_bipush (pc := 167) (v := nI 16) hX dX9_reads_167 (by decide) ?_
                      refine j_icmp_ge (pc := 169) (tgt := 176) hX dX9_reads_169 (by decide) (nI_toInt (n := R + 1) (by omega)) (nI_toInt (n := 16) (by decide)) (fun c169 => ?_) (fun c169 => ?_)
                      · skip
                        refine j_iconstN (pc := 176) (j := 0) hX dX9_reads_176 rfl ?_
                        refine j_istore_n (pc := 177) (lv' := [(2, .int (nI 0)), (0, .ref md), (1, .int (nI j)), (3, .int (nI col))]) hX dX9_reads_177 (by decide) rfl ?_
                        refine j_iload_n (pc := 178) hX dX9_reads_178 2 rfl ?_
                        refine j_iload_n (pc := 179) hX dX9_reads_179 0 rfl ?_
                        refine j_if_eq (pc := 180) (tgt := 187) hX dX9_reads_180 (by decide) (nI_toInt (n := 0) (by decide)) (fun c180 => ?_) (fun c180 => absurd c180 (by decide))
                        refine j_iconstN (pc := 187) (j := 0) hX dX9_reads_187 rfl ?_
                        refine j_iadd (pc := 188) hX dX9_reads_188 ?_
                        refine j_topi (y := nI j) (nI_add _ _) ?_
                        refine j_istore_n (pc := 189) (lv' := [(1, .int (nI j)), (2, .int (nI 0)), (0, .ref md), (3, .int (nI col))]) hX dX9_reads_189 (by decide) rfl ?_
                        refine j_goto (pc := 190) (tgt := 15) hX dX9_reads_190 (by decide) ?_
                        refine j_lv [2, 0, 1] (lv' := [(0, .ref md), (1, .int (nI j)), (2, .int (bI false))]) rfl ?_
                        exact ih15 j (R + 1) col col false k4 g4 (by omega) (by first | exact fun h => absurd h (by decide) | exact fun _ => ⟨by rw [rdS_s hS4]; unfold rd1; rw [if_pos c160]; exact if_neg (by simp only; omega), by omega⟩) (lt_s hk4 hkR) (by first | exact fun h => absurd h (by decide) | exact fun _ => ⟨by omega, Or.inr ⟨by omega, sh, lo2, by rw [show tn = j from by omega]; exact hS4, by omega⟩⟩ | exact fun _ => ⟨by omega, Or.inl ⟨by omega, rdR_A (by omega) hS4 (rd_n (by omega))⟩⟩) (by omega)
                      · skip
                        refine j_iconstN (pc := 172) (j := 1) hX dX9_reads_172 rfl ?_
                        refine j_goto (pc := 173) (tgt := 177) hX dX9_reads_173 (by decide) ?_
                        refine j_istore_n (pc := 177) (lv' := [(2, .int (nI 1)), (0, .ref md), (1, .int (nI j)), (3, .int (nI col))]) hX dX9_reads_177 (by decide) rfl ?_
                        refine j_iload_n (pc := 178) hX dX9_reads_178 2 rfl ?_
                        refine j_iload_n (pc := 179) hX dX9_reads_179 0 rfl ?_
                        refine j_if_eq (pc := 180) (tgt := 187) hX dX9_reads_180 (by decide) (nI_toInt (n := 1) (by decide)) (fun c180 => absurd c180 (by decide)) (fun c180 => ?_)
                        refine j_iconstN (pc := 183) (j := 1) hX dX9_reads_183 rfl ?_
                        refine j_goto (pc := 184) (tgt := 188) hX dX9_reads_184 (by decide) ?_
                        refine j_iadd (pc := 188) hX dX9_reads_188 ?_
                        refine j_topi (y := nI (j + 1)) (nI_add _ _) ?_
                        refine j_istore_n (pc := 189) (lv' := [(1, .int (nI (j + 1))), (2, .int (nI 1)), (0, .ref md), (3, .int (nI col))]) hX dX9_reads_189 (by decide) rfl ?_
                        refine j_goto (pc := 190) (tgt := 15) hX dX9_reads_190 (by decide) ?_
                        refine j_lv [2, 0, 1] (lv' := [(0, .ref md), (1, .int (nI (j + 1))), (2, .int (bI true))]) rfl ?_
                        exact ih15 (j + 1) (R + 1) col col true k4 g4 (by omega) (by first | exact fun h => absurd h (by decide) | exact fun _ => ⟨by rw [rdS_s hS4]; unfold rd1; rw [if_pos c160]; exact if_neg (by simp only; omega), by omega⟩) (lt_s hk4 hkR) (by first | exact fun h => absurd h (by decide) | exact fun _ => ⟨by omega, Or.inr ⟨by omega, sh, lo2, by rw [show tn = j from by omega]; exact hS4, by omega⟩⟩ | exact fun _ => ⟨by omega, Or.inl ⟨by omega, rdR_A (by omega) hS4 (rd_n (by omega))⟩⟩) (by omega)
                · skip
                  refine j_iload_n (pc := 119) hX dX9_reads_119 3 rfl ?_
                  refine j_aload_n (pc := 120) hX dX9_reads_120 0 rfl ?_
                  refine j_get (pc := 121) hX f_RX9_243 0 rfl rfl dX9_reads_121 ?_
                  refine j_icmp_ge (pc := 124) (tgt := 129) hX dX9_reads_124 (by decide) (nI_toInt (n := col) (by omega)) (nI_toInt (n := lo2) (by omega)) (fun c124 => ?_) (fun c124 => ?_)
                  · skip
                    refine j_aload_n (pc := 129) hX dX9_reads_129 0 rfl ?_
                    refine j_iload_n (pc := 130) hX dX9_reads_130 3 rfl ?_
                    refine j_put (pc := 131) (ws' := [(md, .inr (9, [.int (nI W), .int (nI H), .int t, .int (nI m), .int (nI k), .ref zc, .ref zr, .ref zb, .ref z1, .ref z2, .ref z3, .ref z4, .ref z5, .ref zm, .ref zmr, .ref zmb, .int mt, .ref zca, .ref zcw, .int (nI c), .ref zg, .ref zt, .ref zs, .ref zf, .ref zy, .ref zso, .ref zsf, .ref zsm, .int nt, .int nsh, .ref ztp, .ref zrw, .ref zpp, .int (nI tn), .int (nI pn), .int (nI col), .int (nI R), .ref zsz, .ref zit, .ref zk, .int (bI itk)])), (ztp, ia G 300 ts), (zrw, ia G 16 k4)]) hX f_RX9_243 0 rfl rfl rfl (Nat.le_of_ble_eq_true rfl) rfl dX9_reads_131 ?_
                    refine j_aload_n (pc := 134) hX dX9_reads_134 0 rfl ?_
                    refine j_dup (pc := 135) hX dX9_reads_135 rfl ?_
                    refine j_get (pc := 136) hX f_RX9_246 0 rfl rfl dX9_reads_136 ?_
                    refine j_iconstN (pc := 139) (j := 1) hX dX9_reads_139 rfl ?_
                    refine j_iadd (pc := 140) hX dX9_reads_140 ?_
                    refine j_topi (y := nI (R + 1)) (nI_add _ _) ?_
                    refine j_put (pc := 141) (ws' := [(md, .inr (9, [.int (nI W), .int (nI H), .int t, .int (nI m), .int (nI k), .ref zc, .ref zr, .ref zb, .ref z1, .ref z2, .ref z3, .ref z4, .ref z5, .ref zm, .ref zmr, .ref zmb, .int mt, .ref zca, .ref zcw, .int (nI c), .ref zg, .ref zt, .ref zs, .ref zf, .ref zy, .ref zso, .ref zsf, .ref zsm, .int nt, .int nsh, .ref ztp, .ref zrw, .ref zpp, .int (nI tn), .int (nI pn), .int (nI col), .int (nI (R + 1)), .ref zsz, .ref zit, .ref zk, .int (bI itk)])), (ztp, ia G 300 ts), (zrw, ia G 16 k4)]) hX f_RX9_246 0 rfl rfl rfl (Nat.le_of_ble_eq_true rfl) rfl dX9_reads_141 ?_
                    refine j_iload_n (pc := 144) hX dX9_reads_144 1 rfl ?_
                    refine j_aload_n (pc := 145) hX dX9_reads_145 0 rfl ?_
                    refine j_get (pc := 146) hX f_RX9_240 0 rfl rfl dX9_reads_146 ?_
                    refine j_icmp_ge (pc := 149) (tgt := 176) hX dX9_reads_149 (by decide) (nI_toInt (n := j) (by omega)) (nI_toInt (n := tn) (by omega)) (fun c149 => ?_) (fun c149 => ?_)
                    · skip
                      refine j_iconstN (pc := 176) (j := 0) hX dX9_reads_176 rfl ?_
                      refine j_istore_n (pc := 177) (lv' := [(2, .int (nI 0)), (0, .ref md), (1, .int (nI j)), (3, .int (nI col))]) hX dX9_reads_177 (by decide) rfl ?_
                      refine j_iload_n (pc := 178) hX dX9_reads_178 2 rfl ?_
                      refine j_iload_n (pc := 179) hX dX9_reads_179 0 rfl ?_
                      refine j_if_eq (pc := 180) (tgt := 187) hX dX9_reads_180 (by decide) (nI_toInt (n := 0) (by decide)) (fun c180 => ?_) (fun c180 => absurd c180 (by decide))
                      refine j_iconstN (pc := 187) (j := 0) hX dX9_reads_187 rfl ?_
                      refine j_iadd (pc := 188) hX dX9_reads_188 ?_
                      refine j_topi (y := nI j) (nI_add _ _) ?_
                      refine j_istore_n (pc := 189) (lv' := [(1, .int (nI j)), (2, .int (nI 0)), (0, .ref md), (3, .int (nI col))]) hX dX9_reads_189 (by decide) rfl ?_
                      refine j_goto (pc := 190) (tgt := 15) hX dX9_reads_190 (by decide) ?_
                      refine j_lv [2, 0, 1] (lv' := [(0, .ref md), (1, .int (nI j)), (2, .int (bI false))]) rfl ?_
                      exact ih15 j (R + 1) col col false k4 g4 (by omega) (by first | exact fun h => absurd h (by decide) | exact fun _ => ⟨by rw [rdS_s hS4]; unfold rd1; rw [if_pos c160]; exact if_neg (by simp only; omega), by omega⟩) (lt_s hk4 hkR) (by first | exact fun h => absurd h (by decide) | exact fun _ => ⟨by omega, Or.inr ⟨by omega, sh, lo2, by rw [show tn = j from by omega]; exact hS4, by omega⟩⟩ | exact fun _ => ⟨by omega, Or.inl ⟨by omega, rdR_A (by omega) hS4 (rd_n (by omega))⟩⟩) (by omega)
                    · skip
                      refine j_aload_n (pc := 152) hX dX9_reads_152 0 rfl ?_
                      refine j_get (pc := 153) hX f_RX9_82 0 rfl rfl dX9_reads_153 ?_
                      refine j_iload_n (pc := 156) hX dX9_reads_156 1 rfl ?_
                      refine j_ialdN (pc := 157) (j := j) hX 1 rfl (by omega) (by omega) dX9_reads_157 ?_
                      refine j_bipush (pc := 158) (v := nI 47) hX dX9_reads_158 (by decide) ?_
                      refine j_icmp_ne (pc := 160) (tgt := 176) hX dX9_reads_160 (by decide) rfl (nI_toInt (n := 47) (by decide)) (fun c160 => ?_) (fun c160 => ?_)
                      · skip
                        have c160 : (ts j).toInt ≠ 47 := c160
                        refine j_iconstN (pc := 176) (j := 0) hX dX9_reads_176 rfl ?_
                        refine j_istore_n (pc := 177) (lv' := [(2, .int (nI 0)), (0, .ref md), (1, .int (nI j)), (3, .int (nI col))]) hX dX9_reads_177 (by decide) rfl ?_
                        refine j_iload_n (pc := 178) hX dX9_reads_178 2 rfl ?_
                        refine j_iload_n (pc := 179) hX dX9_reads_179 0 rfl ?_
                        refine j_if_eq (pc := 180) (tgt := 187) hX dX9_reads_180 (by decide) (nI_toInt (n := 0) (by decide)) (fun c180 => ?_) (fun c180 => absurd c180 (by decide))
                        refine j_iconstN (pc := 187) (j := 0) hX dX9_reads_187 rfl ?_
                        refine j_iadd (pc := 188) hX dX9_reads_188 ?_
                        refine j_topi (y := nI j) (nI_add _ _) ?_
                        refine j_istore_n (pc := 189) (lv' := [(1, .int (nI j)), (2, .int (nI 0)), (0, .ref md), (3, .int (nI col))]) hX dX9_reads_189 (by decide) rfl ?_
                        refine j_goto (pc := 190) (tgt := 15) hX dX9_reads_190 (by decide) ?_
                        refine j_lv [2, 0, 1] (lv' := [(0, .ref md), (1, .int (nI j)), (2, .int (bI false))]) rfl ?_
                        exact ih15 j (R + 1) col col false k4 g4 (by omega) (by first | exact fun h => absurd h (by decide) | exact fun _ => ⟨by rw [rdS_s hS4]; unfold rd1; rw [if_pos c160]; exact if_neg (by simp only; omega), by omega⟩) (lt_s hk4 hkR) (by first | exact fun h => absurd h (by decide) | exact fun _ => ⟨by omega, Or.inr ⟨by omega, sh, lo2, by rw [show tn = j from by omega]; exact hS4, by omega⟩⟩ | exact fun _ => ⟨by omega, Or.inl ⟨by omega, rdR_A (by omega) hS4 (rd_n (by omega))⟩⟩) (by omega)
                      · skip
                        have c160 : (ts j).toInt = 47 := c160
                        refine j_aload_n (pc := 163) hX dX9_reads_163 0 rfl ?_
                        refine j_get (pc := 164) hX f_RX9_246 0 rfl rfl dX9_reads_164 ?_
                        refine j_bipush (pc := 167) (v := nI 16) hX dX9_reads_167 (by decide) ?_
                        refine j_icmp_ge (pc := 169) (tgt := 176) hX dX9_reads_169 (by decide) (nI_toInt (n := R + 1) (by omega)) (nI_toInt (n := 16) (by decide)) (fun c169 => ?_) (fun c169 => ?_)
                        · skip
                          refine j_iconstN (pc := 176) (j := 0) hX dX9_reads_176 rfl ?_
                          refine j_istore_n (pc := 177) (lv' := [(2, .int (nI 0)), (0, .ref md), (1, .int (nI j)), (3, .int (nI col))]) hX dX9_reads_177 (by decide) rfl ?_
                          refine j_iload_n (pc := 178) hX dX9_reads_178 2 rfl ?_
                          refine j_iload_n (pc := 179) hX dX9_reads_179 0 rfl ?_
                          refine j_if_eq (pc := 180) (tgt := 187) hX dX9_reads_180 (by decide) (nI_toInt (n := 0) (by decide)) (fun c180 => ?_) (fun c180 => absurd c180 (by decide))
                          refine j_iconstN (pc := 187) (j := 0) hX dX9_reads_187 rfl ?_
                          refine j_iadd (pc := 188) hX dX9_reads_188 ?_
                          refine j_topi (y := nI j) (nI_add _ _) ?_
                          refine j_istore_n (pc := 189) (lv' := [(1, .int (nI j)), (2, .int (nI 0)), (0, .ref md), (3, .int (nI col))]) hX dX9_reads_189 (by decide) rfl ?_
                          refine j_goto (pc := 190) (tgt := 15) hX dX9_reads_190 (by decide) ?_
                          refine j_lv [2, 0, 1] (lv' := [(0, .ref md), (1, .int (nI j)), (2, .int (bI false))]) rfl ?_
                          exact ih15 j (R + 1) col col false k4 g4 (by omega) (by first | exact fun h => absurd h (by decide) | exact fun _ => ⟨by rw [rdS_s hS4]; unfold rd1; rw [if_pos c160]; exact if_neg (by simp only; omega), by omega⟩) (lt_s hk4 hkR) (by first | exact fun h => absurd h (by decide) | exact fun _ => ⟨by omega, Or.inr ⟨by omega, sh, lo2, by rw [show tn = j from by omega]; exact hS4, by omega⟩⟩ | exact fun _ => ⟨by omega, Or.inl ⟨by omega, rdR_A (by omega) hS4 (rd_n (by omega))⟩⟩) (by omega)
                        · skip
                          refine j_iconstN (pc := 172) (j := 1) hX dX9_reads_172 rfl ?_
                          refine j_goto (pc := 173) (tgt := 177) hX dX9_reads_173 (by decide) ?_
                          refine j_istore_n (pc := 177) (lv' := [(2, .int (nI 1)), (0, .ref md), (1, .int (nI j)), (3, .int (nI col))]) hX dX9_reads_177 (by decide) rfl ?_
                          refine j_iload_n (pc := 178) hX dX9_reads_178 2 rfl ?_
                          refine j_iload_n (pc := 179) hX dX9_reads_179 0 rfl ?_
                          refine j_if_eq (pc := 180) (tgt := 187) hX dX9_reads_180 (by decide) (nI_toInt (n := 1) (by decide)) (fun c180 => absurd c180 (by decide)) (fun c180 => ?_)
                          refine j_iconstN (pc := 183) (j := 1) hX dX9_reads_183 rfl ?_
                          refine j_goto (pc := 184) (tgt := 188) hX dX9_reads_184 (by decide) ?_
                          refine j_iadd (pc := 188) hX dX9_reads_188 ?_
                          refine j_topi (y := nI (j + 1)) (nI_add _ _) ?_
                          refine j_istore_n (pc := 189) (lv' := [(1, .int (nI (j + 1))), (2, .int (nI 1)), (0, .ref md), (3, .int (nI col))]) hX dX9_reads_189 (by decide) rfl ?_
                          refine j_goto (pc := 190) (tgt := 15) hX dX9_reads_190 (by decide) ?_
                          refine j_lv [2, 0, 1] (lv' := [(0, .ref md), (1, .int (nI (j + 1))), (2, .int (bI true))]) rfl ?_
                          exact ih15 (j + 1) (R + 1) col col true k4 g4 (by omega) (by first | exact fun h => absurd h (by decide) | exact fun _ => ⟨by rw [rdS_s hS4]; unfold rd1; rw [if_pos c160]; exact if_neg (by simp only; omega), by omega⟩) (lt_s hk4 hkR) (by first | exact fun h => absurd h (by decide) | exact fun _ => ⟨by omega, Or.inr ⟨by omega, sh, lo2, by rw [show tn = j from by omega]; exact hS4, by omega⟩⟩ | exact fun _ => ⟨by omega, Or.inl ⟨by omega, rdR_A (by omega) hS4 (rd_n (by omega))⟩⟩) (by omega)
                  · skip
                    refine j_iload_n (pc := 127) hX dX9_reads_127 1 rfl ?_
                    have hF : rdR ts tn = some j := rd_f hS4 (by omega) hx (by omega)
                    exact j_iret (pc := 128) hX hR dX9_reads_128 ⟨lo2, R, k4, congrArg some (show Value.int (nI j) = Value.int ((rdR ts tn).elim (-1) nI) from by rw [hF]; rfl), rfl, (fun u hu hc => absurd ((rdR_C hu hc).symm.trans hF) (by simp))⟩
            · skip
              refine j_iload_n (pc := 39) hX dX9_reads_39 3 rfl ?_
              refine j_aload_n (pc := 40) hX dX9_reads_40 0 rfl ?_
              refine j_get (pc := 41) hX f_RX9_243 0 rfl rfl dX9_reads_41 ?_
              refine j_icmp_ge (pc := 44) (tgt := 108) hX dX9_reads_44 (by decide) (nI_toInt (n := col) (by omega)) (nI_toInt (n := lo2) (by omega)) (fun c44 => ?_) (fun c44 => ?_)
              · skip
                have hx : tn ≤ j ∨ lo2 ≤ col ∨ ((ts j).toInt ≠ 46 ∧ (ts j).toInt ≠ 35) := by omega
                have hv4 : sh ≤ lo2 ∧ 1 ≤ sh ∧ lo2 ≤ 16 ∧ col ≤ lo2 ∧ R ≤ 15 := by have := (rdV_all hS4).1; exact ⟨this.1, this.2.1, this.2.2.1, this.2.2.2.1, this.2.2.2.2.1⟩
                have hv5 : 0 < R → sh = lo2 := fun h => ((rdV_all hS4).2.2.1 h).1
                have hv6 : R = 0 → sh = 1 := fun h => ((rdV_all hS4).2.1 h).1
                refine j_iload_n (pc := 108) hX dX9_reads_108 3 rfl ?_
                refine j_if_eq (pc := 109) (tgt := 127) hX dX9_reads_109 (by decide) (nI_toInt (n := col) (by omega)) (fun c109 => ?_) (fun c109 => ?_)
                · skip
                  refine j_iload_n (pc := 127) hX dX9_reads_127 1 rfl ?_
                  have hF : rdR ts tn = some j := rd_f hS4 (by omega) hx (by omega)
                  exact j_iret (pc := 128) hX hR dX9_reads_128 ⟨lo2, R, k4, congrArg some (show Value.int (nI j) = Value.int ((rdR ts tn).elim (-1) nI) from by rw [hF]; rfl), rfl, (fun u hu hc => absurd ((rdR_C hu hc).symm.trans hF) (by simp))⟩
                · skip
                  refine j_aload_n (pc := 112) hX dX9_reads_112 0 rfl ?_
                  refine j_get (pc := 113) hX f_RX9_246 0 rfl rfl dX9_reads_113 ?_
                  refine j_if_le (pc := 116) (tgt := 129) hX dX9_reads_116 (by decide) (nI_toInt (n := R) (by omega)) (fun c116 => ?_) (fun c116 => ?_)
                  · skip
                    refine j_aload_n (pc := 129) hX dX9_reads_129 0 rfl ?_
                    refine j_iload_n (pc := 130) hX dX9_reads_130 3 rfl ?_
                    refine j_put (pc := 131) (ws' := [(md, .inr (9, [.int (nI W), .int (nI H), .int t, .int (nI m), .int (nI k), .ref zc, .ref zr, .ref zb, .ref z1, .ref z2, .ref z3, .ref z4, .ref z5, .ref zm, .ref zmr, .ref zmb, .int mt, .ref zca, .ref zcw, .int (nI c), .ref zg, .ref zt, .ref zs, .ref zf, .ref zy, .ref zso, .ref zsf, .ref zsm, .int nt, .int nsh, .ref ztp, .ref zrw, .ref zpp, .int (nI tn), .int (nI pn), .int (nI col), .int (nI R), .ref zsz, .ref zit, .ref zk, .int (bI itk)])), (ztp, ia G 300 ts), (zrw, ia G 16 k4)]) hX f_RX9_243 0 rfl rfl rfl (Nat.le_of_ble_eq_true rfl) rfl dX9_reads_131 ?_
                    refine j_aload_n (pc := 134) hX dX9_reads_134 0 rfl ?_
                    refine j_dup (pc := 135) hX dX9_reads_135 rfl ?_
                    refine j_get (pc := 136) hX f_RX9_246 0 rfl rfl dX9_reads_136 ?_
                    refine j_iconstN (pc := 139) (j := 1) hX dX9_reads_139 rfl ?_
                    refine j_iadd (pc := 140) hX dX9_reads_140 ?_
                    refine j_topi (y := nI (R + 1)) (nI_add _ _) ?_
                    refine j_put (pc := 141) (ws' := [(md, .inr (9, [.int (nI W), .int (nI H), .int t, .int (nI m), .int (nI k), .ref zc, .ref zr, .ref zb, .ref z1, .ref z2, .ref z3, .ref z4, .ref z5, .ref zm, .ref zmr, .ref zmb, .int mt, .ref zca, .ref zcw, .int (nI c), .ref zg, .ref zt, .ref zs, .ref zf, .ref zy, .ref zso, .ref zsf, .ref zsm, .int nt, .int nsh, .ref ztp, .ref zrw, .ref zpp, .int (nI tn), .int (nI pn), .int (nI col), .int (nI (R + 1)), .ref zsz, .ref zit, .ref zk, .int (bI itk)])), (ztp, ia G 300 ts), (zrw, ia G 16 k4)]) hX f_RX9_246 0 rfl rfl rfl (Nat.le_of_ble_eq_true rfl) rfl dX9_reads_141 ?_
                    refine j_iload_n (pc := 144) hX dX9_reads_144 1 rfl ?_
                    refine j_aload_n (pc := 145) hX dX9_reads_145 0 rfl ?_
                    refine j_get (pc := 146) hX f_RX9_240 0 rfl rfl dX9_reads_146 ?_
                    refine j_icmp_ge (pc := 149) (tgt := 176) hX dX9_reads_149 (by decide) (nI_toInt (n := j) (by omega)) (nI_toInt (n := tn) (by omega)) (fun c149 => ?_) (fun c149 => ?_)
                    · skip
                      refine j_iconstN (pc := 176) (j := 0) hX dX9_reads_176 rfl ?_
                      refine j_istore_n (pc := 177) (lv' := [(2, .int (nI 0)), (0, .ref md), (1, .int (nI j)), (3, .int (nI col))]) hX dX9_reads_177 (by decide) rfl ?_
                      refine j_iload_n (pc := 178) hX dX9_reads_178 2 rfl ?_
                      refine j_iload_n (pc := 179) hX dX9_reads_179 0 rfl ?_
                      refine j_if_eq (pc := 180) (tgt := 187) hX dX9_reads_180 (by decide) (nI_toInt (n := 0) (by decide)) (fun c180 => ?_) (fun c180 => absurd c180 (by decide))
                      refine j_iconstN (pc := 187) (j := 0) hX dX9_reads_187 rfl ?_
                      refine j_iadd (pc := 188) hX dX9_reads_188 ?_
                      refine j_topi (y := nI j) (nI_add _ _) ?_
                      refine j_istore_n (pc := 189) (lv' := [(1, .int (nI j)), (2, .int (nI 0)), (0, .ref md), (3, .int (nI col))]) hX dX9_reads_189 (by decide) rfl ?_
                      refine j_goto (pc := 190) (tgt := 15) hX dX9_reads_190 (by decide) ?_
                      refine j_lv [2, 0, 1] (lv' := [(0, .ref md), (1, .int (nI j)), (2, .int (bI false))]) rfl ?_
                      exact ih15 j (R + 1) col col false k4 g4 (by omega) (by first | exact fun h => absurd h (by decide) | exact fun _ => ⟨by rw [rdS_s hS4]; unfold rd1; rw [if_pos c160]; exact if_neg (by simp only; omega), by omega⟩) (lt_s hk4 hkR) (by first | exact fun h => absurd h (by decide) | exact fun _ => ⟨by omega, Or.inr ⟨by omega, sh, lo2, by rw [show tn = j from by omega]; exact hS4, by omega⟩⟩ | exact fun _ => ⟨by omega, Or.inl ⟨by omega, rdR_A (by omega) hS4 (rd_n (by omega))⟩⟩) (by omega)
                    · skip
                      refine j_aload_n (pc := 152) hX dX9_reads_152 0 rfl ?_
                      refine j_get (pc := 153) hX f_RX9_82 0 rfl rfl dX9_reads_153 ?_
                      refine j_iload_n (pc := 156) hX dX9_reads_156 1 rfl ?_
                      refine j_ialdN (pc := 157) (j := j) hX 1 rfl (by omega) (by omega) dX9_reads_157 ?_
                      refine j_bipush (pc := 158) (v := nI 47) hX dX9_reads_158 (by decide) ?_
                      refine j_icmp_ne (pc := 160) (tgt := 176) hX dX9_reads_160 (by decide) rfl (nI_toInt (n := 47) (by decide)) (fun c160 => ?_) (fun c160 => ?_)
                      · skip
                        have c160 : (ts j).toInt ≠ 47 := c160
                        refine j_iconstN (pc := 176) (j := 0) hX dX9_reads_176 rfl ?_
                        refine j_istore_n (pc := 177) (lv' := [(2, .int (nI 0)), (0, .ref md), (1, .int (nI j)), (3, .int (nI col))]) hX dX9_reads_177 (by decide) rfl ?_
                        refine j_iload_n (pc := 178) hX dX9_reads_178 2 rfl ?_
                        refine j_iload_n (pc := 179) hX dX9_reads_179 0 rfl ?_
                        refine j_if_eq (pc := 180) (tgt := 187) hX dX9_reads_180 (by decide) (nI_toInt (n := 0) (by decide)) (fun c180 => ?_) (fun c180 => absurd c180 (by decide))
                        refine j_iconstN (pc := 187) (j := 0) hX dX9_reads_187 rfl ?_
                        refine j_iadd (pc := 188) hX dX9_reads_188 ?_
                        refine j_topi (y := nI j) (nI_add _ _) ?_
                        refine j_istore_n (pc := 189) (lv' := [(1, .int (nI j)), (2, .int (nI 0)), (0, .ref md), (3, .int (nI col))]) hX dX9_reads_189 (by decide) rfl ?_
                        refine j_goto (pc := 190) (tgt := 15) hX dX9_reads_190 (by decide) ?_
                        refine j_lv [2, 0, 1] (lv' := [(0, .ref md), (1, .int (nI j)), (2, .int (bI false))]) rfl ?_
                        exact ih15 j (R + 1) col col false k4 g4 (by omega) (by first | exact fun h => absurd h (by decide) | exact fun _ => ⟨by rw [rdS_s hS4]; unfold rd1; rw [if_pos c160]; exact if_neg (by simp only; omega), by omega⟩) (lt_s hk4 hkR) (by first | exact fun h => absurd h (by decide) | exact fun _ => ⟨by omega, Or.inr ⟨by omega, sh, lo2, by rw [show tn = j from by omega]; exact hS4, by omega⟩⟩ | exact fun _ => ⟨by omega, Or.inl ⟨by omega, rdR_A (by omega) hS4 (rd_n (by omega))⟩⟩) (by omega)
                      · skip
                        have c160 : (ts j).toInt = 47 := c160
                        refine j_aload_n (pc := 163) hX dX9_reads_163 0 rfl ?_
                        refine j_get (pc := 164) hX f_RX9_246 0 rfl rfl dX9_reads_164 ?_
                        refine j_bipush (pc := 167) (v := nI 16) hX dX9_reads_167 (by decide) ?_
                        refine j_icmp_ge (pc := 169) (tgt := 176) hX dX9_reads_169 (by decide) (nI_toInt (n := R + 1) (by omega)) (nI_toInt (n := 16) (by decide)) (fun c169 => ?_) (fun c169 => ?_)
                        · skip
                          refine j_iconstN (pc := 176) (j := 0) hX dX9_reads_176 rfl ?_
                          refine j_istore_n (pc := 177) (lv' := [(2, .int (nI 0)), (0, .ref md), (1, .int (nI j)), (3, .int (nI col))]) hX dX9_reads_177 (by decide) rfl ?_
                          refine j_iload_n (pc := 178) hX dX9_reads_178 2 rfl ?_
                          refine j_iload_n (pc := 179) hX dX9_reads_179 0 rfl ?_
                          refine j_if_eq (pc := 180) (tgt := 187) hX dX9_reads_180 (by decide) (nI_toInt (n := 0) (by decide)) (fun c180 => ?_) (fun c180 => absurd c180 (by decide))
                          refine j_iconstN (pc := 187) (j := 0) hX dX9_reads_187 rfl ?_
                          refine j_iadd (pc := 188) hX dX9_reads_188 ?_
                          refine j_topi (y := nI j) (nI_add _ _) ?_
                          refine j_istore_n (pc := 189) (lv' := [(1, .int (nI j)), (2, .int (nI 0)), (0, .ref md), (3, .int (nI col))]) hX dX9_reads_189 (by decide) rfl ?_
                          refine j_goto (pc := 190) (tgt := 15) hX dX9_reads_190 (by decide) ?_
                          refine j_lv [2, 0, 1] (lv' := [(0, .ref md), (1, .int (nI j)), (2, .int (bI false))]) rfl ?_
                          exact ih15 j (R + 1) col col false k4 g4 (by omega) (by first | exact fun h => absurd h (by decide) | exact fun _ => ⟨by rw [rdS_s hS4]; unfold rd1; rw [if_pos c160]; exact if_neg (by simp only; omega), by omega⟩) (lt_s hk4 hkR) (by first | exact fun h => absurd h (by decide) | exact fun _ => ⟨by omega, Or.inr ⟨by omega, sh, lo2, by rw [show tn = j from by omega]; exact hS4, by omega⟩⟩ | exact fun _ => ⟨by omega, Or.inl ⟨by omega, rdR_A (by omega) hS4 (rd_n (by omega))⟩⟩) (by omega)
                        · skip
                          refine j_iconstN (pc := 172) (j := 1) hX dX9_reads_172 rfl ?_
                          refine j_goto (pc := 173) (tgt := 177) hX dX9_reads_173 (by decide) ?_
                          refine j_istore_n (pc := 177) (lv' := [(2, .int (nI 1)), (0, .ref md), (1, .int (nI j)), (3, .int (nI col))]) hX dX9_reads_177 (by decide) rfl ?_
                          refine j_iload_n (pc := 178) hX dX9_reads_178 2 rfl ?_
                          refine j_iload_n (pc := 179) hX dX9_reads_179 0 rfl ?_
                          refine j_if_eq (pc := 180) (tgt := 187) hX dX9_reads_180 (by decide) (nI_toInt (n := 1) (by decide)) (fun c180 => absurd c180 (by decide)) (fun c180 => ?_)
                          refine j_iconstN (pc := 183) (j := 1) hX dX9_reads_183 rfl ?_
                          refine j_goto (pc := 184) (tgt := 188) hX dX9_reads_184 (by decide) ?_
                          refine j_iadd (pc := 188) hX dX9_reads_188 ?_
                          refine j_topi (y := nI (j + 1)) (nI_add _ _) ?_
                          refine j_istore_n (pc := 189) (lv' := [(1, .int (nI (j + 1))), (2, .int (nI 1)), (0, .ref md), (3, .int (nI col))]) hX dX9_reads_189 (by decide) rfl ?_
                          refine j_goto (pc := 190) (tgt := 15) hX dX9_reads_190 (by decide) ?_
                          refine j_lv [2, 0, 1] (lv' := [(0, .ref md), (1, .int (nI (j + 1))), (2, .int (bI true))]) rfl ?_
                          exact ih15 (j + 1) (R + 1) col col true k4 g4 (by omega) (by first | exact fun h => absurd h (by decide) | exact fun _ => ⟨by rw [rdS_s hS4]; unfold rd1; rw [if_pos c160]; exact if_neg (by simp only; omega), by omega⟩) (lt_s hk4 hkR) (by first | exact fun h => absurd h (by decide) | exact fun _ => ⟨by omega, Or.inr ⟨by omega, sh, lo2, by rw [show tn = j from by omega]; exact hS4, by omega⟩⟩ | exact fun _ => ⟨by omega, Or.inl ⟨by omega, rdR_A (by omega) hS4 (rd_n (by omega))⟩⟩) (by omega)
                  · skip
                    refine j_iload_n (pc := 119) hX dX9_reads_119 3 rfl ?_
                    refine j_aload_n (pc := 120) hX dX9_reads_120 0 rfl ?_
                    refine j_get (pc := 121) hX f_RX9_243 0 rfl rfl dX9_reads_121 ?_
                    refine j_icmp_ge (pc := 124) (tgt := 129) hX dX9_reads_124 (by decide) (nI_toInt (n := col) (by omega)) (nI_toInt (n := lo2) (by omega)) (fun c124 => ?_) (fun c124 => ?_)
                    · skip
                      refine j_aload_n (pc := 129) hX dX9_reads_129 0 rfl ?_
                      refine j_iload_n (pc := 130) hX dX9_reads_130 3 rfl ?_
                      refine j_put (pc := 131) (ws' := [(md, .inr (9, [.int (nI W), .int (nI H), .int t, .int (nI m), .int (nI k), .ref zc, .ref zr, .ref zb, .ref z1, .ref z2, .ref z3, .ref z4, .ref z5, .ref zm, .ref zmr, .ref zmb, .int mt, .ref zca, .ref zcw, .int (nI c), .ref zg, .ref zt, .ref zs, .ref zf, .ref zy, .ref zso, .ref zsf, .ref zsm, .int nt, .int nsh, .ref ztp, .ref zrw, .ref zpp, .int (nI tn), .int (nI pn), .int (nI col), .int (nI R), .ref zsz, .ref zit, .ref zk, .int (bI itk)])), (ztp, ia G 300 ts), (zrw, ia G 16 k4)]) hX f_RX9_243 0 rfl rfl rfl (Nat.le_of_ble_eq_true rfl) rfl dX9_reads_131 ?_
                      refine j_aload_n (pc := 134) hX dX9_reads_134 0 rfl ?_
                      refine j_dup (pc := 135) hX dX9_reads_135 rfl ?_
                      refine j_get (pc := 136) hX f_RX9_246 0 rfl rfl dX9_reads_136 ?_
                      refine j_iconstN (pc := 139) (j := 1) hX dX9_reads_139 rfl ?_
                      refine j_iadd (pc := 140) hX dX9_reads_140 ?_
                      refine j_topi (y := nI (R + 1)) (nI_add _ _) ?_
                      refine j_put (pc := 141) (ws' := [(md, .inr (9, [.int (nI W), .int (nI H), .int t, .int (nI m), .int (nI k), .ref zc, .ref zr, .ref zb, .ref z1, .ref z2, .ref z3, .ref z4, .ref z5, .ref zm, .ref zmr, .ref zmb, .int mt, .ref zca, .ref zcw, .int (nI c), .ref zg, .ref zt, .ref zs, .ref zf, .ref zy, .ref zso, .ref zsf, .ref zsm, .int nt, .int nsh, .ref ztp, .ref zrw, .ref zpp, .int (nI tn), .int (nI pn), .int (nI col), .int (nI (R + 1)), .ref zsz, .ref zit, .ref zk, .int (bI itk)])), (ztp, ia G 300 ts), (zrw, ia G 16 k4)]) hX f_RX9_246 0 rfl rfl rfl (Nat.le_of_ble_eq_true rfl) rfl dX9_reads_141 ?_
                      refine j_iload_n (pc := 144) hX dX9_reads_144 1 rfl ?_
                      refine j_aload_n (pc := 145) hX dX9_reads_145 0 rfl ?_
                      refine j_get (pc := 146) hX f_RX9_240 0 rfl rfl dX9_reads_146 ?_
                      refine j_icmp_ge (pc := 149) (tgt := 176) hX dX9_reads_149 (by decide) (nI_toInt (n := j) (by omega)) (nI_toInt (n := tn) (by omega)) (fun c149 => ?_) (fun c149 => ?_)
                      · skip
                        refine j_iconstN (pc := 176) (j := 0) hX dX9_reads_176 rfl ?_
                        refine j_istore_n (pc := 177) (lv' := [(2, .int (nI 0)), (0, .ref md), (1, .int (nI j)), (3, .int (nI col))]) hX dX9_reads_177 (by decide) rfl ?_
                        refine j_iload_n (pc := 178) hX dX9_reads_178 2 rfl ?_
                        refine j_iload_n (pc := 179) hX dX9_reads_179 0 rfl ?_
                        refine j_if_eq (pc := 180) (tgt := 187) hX dX9_reads_180 (by decide) (nI_toInt (n := 0) (by decide)) (fun c180 => ?_) (fun c180 => absurd c180 (by decide))
                        refine j_iconstN (pc := 187) (j := 0) hX dX9_reads_187 rfl ?_
                        refine j_iadd (pc := 188) hX dX9_reads_188 ?_
                        refine j_topi (y := nI j) (nI_add _ _) ?_
                        refine j_istore_n (pc := 189) (lv' := [(1, .int (nI j)), (2, .int (nI 0)), (0, .ref md), (3, .int (nI col))]) hX dX9_reads_189 (by decide) rfl ?_
                        refine j_goto (pc := 190) (tgt := 15) hX dX9_reads_190 (by decide) ?_
                        refine j_lv [2, 0, 1] (lv' := [(0, .ref md), (1, .int (nI j)), (2, .int (bI false))]) rfl ?_
                        exact ih15 j (R + 1) col col false k4 g4 (by omega) (by first | exact fun h => absurd h (by decide) | exact fun _ => ⟨by rw [rdS_s hS4]; unfold rd1; rw [if_pos c160]; exact if_neg (by simp only; omega), by omega⟩) (lt_s hk4 hkR) (by first | exact fun h => absurd h (by decide) | exact fun _ => ⟨by omega, Or.inr ⟨by omega, sh, lo2, by rw [show tn = j from by omega]; exact hS4, by omega⟩⟩ | exact fun _ => ⟨by omega, Or.inl ⟨by omega, rdR_A (by omega) hS4 (rd_n (by omega))⟩⟩) (by omega)
                      · skip
                        refine j_aload_n (pc := 152) hX dX9_reads_152 0 rfl ?_
                        refine j_get (pc := 153) hX f_RX9_82 0 rfl rfl dX9_reads_153 ?_
                        refine j_iload_n (pc := 156) hX dX9_reads_156 1 rfl ?_
                        refine j_ialdN (pc := 157) (j := j) hX 1 rfl (by omega) (by omega) dX9_reads_157 ?_
                        refine j_bipush (pc := 158) (v := nI 47) hX dX9_reads_158 (by decide) ?_
                        refine j_icmp_ne (pc := 160) (tgt := 176) hX dX9_reads_160 (by decide) rfl (nI_toInt (n := 47) (by decide)) (fun c160 => ?_) (fun c160 => ?_)
                        · skip
                          have c160 : (ts j).toInt ≠ 47 := c160
                          refine j_iconstN (pc := 176) (j := 0) hX dX9_reads_176 rfl ?_
                          refine j_istore_n (pc := 177) (lv' := [(2, .int (nI 0)), (0, .ref md), (1, .int (nI j)), (3, .int (nI col))]) hX dX9_reads_177 (by decide) rfl ?_
                          refine j_iload_n (pc := 178) hX dX9_reads_178 2 rfl ?_
                          refine j_iload_n (pc := 179) hX dX9_reads_179 0 rfl ?_
                          refine j_if_eq (pc := 180) (tgt := 187) hX dX9_reads_180 (by decide) (nI_toInt (n := 0) (by decide)) (fun c180 => ?_) (fun c180 => absurd c180 (by decide))
                          refine j_iconstN (pc := 187) (j := 0) hX dX9_reads_187 rfl ?_
                          refine j_iadd (pc := 188) hX dX9_reads_188 ?_
                          refine j_topi (y := nI j) (nI_add _ _) ?_
                          refine j_istore_n (pc := 189) (lv' := [(1, .int (nI j)), (2, .int (nI 0)), (0, .ref md), (3, .int (nI col))]) hX dX9_reads_189 (by decide) rfl ?_
                          refine j_goto (pc := 190) (tgt := 15) hX dX9_reads_190 (by decide) ?_
                          refine j_lv [2, 0, 1] (lv' := [(0, .ref md), (1, .int (nI j)), (2, .int (bI false))]) rfl ?_
                          exact ih15 j (R + 1) col col false k4 g4 (by omega) (by first | exact fun h => absurd h (by decide) | exact fun _ => ⟨by rw [rdS_s hS4]; unfold rd1; rw [if_pos c160]; exact if_neg (by simp only; omega), by omega⟩) (lt_s hk4 hkR) (by first | exact fun h => absurd h (by decide) | exact fun _ => ⟨by omega, Or.inr ⟨by omega, sh, lo2, by rw [show tn = j from by omega]; exact hS4, by omega⟩⟩ | exact fun _ => ⟨by omega, Or.inl ⟨by omega, rdR_A (by omega) hS4 (rd_n (by omega))⟩⟩) (by omega)
                        · skip
                          have c160 : (ts j).toInt = 47 := c160
                          refine j_aload_n (pc := 163) hX dX9_reads_163 0 rfl ?_
                          refine j_get (pc := 164) hX f_RX9_246 0 rfl rfl dX9_reads_164 ?_
                          refine j_bipush (pc := 167) (v := nI 16) hX dX9_reads_167 (by decide) ?_
                          refine j_icmp_ge (pc := 169) (tgt := 176) hX dX9_reads_169 (by decide) (nI_toInt (n := R + 1) (by omega)) (nI_toInt (n := 16) (by decide)) (fun c169 => ?_) (fun c169 => ?_)
                          · skip
                            refine j_iconstN (pc := 176) (j := 0) hX dX9_reads_176 rfl ?_
                            refine j_istore_n (pc := 177) (lv' := [(2, .int (nI 0)), (0, .ref md), (1, .int (nI j)), (3, .int (nI col))]) hX dX9_reads_177 (by decide) rfl ?_
                            refine j_iload_n (pc := 178) hX dX9_reads_178 2 rfl ?_
                            refine j_iload_n (pc := 179) hX dX9_reads_179 0 rfl ?_
                            refine j_if_eq (pc := 180) (tgt := 187) hX dX9_reads_180 (by decide) (nI_toInt (n := 0) (by decide)) (fun c180 => ?_) (fun c180 => absurd c180 (by decide))
                            refine j_iconstN (pc := 187) (j := 0) hX dX9_reads_187 rfl ?_
                            refine j_iadd (pc := 188) hX dX9_reads_188 ?_
                            refine j_topi (y := nI j) (nI_add _ _) ?_
                            refine j_istore_n (pc := 189) (lv' := [(1, .int (nI j)), (2, .int (nI 0)), (0, .ref md), (3, .int (nI col))]) hX dX9_reads_189 (by decide) rfl ?_
                            refine j_goto (pc := 190) (tgt := 15) hX dX9_reads_190 (by decide) ?_
                            refine j_lv [2, 0, 1] (lv' := [(0, .ref md), (1, .int (nI j)), (2, .int (bI false))]) rfl ?_
                            exact ih15 j (R + 1) col col false k4 g4 (by omega) (by first | exact fun h => absurd h (by decide) | exact fun _ => ⟨by rw [rdS_s hS4]; unfold rd1; rw [if_pos c160]; exact if_neg (by simp only; omega), by omega⟩) (lt_s hk4 hkR) (by first | exact fun h => absurd h (by decide) | exact fun _ => ⟨by omega, Or.inr ⟨by omega, sh, lo2, by rw [show tn = j from by omega]; exact hS4, by omega⟩⟩ | exact fun _ => ⟨by omega, Or.inl ⟨by omega, rdR_A (by omega) hS4 (rd_n (by omega))⟩⟩) (by omega)
                          · skip
                            refine j_iconstN (pc := 172) (j := 1) hX dX9_reads_172 rfl ?_
                            refine j_goto (pc := 173) (tgt := 177) hX dX9_reads_173 (by decide) ?_
                            refine j_istore_n (pc := 177) (lv' := [(2, .int (nI 1)), (0, .ref md), (1, .int (nI j)), (3, .int (nI col))]) hX dX9_reads_177 (by decide) rfl ?_
                            refine j_iload_n (pc := 178) hX dX9_reads_178 2 rfl ?_
                            refine j_iload_n (pc := 179) hX dX9_reads_179 0 rfl ?_
                            refine j_if_eq (pc := 180) (tgt := 187) hX dX9_reads_180 (by decide) (nI_toInt (n := 1) (by decide)) (fun c180 => absurd c180 (by decide)) (fun c180 => ?_)
                            refine j_iconstN (pc := 183) (j := 1) hX dX9_reads_183 rfl ?_
                            refine j_goto (pc := 184) (tgt := 188) hX dX9_reads_184 (by decide) ?_
                            refine j_iadd (pc := 188) hX dX9_reads_188 ?_
                            refine j_topi (y := nI (j + 1)) (nI_add _ _) ?_
                            refine j_istore_n (pc := 189) (lv' := [(1, .int (nI (j + 1))), (2, .int (nI 1)), (0, .ref md), (3, .int (nI col))]) hX dX9_reads_189 (by decide) rfl ?_
                            refine j_goto (pc := 190) (tgt := 15) hX dX9_reads_190 (by decide) ?_
                            refine j_lv [2, 0, 1] (lv' := [(0, .ref md), (1, .int (nI (j + 1))), (2, .int (bI true))]) rfl ?_
                            exact ih15 (j + 1) (R + 1) col col true k4 g4 (by omega) (by first | exact fun h => absurd h (by decide) | exact fun _ => ⟨by rw [rdS_s hS4]; unfold rd1; rw [if_pos c160]; exact if_neg (by simp only; omega), by omega⟩) (lt_s hk4 hkR) (by first | exact fun h => absurd h (by decide) | exact fun _ => ⟨by omega, Or.inr ⟨by omega, sh, lo2, by rw [show tn = j from by omega]; exact hS4, by omega⟩⟩ | exact fun _ => ⟨by omega, Or.inl ⟨by omega, rdR_A (by omega) hS4 (rd_n (by omega))⟩⟩) (by omega)
                    · skip
                      refine j_iload_n (pc := 127) hX dX9_reads_127 1 rfl ?_
                      have hF : rdR ts tn = some j := rd_f hS4 (by omega) hx (by omega)
                      exact j_iret (pc := 128) hX hR dX9_reads_128 ⟨lo2, R, k4, congrArg some (show Value.int (nI j) = Value.int ((rdR ts tn).elim (-1) nI) from by rw [hF]; rfl), rfl, (fun u hu hc => absurd ((rdR_C hu hc).symm.trans hF) (by simp))⟩
              · skip
                refine j_aload_n (pc := 47) hX dX9_reads_47 0 rfl ?_
                refine j_get (pc := 48) hX f_RX9_82 0 rfl rfl dX9_reads_48 ?_
                refine j_iload_n (pc := 51) hX dX9_reads_51 1 rfl ?_
                refine j_ialdN (pc := 52) (j := j) hX 1 rfl (by omega) (by omega) dX9_reads_52 ?_
                refine j_bipush (pc := 53) (v := nI 46) hX dX9_reads_53 (by decide) ?_
                refine j_icmp_eq (pc := 55) (tgt := 69) hX dX9_reads_55 (by decide) rfl (nI_toInt (n := 46) (by decide)) (fun c55 => ?_) (fun c55 => ?_)
                · skip
                  have c55 : (ts j).toInt = 46 := c55
                  refine j_aload_n (pc := 69) hX dX9_reads_69 0 rfl ?_
                  refine j_get (pc := 70) hX f_RX9_85 0 rfl rfl dX9_reads_70 ?_
                  refine j_aload_n (pc := 73) hX dX9_reads_73 0 rfl ?_
                  refine j_get (pc := 74) hX f_RX9_246 0 rfl rfl dX9_reads_74 ?_
                  refine j_dup2 (pc := 77) hX dX9_reads_77 rfl rfl ?_
                  refine j_ialdN (pc := 78) (j := R) hX 2 rfl (by omega) (by omega) dX9_reads_78 ?_
                  refine j_aload_n (pc := 79) hX dX9_reads_79 0 rfl ?_
                  refine j_get (pc := 80) hX f_RX9_82 0 rfl rfl dX9_reads_80 ?_
                  refine j_iload_n (pc := 83) hX dX9_reads_83 1 rfl ?_
                  refine j_ialdN (pc := 84) (j := j) hX 1 rfl (by omega) (by omega) dX9_reads_84 ?_
                  refine j_bipush (pc := 85) (v := nI 35) hX dX9_reads_85 (by decide) ?_
                  refine j_icmp_ne (pc := 87) (tgt := 96) hX dX9_reads_87 (by decide) rfl (nI_toInt (n := 35) (by decide)) (fun c87 => ?_) (fun c87 => ?_)
                  · skip
                    have c87 : (ts j).toInt ≠ 35 := c87
                    refine j_iconstN (pc := 96) (j := 0) hX dX9_reads_96 rfl ?_
                    refine j_ior (pc := 97) hX dX9_reads_97 ?_
                    refine j_iastN (pc := 98) (j := R) (ws' := [(md, .inr (9, [.int (nI W), .int (nI H), .int t, .int (nI m), .int (nI k), .ref zc, .ref zr, .ref zb, .ref z1, .ref z2, .ref z3, .ref z4, .ref z5, .ref zm, .ref zmr, .ref zmb, .int mt, .ref zca, .ref zcw, .int (nI c), .ref zg, .ref zt, .ref zs, .ref zf, .ref zy, .ref zso, .ref zsf, .ref zsm, .int nt, .int nsh, .ref ztp, .ref zrw, .ref zpp, .int (nI tn), .int (nI pn), .int (nI lo2), .int (nI R), .ref zsz, .ref zit, .ref zk, .int (bI itk)])), (ztp, ia G 300 ts), (zrw, ia G 16 (upd k4 R ((k4 R) ||| (nI 0))))]) hX 2 rfl (by omega) (by omega) rfl dX9_reads_98 ?_
                    have hS5 : rdS ts (j + 1) = some (sh, lo2, R, col + 1, if (ts j).toInt = 35 then flp 16 16 g4 col R else g4) := by rw [rdS_s hS4]; unfold rd1; rw [if_neg (by omega)]; exact if_neg (by simp only; omega)
                    refine j_iinc (pc := 99) (q := 1) (v := nI (j + 1)) (lv' := [(1, .int (nI (j + 1))), (0, .ref md), (2, .int (bI mo)), (3, .int (nI col))]) hX dX9_reads_99 rfl (nI_inc _ 1) (by decide) rfl ?_
                    refine j_iinc (pc := 102) (q := 3) (v := nI (col + 1)) (lv' := [(3, .int (nI (col + 1))), (1, .int (nI (j + 1))), (0, .ref md), (2, .int (bI mo))]) hX dX9_reads_102 rfl (nI_inc _ 1) (by decide) rfl ?_
                    refine j_goto (pc := 105) (tgt := 31) hX dX9_reads_105 (by decide) ?_
                    refine j_lv [2, 1, 3, 0] (lv' := [(0, .ref md), (1, .int (nI (j + 1))), (2, .int (bI mo)), (3, .int (nI (col + 1)))]) rfl ?_
                    exact ih31 (j + 1) (col + 1) (upd k4 R ((k4 R) ||| (nI 0))) (if (ts j).toInt = 35 then flp 16 16 g4 col R else g4) (by omega) (hS5) (fun y hy => by unfold upd; rw [if_neg (by omega), hk4 y hy]; split <;> first | rfl | (unfold flp; rw [if_pos ⟨by omega, by omega⟩]; unfold upd; rw [if_neg (by omega)])) (by unfold upd; rw [if_pos rfl, hkR]; first | (rw [if_pos c87]; exact rd_or hS4 (by omega)) | (rw [if_neg c87]; exact Int32.or_zero)) (by omega)
                  · skip
                    have c87 : (ts j).toInt = 35 := c87
                    refine j_iconstN (pc := 90) (j := 1) hX dX9_reads_90 rfl ?_
                    refine j_iload_n (pc := 91) hX dX9_reads_91 3 rfl ?_
                    refine j_ishl (pc := 92) hX dX9_reads_92 ?_
                    refine j_goto (pc := 93) (tgt := 97) hX dX9_reads_93 (by decide) ?_
                    refine j_ior (pc := 97) hX dX9_reads_97 ?_
                    refine j_iastN (pc := 98) (j := R) (ws' := [(md, .inr (9, [.int (nI W), .int (nI H), .int t, .int (nI m), .int (nI k), .ref zc, .ref zr, .ref zb, .ref z1, .ref z2, .ref z3, .ref z4, .ref z5, .ref zm, .ref zmr, .ref zmb, .int mt, .ref zca, .ref zcw, .int (nI c), .ref zg, .ref zt, .ref zs, .ref zf, .ref zy, .ref zso, .ref zsf, .ref zsm, .int nt, .int nsh, .ref ztp, .ref zrw, .ref zpp, .int (nI tn), .int (nI pn), .int (nI lo2), .int (nI R), .ref zsz, .ref zit, .ref zk, .int (bI itk)])), (ztp, ia G 300 ts), (zrw, ia G 16 (upd k4 R ((k4 R) ||| ((nI 1) <<< ((nI col) &&& 31)))))]) hX 2 rfl (by omega) (by omega) rfl dX9_reads_98 ?_
                    have hS5 : rdS ts (j + 1) = some (sh, lo2, R, col + 1, if (ts j).toInt = 35 then flp 16 16 g4 col R else g4) := by rw [rdS_s hS4]; unfold rd1; rw [if_neg (by omega)]; exact if_neg (by simp only; omega)
                    refine j_iinc (pc := 99) (q := 1) (v := nI (j + 1)) (lv' := [(1, .int (nI (j + 1))), (0, .ref md), (2, .int (bI mo)), (3, .int (nI col))]) hX dX9_reads_99 rfl (nI_inc _ 1) (by decide) rfl ?_
                    refine j_iinc (pc := 102) (q := 3) (v := nI (col + 1)) (lv' := [(3, .int (nI (col + 1))), (1, .int (nI (j + 1))), (0, .ref md), (2, .int (bI mo))]) hX dX9_reads_102 rfl (nI_inc _ 1) (by decide) rfl ?_
                    refine j_goto (pc := 105) (tgt := 31) hX dX9_reads_105 (by decide) ?_
                    refine j_lv [2, 1, 3, 0] (lv' := [(0, .ref md), (1, .int (nI (j + 1))), (2, .int (bI mo)), (3, .int (nI (col + 1)))]) rfl ?_
                    exact ih31 (j + 1) (col + 1) (upd k4 R ((k4 R) ||| ((nI 1) <<< ((nI col) &&& 31)))) (if (ts j).toInt = 35 then flp 16 16 g4 col R else g4) (by omega) (hS5) (fun y hy => by unfold upd; rw [if_neg (by omega), hk4 y hy]; split <;> first | rfl | (unfold flp; rw [if_pos ⟨by omega, by omega⟩]; unfold upd; rw [if_neg (by omega)])) (by unfold upd; rw [if_pos rfl, hkR]; first | (rw [if_pos c87]; exact rd_or hS4 (by omega)) | (rw [if_neg c87]; exact Int32.or_zero)) (by omega)
                · skip
                  have c55 : (ts j).toInt ≠ 46 := c55
                  refine j_aload_n (pc := 58) hX dX9_reads_58 0 rfl ?_
                  refine j_get (pc := 59) hX f_RX9_82 0 rfl rfl dX9_reads_59 ?_
                  refine j_iload_n (pc := 62) hX dX9_reads_62 1 rfl ?_
                  refine j_ialdN (pc := 63) (j := j) hX 1 rfl (by omega) (by omega) dX9_reads_63 ?_
                  refine j_bipush (pc := 64) (v := nI 35) hX dX9_reads_64 (by decide) ?_
                  refine j_icmp_ne (pc := 66) (tgt := 108) hX dX9_reads_66 (by decide) rfl (nI_toInt (n := 35) (by decide)) (fun c66 => ?_) (fun c66 => ?_)
                  · skip
                    have c66 : (ts j).toInt ≠ 35 := c66
                    have hx : tn ≤ j ∨ lo2 ≤ col ∨ ((ts j).toInt ≠ 46 ∧ (ts j).toInt ≠ 35) := by omega
                    have hv4 : sh ≤ lo2 ∧ 1 ≤ sh ∧ lo2 ≤ 16 ∧ col ≤ lo2 ∧ R ≤ 15 := by have := (rdV_all hS4).1; exact ⟨this.1, this.2.1, this.2.2.1, this.2.2.2.1, this.2.2.2.2.1⟩
                    have hv5 : 0 < R → sh = lo2 := fun h => ((rdV_all hS4).2.2.1 h).1
                    have hv6 : R = 0 → sh = 1 := fun h => ((rdV_all hS4).2.1 h).1
                    refine j_iload_n (pc := 108) hX dX9_reads_108 3 rfl ?_
                    refine j_if_eq (pc := 109) (tgt := 127) hX dX9_reads_109 (by decide) (nI_toInt (n := col) (by omega)) (fun c109 => ?_) (fun c109 => ?_)
                    · skip
                      refine j_iload_n (pc := 127) hX dX9_reads_127 1 rfl ?_
                      have hF : rdR ts tn = some j := rd_f hS4 (by omega) hx (by omega)
                      exact j_iret (pc := 128) hX hR dX9_reads_128 ⟨lo2, R, k4, congrArg some (show Value.int (nI j) = Value.int ((rdR ts tn).elim (-1) nI) from by rw [hF]; rfl), rfl, (fun u hu hc => absurd ((rdR_C hu hc).symm.trans hF) (by simp))⟩
                    · skip
                      refine j_aload_n (pc := 112) hX dX9_reads_112 0 rfl ?_
                      refine j_get (pc := 113) hX f_RX9_246 0 rfl rfl dX9_reads_113 ?_
                      refine j_if_le (pc := 116) (tgt := 129) hX dX9_reads_116 (by decide) (nI_toInt (n := R) (by omega)) (fun c116 => ?_) (fun c116 => ?_)
                      · skip
                        refine j_aload_n (pc := 129) hX dX9_reads_129 0 rfl ?_
                        refine j_iload_n (pc := 130) hX dX9_reads_130 3 rfl ?_
                        refine j_put (pc := 131) (ws' := [(md, .inr (9, [.int (nI W), .int (nI H), .int t, .int (nI m), .int (nI k), .ref zc, .ref zr, .ref zb, .ref z1, .ref z2, .ref z3, .ref z4, .ref z5, .ref zm, .ref zmr, .ref zmb, .int mt, .ref zca, .ref zcw, .int (nI c), .ref zg, .ref zt, .ref zs, .ref zf, .ref zy, .ref zso, .ref zsf, .ref zsm, .int nt, .int nsh, .ref ztp, .ref zrw, .ref zpp, .int (nI tn), .int (nI pn), .int (nI col), .int (nI R), .ref zsz, .ref zit, .ref zk, .int (bI itk)])), (ztp, ia G 300 ts), (zrw, ia G 16 k4)]) hX f_RX9_243 0 rfl rfl rfl (Nat.le_of_ble_eq_true rfl) rfl dX9_reads_131 ?_
                        refine j_aload_n (pc := 134) hX dX9_reads_134 0 rfl ?_
                        refine j_dup (pc := 135) hX dX9_reads_135 rfl ?_
                        refine j_get (pc := 136) hX f_RX9_246 0 rfl rfl dX9_reads_136 ?_
                        refine j_iconstN (pc := 139) (j := 1) hX dX9_reads_139 rfl ?_
                        refine j_iadd (pc := 140) hX dX9_reads_140 ?_
                        refine j_topi (y := nI (R + 1)) (nI_add _ _) ?_
                        refine j_put (pc := 141) (ws' := [(md, .inr (9, [.int (nI W), .int (nI H), .int t, .int (nI m), .int (nI k), .ref zc, .ref zr, .ref zb, .ref z1, .ref z2, .ref z3, .ref z4, .ref z5, .ref zm, .ref zmr, .ref zmb, .int mt, .ref zca, .ref zcw, .int (nI c), .ref zg, .ref zt, .ref zs, .ref zf, .ref zy, .ref zso, .ref zsf, .ref zsm, .int nt, .int nsh, .ref ztp, .ref zrw, .ref zpp, .int (nI tn), .int (nI pn), .int (nI col), .int (nI (R + 1)), .ref zsz, .ref zit, .ref zk, .int (bI itk)])), (ztp, ia G 300 ts), (zrw, ia G 16 k4)]) hX f_RX9_246 0 rfl rfl rfl (Nat.le_of_ble_eq_true rfl) rfl dX9_reads_141 ?_
                        refine j_iload_n (pc := 144) hX dX9_reads_144 1 rfl ?_
                        refine j_aload_n (pc := 145) hX dX9_reads_145 0 rfl ?_
                        refine j_get (pc := 146) hX f_RX9_240 0 rfl rfl dX9_reads_146 ?_
                        refine j_icmp_ge (pc := 149) (tgt := 176) hX dX9_reads_149 (by decide) (nI_toInt (n := j) (by omega)) (nI_toInt (n := tn) (by omega)) (fun c149 => ?_) (fun c149 => ?_)
                        · skip
                          refine j_iconstN (pc := 176) (j := 0) hX dX9_reads_176 rfl ?_
                          refine j_istore_n (pc := 177) (lv' := [(2, .int (nI 0)), (0, .ref md), (1, .int (nI j)), (3, .int (nI col))]) hX dX9_reads_177 (by decide) rfl ?_
                          refine j_iload_n (pc := 178) hX dX9_reads_178 2 rfl ?_
                          refine j_iload_n (pc := 179) hX dX9_reads_179 0 rfl ?_
                          refine j_if_eq (pc := 180) (tgt := 187) hX dX9_reads_180 (by decide) (nI_toInt (n := 0) (by decide)) (fun c180 => ?_) (fun c180 => absurd c180 (by decide))
                          refine j_iconstN (pc := 187) (j := 0) hX dX9_reads_187 rfl ?_
                          refine j_iadd (pc := 188) hX dX9_reads_188 ?_
                          refine j_topi (y := nI j) (nI_add _ _) ?_
                          refine j_istore_n (pc := 189) (lv' := [(1, .int (nI j)), (2, .int (nI 0)), (0, .ref md), (3, .int (nI col))]) hX dX9_reads_189 (by decide) rfl ?_
                          refine j_goto (pc := 190) (tgt := 15) hX dX9_reads_190 (by decide) ?_
                          refine j_lv [2, 0, 1] (lv' := [(0, .ref md), (1, .int (nI j)), (2, .int (bI false))]) rfl ?_
                          exact ih15 j (R + 1) col col false k4 g4 (by omega) (by first | exact fun h => absurd h (by decide) | exact fun _ => ⟨by rw [rdS_s hS4]; unfold rd1; rw [if_pos c160]; exact if_neg (by simp only; omega), by omega⟩) (lt_s hk4 hkR) (by first | exact fun h => absurd h (by decide) | exact fun _ => ⟨by omega, Or.inr ⟨by omega, sh, lo2, by rw [show tn = j from by omega]; exact hS4, by omega⟩⟩ | exact fun _ => ⟨by omega, Or.inl ⟨by omega, rdR_A (by omega) hS4 (rd_n (by omega))⟩⟩) (by omega)
                        · skip
                          refine j_aload_n (pc := 152) hX dX9_reads_152 0 rfl ?_
                          refine j_get (pc := 153) hX f_RX9_82 0 rfl rfl dX9_reads_153 ?_
                          refine j_iload_n (pc := 156) hX dX9_reads_156 1 rfl ?_
                          refine j_ialdN (pc := 157) (j := j) hX 1 rfl (by omega) (by omega) dX9_reads_157 ?_
                          refine j_bipush (pc := 158) (v := nI 47) hX dX9_reads_158 (by decide) ?_
                          refine j_icmp_ne (pc := 160) (tgt := 176) hX dX9_reads_160 (by decide) rfl (nI_toInt (n := 47) (by decide)) (fun c160 => ?_) (fun c160 => ?_)
                          · skip
                            have c160 : (ts j).toInt ≠ 47 := c160
                            refine j_iconstN (pc := 176) (j := 0) hX dX9_reads_176 rfl ?_
                            refine j_istore_n (pc := 177) (lv' := [(2, .int (nI 0)), (0, .ref md), (1, .int (nI j)), (3, .int (nI col))]) hX dX9_reads_177 (by decide) rfl ?_
                            refine j_iload_n (pc := 178) hX dX9_reads_178 2 rfl ?_
                            refine j_iload_n (pc := 179) hX dX9_reads_179 0 rfl ?_
                            refine j_if_eq (pc := 180) (tgt := 187) hX dX9_reads_180 (by decide) (nI_toInt (n := 0) (by decide)) (fun c180 => ?_) (fun c180 => absurd c180 (by decide))
                            refine j_iconstN (pc := 187) (j := 0) hX dX9_reads_187 rfl ?_
                            refine j_iadd (pc := 188) hX dX9_reads_188 ?_
                            refine j_topi (y := nI j) (nI_add _ _) ?_
                            refine j_istore_n (pc := 189) (lv' := [(1, .int (nI j)), (2, .int (nI 0)), (0, .ref md), (3, .int (nI col))]) hX dX9_reads_189 (by decide) rfl ?_
                            refine j_goto (pc := 190) (tgt := 15) hX dX9_reads_190 (by decide) ?_
                            refine j_lv [2, 0, 1] (lv' := [(0, .ref md), (1, .int (nI j)), (2, .int (bI false))]) rfl ?_
                            exact ih15 j (R + 1) col col false k4 g4 (by omega) (by first | exact fun h => absurd h (by decide) | exact fun _ => ⟨by rw [rdS_s hS4]; unfold rd1; rw [if_pos c160]; exact if_neg (by simp only; omega), by omega⟩) (lt_s hk4 hkR) (by first | exact fun h => absurd h (by decide) | exact fun _ => ⟨by omega, Or.inr ⟨by omega, sh, lo2, by rw [show tn = j from by omega]; exact hS4, by omega⟩⟩ | exact fun _ => ⟨by omega, Or.inl ⟨by omega, rdR_A (by omega) hS4 (rd_n (by omega))⟩⟩) (by omega)
                          · skip
                            have c160 : (ts j).toInt = 47 := c160
                            refine j_aload_n (pc := 163) hX dX9_reads_163 0 rfl ?_
                            refine j_get (pc := 164) hX f_RX9_246 0 rfl rfl dX9_reads_164 ?_
                            refine j_bipush (pc := 167) (v := nI 16) hX dX9_reads_167 (by decide) ?_
                            refine j_icmp_ge (pc := 169) (tgt := 176) hX dX9_reads_169 (by decide) (nI_toInt (n := R + 1) (by omega)) (nI_toInt (n := 16) (by decide)) (fun c169 => ?_) (fun c169 => ?_)
                            · skip
                              refine j_iconstN (pc := 176) (j := 0) hX dX9_reads_176 rfl ?_
                              refine j_istore_n (pc := 177) (lv' := [(2, .int (nI 0)), (0, .ref md), (1, .int (nI j)), (3, .int (nI col))]) hX dX9_reads_177 (by decide) rfl ?_
                              refine j_iload_n (pc := 178) hX dX9_reads_178 2 rfl ?_
                              refine j_iload_n (pc := 179) hX dX9_reads_179 0 rfl ?_
                              refine j_if_eq (pc := 180) (tgt := 187) hX dX9_reads_180 (by decide) (nI_toInt (n := 0) (by decide)) (fun c180 => ?_) (fun c180 => absurd c180 (by decide))
                              refine j_iconstN (pc := 187) (j := 0) hX dX9_reads_187 rfl ?_
                              refine j_iadd (pc := 188) hX dX9_reads_188 ?_
                              refine j_topi (y := nI j) (nI_add _ _) ?_
                              refine j_istore_n (pc := 189) (lv' := [(1, .int (nI j)), (2, .int (nI 0)), (0, .ref md), (3, .int (nI col))]) hX dX9_reads_189 (by decide) rfl ?_
                              refine j_goto (pc := 190) (tgt := 15) hX dX9_reads_190 (by decide) ?_
                              refine j_lv [2, 0, 1] (lv' := [(0, .ref md), (1, .int (nI j)), (2, .int (bI false))]) rfl ?_
                              exact ih15 j (R + 1) col col false k4 g4 (by omega) (by first | exact fun h => absurd h (by decide) | exact fun _ => ⟨by rw [rdS_s hS4]; unfold rd1; rw [if_pos c160]; exact if_neg (by simp only; omega), by omega⟩) (lt_s hk4 hkR) (by first | exact fun h => absurd h (by decide) | exact fun _ => ⟨by omega, Or.inr ⟨by omega, sh, lo2, by rw [show tn = j from by omega]; exact hS4, by omega⟩⟩ | exact fun _ => ⟨by omega, Or.inl ⟨by omega, rdR_A (by omega) hS4 (rd_n (by omega))⟩⟩) (by omega)
                            · skip
                              refine j_iconstN (pc := 172) (j := 1) hX dX9_reads_172 rfl ?_
                              refine j_goto (pc := 173) (tgt := 177) hX dX9_reads_173 (by decide) ?_
                              refine j_istore_n (pc := 177) (lv' := [(2, .int (nI 1)), (0, .ref md), (1, .int (nI j)), (3, .int (nI col))]) hX dX9_reads_177 (by decide) rfl ?_
                              refine j_iload_n (pc := 178) hX dX9_reads_178 2 rfl ?_
                              refine j_iload_n (pc := 179) hX dX9_reads_179 0 rfl ?_
                              refine j_if_eq (pc := 180) (tgt := 187) hX dX9_reads_180 (by decide) (nI_toInt (n := 1) (by decide)) (fun c180 => absurd c180 (by decide)) (fun c180 => ?_)
                              refine j_iconstN (pc := 183) (j := 1) hX dX9_reads_183 rfl ?_
                              refine j_goto (pc := 184) (tgt := 188) hX dX9_reads_184 (by decide) ?_
                              refine j_iadd (pc := 188) hX dX9_reads_188 ?_
                              refine j_topi (y := nI (j + 1)) (nI_add _ _) ?_
                              refine j_istore_n (pc := 189) (lv' := [(1, .int (nI (j + 1))), (2, .int (nI 1)), (0, .ref md), (3, .int (nI col))]) hX dX9_reads_189 (by decide) rfl ?_
                              refine j_goto (pc := 190) (tgt := 15) hX dX9_reads_190 (by decide) ?_
                              refine j_lv [2, 0, 1] (lv' := [(0, .ref md), (1, .int (nI (j + 1))), (2, .int (bI true))]) rfl ?_
                              exact ih15 (j + 1) (R + 1) col col true k4 g4 (by omega) (by first | exact fun h => absurd h (by decide) | exact fun _ => ⟨by rw [rdS_s hS4]; unfold rd1; rw [if_pos c160]; exact if_neg (by simp only; omega), by omega⟩) (lt_s hk4 hkR) (by first | exact fun h => absurd h (by decide) | exact fun _ => ⟨by omega, Or.inr ⟨by omega, sh, lo2, by rw [show tn = j from by omega]; exact hS4, by omega⟩⟩ | exact fun _ => ⟨by omega, Or.inl ⟨by omega, rdR_A (by omega) hS4 (rd_n (by omega))⟩⟩) (by omega)
                      · skip
                        refine j_iload_n (pc := 119) hX dX9_reads_119 3 rfl ?_
                        refine j_aload_n (pc := 120) hX dX9_reads_120 0 rfl ?_
                        refine j_get (pc := 121) hX f_RX9_243 0 rfl rfl dX9_reads_121 ?_
                        refine j_icmp_ge (pc := 124) (tgt := 129) hX dX9_reads_124 (by decide) (nI_toInt (n := col) (by omega)) (nI_toInt (n := lo2) (by omega)) (fun c124 => ?_) (fun c124 => ?_)
                        · skip
                          refine j_aload_n (pc := 129) hX dX9_reads_129 0 rfl ?_
                          refine j_iload_n (pc := 130) hX dX9_reads_130 3 rfl ?_
                          refine j_put (pc := 131) (ws' := [(md, .inr (9, [.int (nI W), .int (nI H), .int t, .int (nI m), .int (nI k), .ref zc, .ref zr, .ref zb, .ref z1, .ref z2, .ref z3, .ref z4, .ref z5, .ref zm, .ref zmr, .ref zmb, .int mt, .ref zca, .ref zcw, .int (nI c), .ref zg, .ref zt, .ref zs, .ref zf, .ref zy, .ref zso, .ref zsf, .ref zsm, .int nt, .int nsh, .ref ztp, .ref zrw, .ref zpp, .int (nI tn), .int (nI pn), .int (nI col), .int (nI R), .ref zsz, .ref zit, .ref zk, .int (bI itk)])), (ztp, ia G 300 ts), (zrw, ia G 16 k4)]) hX f_RX9_243 0 rfl rfl rfl (Nat.le_of_ble_eq_true rfl) rfl dX9_reads_131 ?_
                          refine j_aload_n (pc := 134) hX dX9_reads_134 0 rfl ?_
                          refine j_dup (pc := 135) hX dX9_reads_135 rfl ?_
                          refine j_get (pc := 136) hX f_RX9_246 0 rfl rfl dX9_reads_136 ?_
                          refine j_iconstN (pc := 139) (j := 1) hX dX9_reads_139 rfl ?_
                          refine j_iadd (pc := 140) hX dX9_reads_140 ?_
                          refine j_topi (y := nI (R + 1)) (nI_add _ _) ?_
                          refine j_put (pc := 141) (ws' := [(md, .inr (9, [.int (nI W), .int (nI H), .int t, .int (nI m), .int (nI k), .ref zc, .ref zr, .ref zb, .ref z1, .ref z2, .ref z3, .ref z4, .ref z5, .ref zm, .ref zmr, .ref zmb, .int mt, .ref zca, .ref zcw, .int (nI c), .ref zg, .ref zt, .ref zs, .ref zf, .ref zy, .ref zso, .ref zsf, .ref zsm, .int nt, .int nsh, .ref ztp, .ref zrw, .ref zpp, .int (nI tn), .int (nI pn), .int (nI col), .int (nI (R + 1)), .ref zsz, .ref zit, .ref zk, .int (bI itk)])), (ztp, ia G 300 ts), (zrw, ia G 16 k4)]) hX f_RX9_246 0 rfl rfl rfl (Nat.le_of_ble_eq_true rfl) rfl dX9_reads_141 ?_
                          refine j_iload_n (pc := 144) hX dX9_reads_144 1 rfl ?_
                          refine j_aload_n (pc := 145) hX dX9_reads_145 0 rfl ?_
                          refine j_get (pc := 146) hX f_RX9_240 0 rfl rfl dX9_reads_146 ?_
                          refine j_icmp_ge (pc := 149) (tgt := 176) hX dX9_reads_149 (by decide) (nI_toInt (n := j) (by omega)) (nI_toInt (n := tn) (by omega)) (fun c149 => ?_) (fun c149 => ?_)
                          · skip
                            refine j_iconstN (pc := 176) (j := 0) hX dX9_reads_176 rfl ?_
                            refine j_istore_n (pc := 177) (lv' := [(2, .int (nI 0)), (0, .ref md), (1, .int (nI j)), (3, .int (nI col))]) hX dX9_reads_177 (by decide) rfl ?_
                            refine j_iload_n (pc := 178) hX dX9_reads_178 2 rfl ?_
                            refine j_iload_n (pc := 179) hX dX9_reads_179 0 rfl ?_
                            refine j_if_eq (pc := 180) (tgt := 187) hX dX9_reads_180 (by decide) (nI_toInt (n := 0) (by decide)) (fun c180 => ?_) (fun c180 => absurd c180 (by decide))
                            refine j_iconstN (pc := 187) (j := 0) hX dX9_reads_187 rfl ?_
                            refine j_iadd (pc := 188) hX dX9_reads_188 ?_
                            refine j_topi (y := nI j) (nI_add _ _) ?_
                            refine j_istore_n (pc := 189) (lv' := [(1, .int (nI j)), (2, .int (nI 0)), (0, .ref md), (3, .int (nI col))]) hX dX9_reads_189 (by decide) rfl ?_
                            refine j_goto (pc := 190) (tgt := 15) hX dX9_reads_190 (by decide) ?_
                            refine j_lv [2, 0, 1] (lv' := [(0, .ref md), (1, .int (nI j)), (2, .int (bI false))]) rfl ?_
                            exact ih15 j (R + 1) col col false k4 g4 (by omega) (by first | exact fun h => absurd h (by decide) | exact fun _ => ⟨by rw [rdS_s hS4]; unfold rd1; rw [if_pos c160]; exact if_neg (by simp only; omega), by omega⟩) (lt_s hk4 hkR) (by first | exact fun h => absurd h (by decide) | exact fun _ => ⟨by omega, Or.inr ⟨by omega, sh, lo2, by rw [show tn = j from by omega]; exact hS4, by omega⟩⟩ | exact fun _ => ⟨by omega, Or.inl ⟨by omega, rdR_A (by omega) hS4 (rd_n (by omega))⟩⟩) (by omega)
                          · skip
                            refine j_aload_n (pc := 152) hX dX9_reads_152 0 rfl ?_
                            refine j_get (pc := 153) hX f_RX9_82 0 rfl rfl dX9_reads_153 ?_
                            refine j_iload_n (pc := 156) hX dX9_reads_156 1 rfl ?_
                            refine j_ialdN (pc := 157) (j := j) hX 1 rfl (by omega) (by omega) dX9_reads_157 ?_
                            refine j_bipush (pc := 158) (v := nI 47) hX dX9_reads_158 (by decide) ?_
                            refine j_icmp_ne (pc := 160) (tgt := 176) hX dX9_reads_160 (by decide) rfl (nI_toInt (n := 47) (by decide)) (fun c160 => ?_) (fun c160 => ?_)
                            · skip
                              have c160 : (ts j).toInt ≠ 47 := c160
                              refine j_iconstN (pc := 176) (j := 0) hX dX9_reads_176 rfl ?_
                              refine j_istore_n (pc := 177) (lv' := [(2, .int (nI 0)), (0, .ref md), (1, .int (nI j)), (3, .int (nI col))]) hX dX9_reads_177 (by decide) rfl ?_
                              refine j_iload_n (pc := 178) hX dX9_reads_178 2 rfl ?_
                              refine j_iload_n (pc := 179) hX dX9_reads_179 0 rfl ?_
                              refine j_if_eq (pc := 180) (tgt := 187) hX dX9_reads_180 (by decide) (nI_toInt (n := 0) (by decide)) (fun c180 => ?_) (fun c180 => absurd c180 (by decide))
                              refine j_iconstN (pc := 187) (j := 0) hX dX9_reads_187 rfl ?_
                              refine j_iadd (pc := 188) hX dX9_reads_188 ?_
                              refine j_topi (y := nI j) (nI_add _ _) ?_
                              refine j_istore_n (pc := 189) (lv' := [(1, .int (nI j)), (2, .int (nI 0)), (0, .ref md), (3, .int (nI col))]) hX dX9_reads_189 (by decide) rfl ?_
                              refine j_goto (pc := 190) (tgt := 15) hX dX9_reads_190 (by decide) ?_
                              refine j_lv [2, 0, 1] (lv' := [(0, .ref md), (1, .int (nI j)), (2, .int (bI false))]) rfl ?_
                              exact ih15 j (R + 1) col col false k4 g4 (by omega) (by first | exact fun h => absurd h (by decide) | exact fun _ => ⟨by rw [rdS_s hS4]; unfold rd1; rw [if_pos c160]; exact if_neg (by simp only; omega), by omega⟩) (lt_s hk4 hkR) (by first | exact fun h => absurd h (by decide) | exact fun _ => ⟨by omega, Or.inr ⟨by omega, sh, lo2, by rw [show tn = j from by omega]; exact hS4, by omega⟩⟩ | exact fun _ => ⟨by omega, Or.inl ⟨by omega, rdR_A (by omega) hS4 (rd_n (by omega))⟩⟩) (by omega)
                            · skip
                              have c160 : (ts j).toInt = 47 := c160
                              refine j_aload_n (pc := 163) hX dX9_reads_163 0 rfl ?_
                              refine j_get (pc := 164) hX f_RX9_246 0 rfl rfl dX9_reads_164 ?_
                              refine j_bipush (pc := 167) (v := nI 16) hX dX9_reads_167 (by decide) ?_
                              refine j_icmp_ge (pc := 169) (tgt := 176) hX dX9_reads_169 (by decide) (nI_toInt (n := R + 1) (by omega)) (nI_toInt (n := 16) (by decide)) (fun c169 => ?_) (fun c169 => ?_)
                              · skip
                                refine j_iconstN (pc := 176) (j := 0) hX dX9_reads_176 rfl ?_
                                refine j_istore_n (pc := 177) (lv' := [(2, .int (nI 0)), (0, .ref md), (1, .int (nI j)), (3, .int (nI col))]) hX dX9_reads_177 (by decide) rfl ?_
                                refine j_iload_n (pc := 178) hX dX9_reads_178 2 rfl ?_
                                refine j_iload_n (pc := 179) hX dX9_reads_179 0 rfl ?_
                                refine j_if_eq (pc := 180) (tgt := 187) hX dX9_reads_180 (by decide) (nI_toInt (n := 0) (by decide)) (fun c180 => ?_) (fun c180 => absurd c180 (by decide))
                                refine j_iconstN (pc := 187) (j := 0) hX dX9_reads_187 rfl ?_
                                refine j_iadd (pc := 188) hX dX9_reads_188 ?_
                                refine j_topi (y := nI j) (nI_add _ _) ?_
                                refine j_istore_n (pc := 189) (lv' := [(1, .int (nI j)), (2, .int (nI 0)), (0, .ref md), (3, .int (nI col))]) hX dX9_reads_189 (by decide) rfl ?_
                                refine j_goto (pc := 190) (tgt := 15) hX dX9_reads_190 (by decide) ?_
                                refine j_lv [2, 0, 1] (lv' := [(0, .ref md), (1, .int (nI j)), (2, .int (bI false))]) rfl ?_
                                exact ih15 j (R + 1) col col false k4 g4 (by omega) (by first | exact fun h => absurd h (by decide) | exact fun _ => ⟨by rw [rdS_s hS4]; unfold rd1; rw [if_pos c160]; exact if_neg (by simp only; omega), by omega⟩) (lt_s hk4 hkR) (by first | exact fun h => absurd h (by decide) | exact fun _ => ⟨by omega, Or.inr ⟨by omega, sh, lo2, by rw [show tn = j from by omega]; exact hS4, by omega⟩⟩ | exact fun _ => ⟨by omega, Or.inl ⟨by omega, rdR_A (by omega) hS4 (rd_n (by omega))⟩⟩) (by omega)
                              · skip
                                refine j_iconstN (pc := 172) (j := 1) hX dX9_reads_172 rfl ?_
                                refine j_goto (pc := 173) (tgt := 177) hX dX9_reads_173 (by decide) ?_
                                refine j_istore_n (pc := 177) (lv' := [(2, .int (nI 1)), (0, .ref md), (1, .int (nI j)), (3, .int (nI col))]) hX dX9_reads_177 (by decide) rfl ?_
                                refine j_iload_n (pc := 178) hX dX9_reads_178 2 rfl ?_
                                refine j_iload_n (pc := 179) hX dX9_reads_179 0 rfl ?_
                                refine j_if_eq (pc := 180) (tgt := 187) hX dX9_reads_180 (by decide) (nI_toInt (n := 1) (by decide)) (fun c180 => absurd c180 (by decide)) (fun c180 => ?_)
                                refine j_iconstN (pc := 183) (j := 1) hX dX9_reads_183 rfl ?_
                                refine j_goto (pc := 184) (tgt := 188) hX dX9_reads_184 (by decide) ?_
                                refine j_iadd (pc := 188) hX dX9_reads_188 ?_
                                refine j_topi (y := nI (j + 1)) (nI_add _ _) ?_
                                refine j_istore_n (pc := 189) (lv' := [(1, .int (nI (j + 1))), (2, .int (nI 1)), (0, .ref md), (3, .int (nI col))]) hX dX9_reads_189 (by decide) rfl ?_
                                refine j_goto (pc := 190) (tgt := 15) hX dX9_reads_190 (by decide) ?_
                                refine j_lv [2, 0, 1] (lv' := [(0, .ref md), (1, .int (nI (j + 1))), (2, .int (bI true))]) rfl ?_
                                exact ih15 (j + 1) (R + 1) col col true k4 g4 (by omega) (by first | exact fun h => absurd h (by decide) | exact fun _ => ⟨by rw [rdS_s hS4]; unfold rd1; rw [if_pos c160]; exact if_neg (by simp only; omega), by omega⟩) (lt_s hk4 hkR) (by first | exact fun h => absurd h (by decide) | exact fun _ => ⟨by omega, Or.inr ⟨by omega, sh, lo2, by rw [show tn = j from by omega]; exact hS4, by omega⟩⟩ | exact fun _ => ⟨by omega, Or.inl ⟨by omega, rdR_A (by omega) hS4 (rd_n (by omega))⟩⟩) (by omega)
                        · skip
                          refine j_iload_n (pc := 127) hX dX9_reads_127 1 rfl ?_
                          have hF : rdR ts tn = some j := rd_f hS4 (by omega) hx (by omega)
                          exact j_iret (pc := 128) hX hR dX9_reads_128 ⟨lo2, R, k4, congrArg some (show Value.int (nI j) = Value.int ((rdR ts tn).elim (-1) nI) from by rw [hF]; rfl), rfl, (fun u hu hc => absurd ((rdR_C hu hc).symm.trans hF) (by simp))⟩
                  · skip
                    have c66 : (ts j).toInt = 35 := c66
                    refine j_aload_n (pc := 69) hX dX9_reads_69 0 rfl ?_
                    refine j_get (pc := 70) hX f_RX9_85 0 rfl rfl dX9_reads_70 ?_
                    refine j_aload_n (pc := 73) hX dX9_reads_73 0 rfl ?_
                    refine j_get (pc := 74) hX f_RX9_246 0 rfl rfl dX9_reads_74 ?_
                    refine j_dup2 (pc := 77) hX dX9_reads_77 rfl rfl ?_
                    refine j_ialdN (pc := 78) (j := R) hX 2 rfl (by omega) (by omega) dX9_reads_78 ?_
                    refine j_aload_n (pc := 79) hX dX9_reads_79 0 rfl ?_
                    refine j_get (pc := 80) hX f_RX9_82 0 rfl rfl dX9_reads_80 ?_
                    refine j_iload_n (pc := 83) hX dX9_reads_83 1 rfl ?_
                    refine j_ialdN (pc := 84) (j := j) hX 1 rfl (by omega) (by omega) dX9_reads_84 ?_
                    refine j_bipush (pc := 85) (v := nI 35) hX dX9_reads_85 (by decide) ?_
                    refine j_icmp_ne (pc := 87) (tgt := 96) hX dX9_reads_87 (by decide) rfl (nI_toInt (n := 35) (by decide)) (fun c87 => ?_) (fun c87 => ?_)
                    · skip
                      have c87 : (ts j).toInt ≠ 35 := c87
                      refine j_iconstN (pc := 96) (j := 0) hX dX9_reads_96 rfl ?_
                      refine j_ior (pc := 97) hX dX9_reads_97 ?_
                      refine j_iastN (pc := 98) (j := R) (ws' := [(md, .inr (9, [.int (nI W), .int (nI H), .int t, .int (nI m), .int (nI k), .ref zc, .ref zr, .ref zb, .ref z1, .ref z2, .ref z3, .ref z4, .ref z5, .ref zm, .ref zmr, .ref zmb, .int mt, .ref zca, .ref zcw, .int (nI c), .ref zg, .ref zt, .ref zs, .ref zf, .ref zy, .ref zso, .ref zsf, .ref zsm, .int nt, .int nsh, .ref ztp, .ref zrw, .ref zpp, .int (nI tn), .int (nI pn), .int (nI lo2), .int (nI R), .ref zsz, .ref zit, .ref zk, .int (bI itk)])), (ztp, ia G 300 ts), (zrw, ia G 16 (upd k4 R ((k4 R) ||| (nI 0))))]) hX 2 rfl (by omega) (by omega) rfl dX9_reads_98 ?_
                      have hS5 : rdS ts (j + 1) = some (sh, lo2, R, col + 1, if (ts j).toInt = 35 then flp 16 16 g4 col R else g4) := by rw [rdS_s hS4]; unfold rd1; rw [if_neg (by omega)]; exact if_neg (by simp only; omega)
                      refine j_iinc (pc := 99) (q := 1) (v := nI (j + 1)) (lv' := [(1, .int (nI (j + 1))), (0, .ref md), (2, .int (bI mo)), (3, .int (nI col))]) hX dX9_reads_99 rfl (nI_inc _ 1) (by decide) rfl ?_
                      refine j_iinc (pc := 102) (q := 3) (v := nI (col + 1)) (lv' := [(3, .int (nI (col + 1))), (1, .int (nI (j + 1))), (0, .ref md), (2, .int (bI mo))]) hX dX9_reads_102 rfl (nI_inc _ 1) (by decide) rfl ?_
                      refine j_goto (pc := 105) (tgt := 31) hX dX9_reads_105 (by decide) ?_
                      refine j_lv [2, 1, 3, 0] (lv' := [(0, .ref md), (1, .int (nI (j + 1))), (2, .int (bI mo)), (3, .int (nI (col + 1)))]) rfl ?_
                      exact ih31 (j + 1) (col + 1) (upd k4 R ((k4 R) ||| (nI 0))) (if (ts j).toInt = 35 then flp 16 16 g4 col R else g4) (by omega) (hS5) (fun y hy => by unfold upd; rw [if_neg (by omega), hk4 y hy]; split <;> first | rfl | (unfold flp; rw [if_pos ⟨by omega, by omega⟩]; unfold upd; rw [if_neg (by omega)])) (by unfold upd; rw [if_pos rfl, hkR]; first | (rw [if_pos c87]; exact rd_or hS4 (by omega)) | (rw [if_neg c87]; exact Int32.or_zero)) (by omega)
                    · skip
                      have c87 : (ts j).toInt = 35 := c87
                      refine j_iconstN (pc := 90) (j := 1) hX dX9_reads_90 rfl ?_
                      refine j_iload_n (pc := 91) hX dX9_reads_91 3 rfl ?_
                      refine j_ishl (pc := 92) hX dX9_reads_92 ?_
                      refine j_goto (pc := 93) (tgt := 97) hX dX9_reads_93 (by decide) ?_
                      refine j_ior (pc := 97) hX dX9_reads_97 ?_
                      refine j_iastN (pc := 98) (j := R) (ws' := [(md, .inr (9, [.int (nI W), .int (nI H), .int t, .int (nI m), .int (nI k), .ref zc, .ref zr, .ref zb, .ref z1, .ref z2, .ref z3, .ref z4, .ref z5, .ref zm, .ref zmr, .ref zmb, .int mt, .ref zca, .ref zcw, .int (nI c), .ref zg, .ref zt, .ref zs, .ref zf, .ref zy, .ref zso, .ref zsf, .ref zsm, .int nt, .int nsh, .ref ztp, .ref zrw, .ref zpp, .int (nI tn), .int (nI pn), .int (nI lo2), .int (nI R), .ref zsz, .ref zit, .ref zk, .int (bI itk)])), (ztp, ia G 300 ts), (zrw, ia G 16 (upd k4 R ((k4 R) ||| ((nI 1) <<< ((nI col) &&& 31)))))]) hX 2 rfl (by omega) (by omega) rfl dX9_reads_98 ?_
                      have hS5 : rdS ts (j + 1) = some (sh, lo2, R, col + 1, if (ts j).toInt = 35 then flp 16 16 g4 col R else g4) := by rw [rdS_s hS4]; unfold rd1; rw [if_neg (by omega)]; exact if_neg (by simp only; omega)
                      refine j_iinc (pc := 99) (q := 1) (v := nI (j + 1)) (lv' := [(1, .int (nI (j + 1))), (0, .ref md), (2, .int (bI mo)), (3, .int (nI col))]) hX dX9_reads_99 rfl (nI_inc _ 1) (by decide) rfl ?_
                      refine j_iinc (pc := 102) (q := 3) (v := nI (col + 1)) (lv' := [(3, .int (nI (col + 1))), (1, .int (nI (j + 1))), (0, .ref md), (2, .int (bI mo))]) hX dX9_reads_102 rfl (nI_inc _ 1) (by decide) rfl ?_
                      refine j_goto (pc := 105) (tgt := 31) hX dX9_reads_105 (by decide) ?_
                      refine j_lv [2, 1, 3, 0] (lv' := [(0, .ref md), (1, .int (nI (j + 1))), (2, .int (bI mo)), (3, .int (nI (col + 1)))]) rfl ?_
                      exact ih31 (j + 1) (col + 1) (upd k4 R ((k4 R) ||| ((nI 1) <<< ((nI col) &&& 31)))) (if (ts j).toInt = 35 then flp 16 16 g4 col R else g4) (by omega) (hS5) (fun y hy => by unfold upd; rw [if_neg (by omega), hk4 y hy]; split <;> first | rfl | (unfold flp; rw [if_pos ⟨by omega, by omega⟩]; unfold upd; rw [if_neg (by omega)])) (by unfold upd; rw [if_pos rfl, hkR]; first | (rw [if_pos c87]; exact rd_or hS4 (by omega)) | (rw [if_neg c87]; exact Int32.or_zero)) (by omega)
        refine j_lv [1, 2, 3, 0] (lv' := [(0, .ref md), (1, .int (nI i)), (2, .int (bI mo)), (3, .int (nI 0))]) rfl ?_
        exact L31 ((tn - i) + 1) i 0 (upd k3 R (nI 0)) g2 (by omega) (hS) (fun y hy => by unfold upd; rw [if_neg (by omega)]; exact hk y hy) (by unfold upd; rw [if_pos rfl]; exact (rd_z hS).symm) (Nat.lt_succ_self _)
  refine j_lv [2, 1, 0] (lv' := [(0, .ref md), (1, .int (nI 0)), (2, .int (bI true))]) rfl ?_
  exact L15 ((17 - 0) + 1) 0 0 16 1 true rr (fun _ => 0) (by omega) (fun _ => ⟨rfl, by omega⟩) (fun y hy => absurd hy (Nat.not_lt_zero _)) (fun h => absurd h (by decide)) (Nat.lt_succ_self _)
set_option maxHeartbeats 4000000 in
set_option maxRecDepth 100000 in
theorem c_X9_read_fault (G : GT) (md : Nat) (W : Nat) (H : Nat) (t : Int32) (m : Nat) (k : Nat) (zc : Nat) (zr : Nat) (zb : Nat) (z1 : Nat) (z2 : Nat) (z3 : Nat) (z4 : Nat) (z5 : Nat) (zm : Nat) (zmr : Nat) (zmb : Nat) (mt : Int32) (zca : Nat) (zcw : Nat) (c : Nat) (zg : Nat) (zt : Nat) (zs : Nat) (zf : Nat) (zy : Nat) (zso : Nat) (zsf : Nat) (zsm : Nat) (nt : Int32) (nsh : Int32) (ztp : Nat) (zrw : Nat) (zpp : Nat) (tn : Nat) (pn : Nat) (rdw : Int32) (rdh : Int32) (zsz : Nat) (zit : Nat) (zk : Nat) (itk : Bool) (ts : Nat → Int32) (rr : Nat → Int32) (i : Nat) (hn : tn ≤ 300) (hr : rdR ts tn = some i) (hi : i ≤ 300) (l : Launch) : CT l G yX9_read cX9_read 3 (some .int) { frames := 2, cells := 0, slots := 0, locals := 45 } [.ref md] [(md, .inr (9, [.int (nI W), .int (nI H), .int t, .int (nI m), .int (nI k), .ref zc, .ref zr, .ref zb, .ref z1, .ref z2, .ref z3, .ref z4, .ref z5, .ref zm, .ref zmr, .ref zmb, .int mt, .ref zca, .ref zcw, .int (nI c), .ref zg, .ref zt, .ref zs, .ref zf, .ref zy, .ref zso, .ref zsf, .ref zsm, .int nt, .int nsh, .ref ztp, .ref zrw, .ref zpp, .int (nI tn), .int (nI pn), .int rdw, .int rdh, .ref zsz, .ref zit, .ref zk, .int (bI itk)])), (ztp, ia G 300 ts), (zrw, ia G 16 rr)] (fun vv ww => ∃ (wdt hgt : Nat) (rr2 : Nat → Int32), vv = some (.int ((-100) - nI i)) ∧ ww = [(md, .inr (9, [.int (nI W), .int (nI H), .int t, .int (nI m), .int (nI k), .ref zc, .ref zr, .ref zb, .ref z1, .ref z2, .ref z3, .ref z4, .ref z5, .ref zm, .ref zmr, .ref zmb, .int mt, .ref zca, .ref zcw, .int (nI c), .ref zg, .ref zt, .ref zs, .ref zf, .ref zy, .ref zso, .ref zsf, .ref zsm, .int nt, .int nsh, .ref ztp, .ref zrw, .ref zpp, .int (nI 0), .int (nI pn), .int (nI wdt), .int (nI hgt), .ref zsz, .ref zit, .ref zk, .int (bI itk)])), (ztp, ia G 300 ts), (zrw, ia G 16 rr2)]) := by
  refine CT.of (lv := [(0, .ref md)]) RX9 "read" rfl rfl (by decide +kernel) (Nat.le_of_ble_eq_true rfl) rfl (fun X hX hR => ?_)
  refine j_aload_n (pc := 0) hX dX9_read_0 0 rfl ?_
  refine j_callV (pc := 1) hX kX9_reads kVX9_reads l_RX9_249 (fun l => c_X9_reads G md W H t m k zc zr zb z1 z2 z3 z4 z5 zm zmr zmb mt zca zcw c zg zt zs zf zy zso zsf zsm nt nsh ztp zrw zpp tn pn rdw rdh zsz zit zk itk ts rr (by omega) l) [0, 1, 2] [] [] rfl 0 9 rfl rfl rfl rfl rfl rfl ⟨rfl, rfl, by decide⟩ rfl rfl (Nat.le_of_ble_eq_true rfl) dX9_read_1 (fun v w hq => ?_)
  obtain ⟨wdt_1, hgt_1, rr2_1, rfl, rfl, h1_0⟩ := hq
  refine j_ws [0, 1, 2] (ws' := [(md, .inr (9, [.int (nI W), .int (nI H), .int t, .int (nI m), .int (nI k), .ref zc, .ref zr, .ref zb, .ref z1, .ref z2, .ref z3, .ref z4, .ref z5, .ref zm, .ref zmr, .ref zmb, .int mt, .ref zca, .ref zcw, .int (nI c), .ref zg, .ref zt, .ref zs, .ref zf, .ref zy, .ref zso, .ref zsf, .ref zsm, .int nt, .int nsh, .ref ztp, .ref zrw, .ref zpp, .int (nI tn), .int (nI pn), .int (nI wdt_1), .int (nI hgt_1), .ref zsz, .ref zit, .ref zk, .int (bI itk)])), (ztp, ia G 300 ts), (zrw, ia G 16 rr2_1)]) rfl rfl ?_
  refine j_topi (y := nI i) (by rw [hr]; rfl) ?_
  refine j_istore_n (pc := 4) (lv' := [(1, .int (nI i)), (0, .ref md)]) hX dX9_read_4 (by decide) rfl ?_
  refine j_aload_n (pc := 5) hX dX9_read_5 1 rfl ?_
  refine j_iconstN (pc := 6) (j := 0) hX dX9_read_6 rfl ?_
  refine j_put (pc := 7) (ws' := [(md, .inr (9, [.int (nI W), .int (nI H), .int t, .int (nI m), .int (nI k), .ref zc, .ref zr, .ref zb, .ref z1, .ref z2, .ref z3, .ref z4, .ref z5, .ref zm, .ref zmr, .ref zmb, .int mt, .ref zca, .ref zcw, .int (nI c), .ref zg, .ref zt, .ref zs, .ref zf, .ref zy, .ref zso, .ref zsf, .ref zsm, .int nt, .int nsh, .ref ztp, .ref zrw, .ref zpp, .int (nI 0), .int (nI pn), .int (nI wdt_1), .int (nI hgt_1), .ref zsz, .ref zit, .ref zk, .int (bI itk)])), (ztp, ia G 300 ts), (zrw, ia G 16 rr2_1)]) hX f_RX9_240 0 rfl rfl rfl (Nat.le_of_ble_eq_true rfl) rfl dX9_read_7 ?_
  refine j_iload_n (pc := 10) hX dX9_read_10 0 rfl ?_
  refine j_if_lt (pc := 11) (tgt := 19) hX dX9_read_11 (by decide) (nI_toInt (n := i) (by omega)) (fun c11 => by exfalso; omega) (fun c11 => ?_)
  refine j_bipush (pc := 14) (v := (-100)) hX dX9_read_14 (by decide) ?_
  refine j_iload_n (pc := 16) hX dX9_read_16 0 rfl ?_
  refine j_isub (pc := 17) hX dX9_read_17 ?_
  exact j_iret (pc := 18) hX hR dX9_read_18 ⟨wdt_1, hgt_1, rr2_1, congrArg some (show Value.int ((-100) - (nI i)) = Value.int ((-100) - nI i) from by rfl), rfl⟩
set_option maxHeartbeats 4000000 in
set_option maxRecDepth 100000 in
theorem c_X9_read_sides (G : GT) (md : Nat) (W : Nat) (H : Nat) (t : Int32) (m : Nat) (k : Nat) (zc : Nat) (zr : Nat) (zb : Nat) (z1 : Nat) (z2 : Nat) (z3 : Nat) (z4 : Nat) (z5 : Nat) (zm : Nat) (zmr : Nat) (zmb : Nat) (mt : Int32) (zca : Nat) (zcw : Nat) (c : Nat) (zg : Nat) (zt : Nat) (zs : Nat) (zf : Nat) (zy : Nat) (zso : Nat) (zsf : Nat) (zsm : Nat) (nt : Int32) (nsh : Int32) (ztp : Nat) (zrw : Nat) (zpp : Nat) (tn : Nat) (pn : Nat) (rdw : Int32) (rdh : Int32) (zsz : Nat) (zit : Nat) (zk : Nat) (itk : Bool) (ts : Nat → Int32) (rr : Nat → Int32) (u : RdT) (hn : tn ≤ 300) (hu : rdS ts tn = some u) (hc : ¬ u.2.2.2.1 < u.1) (hb : (sideB (nI u.2.2.2.1) && sideB (nI (u.2.2.1 + 1))) = false) (l : Launch) : CT l G yX9_read cX9_read 3 (some .int) { frames := 2, cells := 0, slots := 0, locals := 45 } [.ref md] [(md, .inr (9, [.int (nI W), .int (nI H), .int t, .int (nI m), .int (nI k), .ref zc, .ref zr, .ref zb, .ref z1, .ref z2, .ref z3, .ref z4, .ref z5, .ref zm, .ref zmr, .ref zmb, .int mt, .ref zca, .ref zcw, .int (nI c), .ref zg, .ref zt, .ref zs, .ref zf, .ref zy, .ref zso, .ref zsf, .ref zsm, .int nt, .int nsh, .ref ztp, .ref zrw, .ref zpp, .int (nI tn), .int (nI pn), .int rdw, .int rdh, .ref zsz, .ref zit, .ref zk, .int (bI itk)])), (ztp, ia G 300 ts), (zrw, ia G 16 rr)] (fun vv ww => ∃ (wdt hgt : Nat) (rr2 : Nat → Int32), vv = some (.int (-500)) ∧ ww = [(md, .inr (9, [.int (nI W), .int (nI H), .int t, .int (nI m), .int (nI k), .ref zc, .ref zr, .ref zb, .ref z1, .ref z2, .ref z3, .ref z4, .ref z5, .ref zm, .ref zmr, .ref zmb, .int mt, .ref zca, .ref zcw, .int (nI c), .ref zg, .ref zt, .ref zs, .ref zf, .ref zy, .ref zso, .ref zsf, .ref zsm, .int nt, .int nsh, .ref ztp, .ref zrw, .ref zpp, .int (nI 0), .int (nI pn), .int (nI wdt), .int (nI hgt), .ref zsz, .ref zit, .ref zk, .int (bI itk)])), (ztp, ia G 300 ts), (zrw, ia G 16 rr2)]) := by
  refine CT.of (lv := [(0, .ref md)]) RX9 "read" rfl rfl (by decide +kernel) (Nat.le_of_ble_eq_true rfl) rfl (fun X hX hR => ?_)
  have hv := rdV_all hu
  have hv1 := hv.1
  have hr0 : rdR ts tn = none := rdR_C hu hc
  have hv2 : 1 ≤ u.2.2.2.1 ∧ u.2.2.2.1 ≤ 16 ∧ u.2.2.1 ≤ 15 := by omega
  refine j_aload_n (pc := 0) hX dX9_read_0 0 rfl ?_
  refine j_callV (pc := 1) hX kX9_reads kVX9_reads l_RX9_249 (fun l => c_X9_reads G md W H t m k zc zr zb z1 z2 z3 z4 z5 zm zmr zmb mt zca zcw c zg zt zs zf zy zso zsf zsm nt nsh ztp zrw zpp tn pn rdw rdh zsz zit zk itk ts rr (by omega) l) [0, 1, 2] [] [] rfl 0 9 rfl rfl rfl rfl rfl rfl ⟨rfl, rfl, by decide⟩ rfl rfl (Nat.le_of_ble_eq_true rfl) dX9_read_1 (fun v w hq => ?_)
  obtain ⟨wdt_1, hgt_1, rr2_1, rfl, rfl, h1_0⟩ := hq
  refine j_ws [0, 1, 2] (ws' := [(md, .inr (9, [.int (nI W), .int (nI H), .int t, .int (nI m), .int (nI k), .ref zc, .ref zr, .ref zb, .ref z1, .ref z2, .ref z3, .ref z4, .ref z5, .ref zm, .ref zmr, .ref zmb, .int mt, .ref zca, .ref zcw, .int (nI c), .ref zg, .ref zt, .ref zs, .ref zf, .ref zy, .ref zso, .ref zsf, .ref zsm, .int nt, .int nsh, .ref ztp, .ref zrw, .ref zpp, .int (nI tn), .int (nI pn), .int (nI wdt_1), .int (nI hgt_1), .ref zsz, .ref zit, .ref zk, .int (bI itk)])), (ztp, ia G 300 ts), (zrw, ia G 16 rr2_1)]) rfl rfl ?_
  refine j_topi (y := (-1)) (by rw [hr0]; rfl) ?_
  refine j_istore_n (pc := 4) (lv' := [(1, .int (-1)), (0, .ref md)]) hX dX9_read_4 (by decide) rfl ?_
  refine j_aload_n (pc := 5) hX dX9_read_5 1 rfl ?_
  refine j_iconstN (pc := 6) (j := 0) hX dX9_read_6 rfl ?_
  refine j_put (pc := 7) (ws' := [(md, .inr (9, [.int (nI W), .int (nI H), .int t, .int (nI m), .int (nI k), .ref zc, .ref zr, .ref zb, .ref z1, .ref z2, .ref z3, .ref z4, .ref z5, .ref zm, .ref zmr, .ref zmb, .int mt, .ref zca, .ref zcw, .int (nI c), .ref zg, .ref zt, .ref zs, .ref zf, .ref zy, .ref zso, .ref zsf, .ref zsm, .int nt, .int nsh, .ref ztp, .ref zrw, .ref zpp, .int (nI 0), .int (nI pn), .int (nI wdt_1), .int (nI hgt_1), .ref zsz, .ref zit, .ref zk, .int (bI itk)])), (ztp, ia G 300 ts), (zrw, ia G 16 rr2_1)]) hX f_RX9_240 0 rfl rfl rfl (Nat.le_of_ble_eq_true rfl) rfl dX9_read_7 ?_
  refine j_iload_n (pc := 10) hX dX9_read_10 0 rfl ?_
  refine j_if_lt (pc := 11) (tgt := 19) hX dX9_read_11 (by decide) (show ((-1) : Int32).toInt = -1 from by decide) (fun c11 => ?_) (fun c11 => absurd c11 (by decide))
  obtain ⟨e1, e2, e3⟩ := h1_0 u hu hc
  have hb1 : 1 ≤ wdt_1 ∧ wdt_1 ≤ 16 ∧ 1 ≤ hgt_1 ∧ hgt_1 ≤ 16 := by omega
  refine j_aload_n (pc := 19) hX dX9_read_19 1 rfl ?_
  refine j_get (pc := 20) hX f_RX9_243 0 rfl rfl dX9_read_20 ?_
  refine j_iconstN (pc := 23) (j := 2) hX dX9_read_23 rfl ?_
  refine j_irem (pc := 24) hX dX9_read_24 (by decide) ?_
  refine j_topi (y := nI (wdt_1 % 2)) (pk_rem (by omega) (by omega) (by omega)) ?_
  refine j_if_ne (pc := 25) (tgt := 37) hX dX9_read_25 (by decide) (nI_toInt (n := wdt_1 % 2) (by omega)) (fun c25 => ?_) (fun c25 => ?_)
  · skip
    refine j_sipush (pc := 37) (v := (-500)) hX dX9_read_37 (by decide) ?_
    exact j_iret (pc := 40) hX hR dX9_read_40 ⟨wdt_1, hgt_1, rr2_1, rfl, rfl⟩
  · skip
    refine j_aload_n (pc := 28) hX dX9_read_28 1 rfl ?_
    refine j_get (pc := 29) hX f_RX9_246 0 rfl rfl dX9_read_29 ?_
    refine j_iconstN (pc := 32) (j := 2) hX dX9_read_32 rfl ?_
    refine j_irem (pc := 33) hX dX9_read_33 (by decide) ?_
    refine j_topi (y := nI (hgt_1 % 2)) (pk_rem (by omega) (by omega) (by omega)) ?_
    refine j_if_eq (pc := 34) (tgt := 41) hX dX9_read_34 (by decide) (nI_toInt (n := hgt_1 % 2) (by omega)) (fun c34 => by exfalso; rw [show sideB (nI u.2.2.2.1) = true from decide_eq_true (by rw [nI_toInt (by omega)]; omega), show sideB (nI (u.2.2.1 + 1)) = true from decide_eq_true (by rw [nI_toInt (by omega)]; omega)] at hb; cases hb) (fun c34 => ?_)
    refine j_sipush (pc := 37) (v := (-500)) hX dX9_read_37 (by decide) ?_
    exact j_iret (pc := 40) hX hR dX9_read_40 ⟨wdt_1, hgt_1, rr2_1, rfl, rfl⟩
set_option maxHeartbeats 4000000 in
set_option maxRecDepth 100000 in
theorem c_X9_read_ok (G : GT) (md : Nat) (W : Nat) (H : Nat) (t : Int32) (m : Nat) (k : Nat) (zc : Nat) (zr : Nat) (zb : Nat) (z1 : Nat) (z2 : Nat) (z3 : Nat) (z4 : Nat) (z5 : Nat) (zm : Nat) (zmr : Nat) (zmb : Nat) (mt : Int32) (zca : Nat) (zcw : Nat) (c : Nat) (zg : Nat) (zt : Nat) (zs : Nat) (zf : Nat) (zy : Nat) (zso : Nat) (zsf : Nat) (zsm : Nat) (nt : Int32) (nsh : Int32) (ztp : Nat) (zrw : Nat) (zpp : Nat) (tn : Nat) (pn : Nat) (rdw : Int32) (rdh : Int32) (zsz : Nat) (zit : Nat) (zk : Nat) (itk : Bool) (ts : Nat → Int32) (rr : Nat → Int32) (f : Nat → Int32) (u : RdT) (hn : tn ≤ 300) (hu : rdS ts tn = some u) (hc : ¬ u.2.2.2.1 < u.1) (hb : (sideB (nI u.2.2.2.1) && sideB (nI (u.2.2.1 + 1))) = true) (l : Launch) : CT l G yX9_read cX9_read 3 (some .int) { frames := 2, cells := 0, slots := 0, locals := 45 } [.ref md] [(md, .inr (9, [.int (nI W), .int (nI H), .int t, .int (nI m), .int (nI k), .ref zc, .ref zr, .ref zb, .ref z1, .ref z2, .ref z3, .ref z4, .ref z5, .ref zm, .ref zmr, .ref zmb, .int mt, .ref zca, .ref zcw, .int (nI c), .ref zg, .ref zt, .ref zs, .ref zf, .ref zy, .ref zso, .ref zsf, .ref zsm, .int nt, .int nsh, .ref ztp, .ref zrw, .ref zpp, .int (nI tn), .int (nI pn), .int rdw, .int rdh, .ref zsz, .ref zit, .ref zk, .int (bI itk)])), (ztp, ia G 300 ts), (zrw, ia G 16 rr), (zc, ia G 16 f)] (fun vv ww => ∃ (wdt hgt : Nat) (rr2 : Nat → Int32), vv = some (.int (nI (cnt u.2.2.2.2 (u.2.2.1 + 1)))) ∧ ww = [(md, .inr (9, [.int (nI u.2.2.2.1), .int (nI (u.2.2.1 + 1)), .int t, .int (nI m), .int (nI k), .ref zc, .ref zr, .ref zb, .ref z1, .ref z2, .ref z3, .ref z4, .ref z5, .ref zm, .ref zmr, .ref zmb, .int mt, .ref zca, .ref zcw, .int (nI 0), .ref zg, .ref zt, .ref zs, .ref zf, .ref zy, .ref zso, .ref zsf, .ref zsm, .int nt, .int nsh, .ref ztp, .ref zrw, .ref zpp, .int (nI 0), .int (nI pn), .int (nI wdt), .int (nI hgt), .ref zsz, .ref zit, .ref zk, .int (bI itk)])), (ztp, ia G 300 ts), (zrw, ia G 16 rr2), (zc, ia G 16 u.2.2.2.2)]) := by
  refine CT.of (lv := [(0, .ref md)]) RX9 "read" rfl rfl (by decide +kernel) (Nat.le_of_ble_eq_true rfl) rfl (fun X hX hR => ?_)
  have hv := rdV_all hu
  have hv1 := hv.1
  have hr0 : rdR ts tn = none := rdR_C hu hc
  have hb := (Bool.and_eq_true _ _).mp hb
  have w1 := of_decide_eq_true hb.1
  have w2 := of_decide_eq_true hb.2
  rw [nI_toInt (by omega)] at w1 w2
  refine j_aload_n (pc := 0) hX dX9_read_0 0 rfl ?_
  refine j_callV (pc := 1) hX kX9_reads kVX9_reads l_RX9_249 (fun l => c_X9_reads G md W H t m k zc zr zb z1 z2 z3 z4 z5 zm zmr zmb mt zca zcw c zg zt zs zf zy zso zsf zsm nt nsh ztp zrw zpp tn pn rdw rdh zsz zit zk itk ts rr (by omega) l) [0, 1, 2] [3] [] rfl 0 9 rfl rfl rfl rfl rfl rfl ⟨rfl, rfl, by decide⟩ rfl rfl (Nat.le_of_ble_eq_true rfl) dX9_read_1 (fun v w hq => ?_)
  obtain ⟨wdt_1, hgt_1, rr2_1, rfl, rfl, h1_0⟩ := hq
  refine j_ws [1, 2, 3, 0] (ws' := [(md, .inr (9, [.int (nI W), .int (nI H), .int t, .int (nI m), .int (nI k), .ref zc, .ref zr, .ref zb, .ref z1, .ref z2, .ref z3, .ref z4, .ref z5, .ref zm, .ref zmr, .ref zmb, .int mt, .ref zca, .ref zcw, .int (nI c), .ref zg, .ref zt, .ref zs, .ref zf, .ref zy, .ref zso, .ref zsf, .ref zsm, .int nt, .int nsh, .ref ztp, .ref zrw, .ref zpp, .int (nI tn), .int (nI pn), .int (nI wdt_1), .int (nI hgt_1), .ref zsz, .ref zit, .ref zk, .int (bI itk)])), (ztp, ia G 300 ts), (zrw, ia G 16 rr2_1), (zc, ia G 16 f)]) rfl rfl ?_
  refine j_topi (y := (-1)) (by rw [hr0]; rfl) ?_
  refine j_istore_n (pc := 4) (lv' := [(1, .int (-1)), (0, .ref md)]) hX dX9_read_4 (by decide) rfl ?_
  refine j_aload_n (pc := 5) hX dX9_read_5 1 rfl ?_
  refine j_iconstN (pc := 6) (j := 0) hX dX9_read_6 rfl ?_
  refine j_put (pc := 7) (ws' := [(md, .inr (9, [.int (nI W), .int (nI H), .int t, .int (nI m), .int (nI k), .ref zc, .ref zr, .ref zb, .ref z1, .ref z2, .ref z3, .ref z4, .ref z5, .ref zm, .ref zmr, .ref zmb, .int mt, .ref zca, .ref zcw, .int (nI c), .ref zg, .ref zt, .ref zs, .ref zf, .ref zy, .ref zso, .ref zsf, .ref zsm, .int nt, .int nsh, .ref ztp, .ref zrw, .ref zpp, .int (nI 0), .int (nI pn), .int (nI wdt_1), .int (nI hgt_1), .ref zsz, .ref zit, .ref zk, .int (bI itk)])), (ztp, ia G 300 ts), (zrw, ia G 16 rr2_1), (zc, ia G 16 f)]) hX f_RX9_240 0 rfl rfl rfl (Nat.le_of_ble_eq_true rfl) rfl dX9_read_7 ?_
  refine j_iload_n (pc := 10) hX dX9_read_10 0 rfl ?_
  refine j_if_lt (pc := 11) (tgt := 19) hX dX9_read_11 (by decide) (show ((-1) : Int32).toInt = -1 from by decide) (fun c11 => ?_) (fun c11 => absurd c11 (by decide))
  obtain ⟨e1, e2, e3⟩ := h1_0 u hu hc
  have hb1 : 1 ≤ wdt_1 ∧ wdt_1 ≤ 16 ∧ 1 ≤ hgt_1 ∧ hgt_1 ≤ 16 := by omega
  refine j_aload_n (pc := 19) hX dX9_read_19 1 rfl ?_
  refine j_get (pc := 20) hX f_RX9_243 0 rfl rfl dX9_read_20 ?_
  refine j_iconstN (pc := 23) (j := 2) hX dX9_read_23 rfl ?_
  refine j_irem (pc := 24) hX dX9_read_24 (by decide) ?_
  refine j_topi (y := nI (wdt_1 % 2)) (pk_rem (by omega) (by omega) (by omega)) ?_
  refine j_if_ne (pc := 25) (tgt := 37) hX dX9_read_25 (by decide) (nI_toInt (n := wdt_1 % 2) (by omega)) (fun c25 => by exfalso; omega) (fun c25 => ?_)
  refine j_aload_n (pc := 28) hX dX9_read_28 1 rfl ?_
  refine j_get (pc := 29) hX f_RX9_246 0 rfl rfl dX9_read_29 ?_
  refine j_iconstN (pc := 32) (j := 2) hX dX9_read_32 rfl ?_
  refine j_irem (pc := 33) hX dX9_read_33 (by decide) ?_
  refine j_topi (y := nI (hgt_1 % 2)) (pk_rem (by omega) (by omega) (by omega)) ?_
  refine j_if_eq (pc := 34) (tgt := 41) hX dX9_read_34 (by decide) (nI_toInt (n := hgt_1 % 2) (by omega)) (fun c34 => ?_) (fun c34 => by exfalso; omega)
  refine j_aload_n (pc := 41) hX dX9_read_41 1 rfl ?_
  refine j_aload_n (pc := 42) hX dX9_read_42 1 rfl ?_
  refine j_get (pc := 43) hX f_RX9_243 0 rfl rfl dX9_read_43 ?_
  refine j_put (pc := 46) (ws' := [(md, .inr (9, [.int (nI wdt_1), .int (nI H), .int t, .int (nI m), .int (nI k), .ref zc, .ref zr, .ref zb, .ref z1, .ref z2, .ref z3, .ref z4, .ref z5, .ref zm, .ref zmr, .ref zmb, .int mt, .ref zca, .ref zcw, .int (nI c), .ref zg, .ref zt, .ref zs, .ref zf, .ref zy, .ref zso, .ref zsf, .ref zsm, .int nt, .int nsh, .ref ztp, .ref zrw, .ref zpp, .int (nI 0), .int (nI pn), .int (nI wdt_1), .int (nI hgt_1), .ref zsz, .ref zit, .ref zk, .int (bI itk)])), (ztp, ia G 300 ts), (zrw, ia G 16 rr2_1), (zc, ia G 16 f)]) hX f_RX9_9 0 rfl rfl rfl (Nat.le_of_ble_eq_true rfl) rfl dX9_read_46 ?_
  refine j_aload_n (pc := 49) hX dX9_read_49 1 rfl ?_
  refine j_aload_n (pc := 50) hX dX9_read_50 1 rfl ?_
  refine j_get (pc := 51) hX f_RX9_246 0 rfl rfl dX9_read_51 ?_
  refine j_put (pc := 54) (ws' := [(md, .inr (9, [.int (nI wdt_1), .int (nI hgt_1), .int t, .int (nI m), .int (nI k), .ref zc, .ref zr, .ref zb, .ref z1, .ref z2, .ref z3, .ref z4, .ref z5, .ref zm, .ref zmr, .ref zmb, .int mt, .ref zca, .ref zcw, .int (nI c), .ref zg, .ref zt, .ref zs, .ref zf, .ref zy, .ref zso, .ref zsf, .ref zsm, .int nt, .int nsh, .ref ztp, .ref zrw, .ref zpp, .int (nI 0), .int (nI pn), .int (nI wdt_1), .int (nI hgt_1), .ref zsz, .ref zit, .ref zk, .int (bI itk)])), (ztp, ia G 300 ts), (zrw, ia G 16 rr2_1), (zc, ia G 16 f)]) hX f_RX9_15 0 rfl rfl rfl (Nat.le_of_ble_eq_true rfl) rfl dX9_read_54 ?_
  refine j_iconstN (pc := 57) (j := 0) hX dX9_read_57 rfl ?_
  refine j_istore_n (pc := 58) (lv' := [(2, .int (nI 0)), (1, .int (-1)), (0, .ref md)]) hX dX9_read_58 (by decide) rfl ?_
  have L59 : ∀ (m59 : Nat) (y : Nat) (f3 : Nat → Int32) (hy : y ≤ 16) (h3 : ∀ z, z < y → f3 z = u.2.2.2.2 z), 16 - y < m59 → J X G 3 0 0 [(md, .inr (9, [.int (nI wdt_1), .int (nI hgt_1), .int t, .int (nI m), .int (nI k), .ref zc, .ref zr, .ref zb, .ref z1, .ref z2, .ref z3, .ref z4, .ref z5, .ref zm, .ref zmr, .ref zmb, .int mt, .ref zca, .ref zcw, .int (nI c), .ref zg, .ref zt, .ref zs, .ref zf, .ref zy, .ref zso, .ref zsf, .ref zsm, .int nt, .int nsh, .ref ztp, .ref zrw, .ref zpp, .int (nI 0), .int (nI pn), .int (nI wdt_1), .int (nI hgt_1), .ref zsz, .ref zit, .ref zk, .int (bI itk)])), (ztp, ia G 300 ts), (zrw, ia G 16 rr2_1), (zc, ia G 16 f3)] [(0, .ref md), (1, .int (-1)), (2, .int (nI y))] 59 [] := by
    intro m59
    induction m59 with
    | zero => intro y f3 hy h3 hm59; exact absurd hm59 (Nat.not_lt_zero _)
    | succ m59 ih59 =>
      intro y f3 hy h3 hm59
      refine j_iload_n (pc := 59) hX dX9_read_59 2 rfl ?_
      refine j_bipush (pc := 60) (v := nI 16) hX dX9_read_60 (by decide) ?_
      refine j_icmp_ge (pc := 62) (tgt := 95) hX dX9_read_62 (by decide) (nI_toInt (n := y) (by omega)) (nI_toInt (n := 16) (by decide)) (fun c62 => ?_) (fun c62 => ?_)
      · skip
        refine j_ia (q0 := 3) (f := f3) (g := u.2.2.2.2) rfl (fun z hz => by exact h3 z (by omega)) (ws' := [(md, .inr (9, [.int (nI wdt_1), .int (nI hgt_1), .int t, .int (nI m), .int (nI k), .ref zc, .ref zr, .ref zb, .ref z1, .ref z2, .ref z3, .ref z4, .ref z5, .ref zm, .ref zmr, .ref zmb, .int mt, .ref zca, .ref zcw, .int (nI c), .ref zg, .ref zt, .ref zs, .ref zf, .ref zy, .ref zso, .ref zsf, .ref zsm, .int nt, .int nsh, .ref ztp, .ref zrw, .ref zpp, .int (nI 0), .int (nI pn), .int (nI wdt_1), .int (nI hgt_1), .ref zsz, .ref zit, .ref zk, .int (bI itk)])), (ztp, ia G 300 ts), (zrw, ia G 16 rr2_1), (zc, ia G 16 u.2.2.2.2)]) rfl ?_
        refine j_aload_n (pc := 95) hX dX9_read_95 0 rfl ?_
        refine j_iconstN (pc := 96) (j := 0) hX dX9_read_96 rfl ?_
        refine j_put (pc := 97) (ws' := [(md, .inr (9, [.int (nI wdt_1), .int (nI hgt_1), .int t, .int (nI m), .int (nI k), .ref zc, .ref zr, .ref zb, .ref z1, .ref z2, .ref z3, .ref z4, .ref z5, .ref zm, .ref zmr, .ref zmb, .int mt, .ref zca, .ref zcw, .int (nI 0), .ref zg, .ref zt, .ref zs, .ref zf, .ref zy, .ref zso, .ref zsf, .ref zsm, .int nt, .int nsh, .ref ztp, .ref zrw, .ref zpp, .int (nI 0), .int (nI pn), .int (nI wdt_1), .int (nI hgt_1), .ref zsz, .ref zit, .ref zk, .int (bI itk)])), (ztp, ia G 300 ts), (zrw, ia G 16 rr2_1), (zc, ia G 16 u.2.2.2.2)]) hX f_RX9_156 0 rfl rfl rfl (Nat.le_of_ble_eq_true rfl) rfl dX9_read_97 ?_
        refine j_aload_n (pc := 100) hX dX9_read_100 0 rfl ?_
        refine j_aload_n (pc := 101) hX dX9_read_101 0 rfl ?_
        refine j_get (pc := 102) hX f_RX9_18 0 rfl rfl dX9_read_102 ?_
        refine j_callV (pc := 105) hX kX9_countOf kVX9_countOf l_RX9_163 (fun l => c_X9_countOf G md wdt_1 hgt_1 t m k zc zr zb z1 z2 z3 z4 z5 zm zmr zmb mt zca zcw 0 zg zt zs zf zy zso zsf zsm nt nsh ztp zrw zpp 0 pn (nI wdt_1) (nI hgt_1) zsz zit zk itk u.2.2.2.2 zc u.2.2.2.2 (by omega) (by omega) (by omega) (by omega) (fun y => lt16 (by omega) (hv.2.2.2.2.1 y)) l) [0, 3] [1, 2] [] rfl 0 9 rfl rfl rfl rfl rfl rfl ⟨rfl, rfl, by decide⟩ rfl rfl (Nat.le_of_ble_eq_true rfl) dX9_read_105 (fun v w hq => ?_)
        obtain ⟨rfl, rfl⟩ := hq
        refine j_ws [2, 0, 1, 3] (ws' := [(md, .inr (9, [.int (nI wdt_1), .int (nI hgt_1), .int t, .int (nI m), .int (nI k), .ref zc, .ref zr, .ref zb, .ref z1, .ref z2, .ref z3, .ref z4, .ref z5, .ref zm, .ref zmr, .ref zmb, .int mt, .ref zca, .ref zcw, .int (nI 0), .ref zg, .ref zt, .ref zs, .ref zf, .ref zy, .ref zso, .ref zsf, .ref zsm, .int nt, .int nsh, .ref ztp, .ref zrw, .ref zpp, .int (nI 0), .int (nI pn), .int (nI wdt_1), .int (nI hgt_1), .ref zsz, .ref zit, .ref zk, .int (bI itk)])), (ztp, ia G 300 ts), (zrw, ia G 16 rr2_1), (zc, ia G 16 u.2.2.2.2)]) rfl rfl ?_
        refine j_eqw (ws' := [(md, .inr (9, [.int (nI u.2.2.2.1), .int (nI hgt_1), .int t, .int (nI m), .int (nI k), .ref zc, .ref zr, .ref zb, .ref z1, .ref z2, .ref z3, .ref z4, .ref z5, .ref zm, .ref zmr, .ref zmb, .int mt, .ref zca, .ref zcw, .int (nI 0), .ref zg, .ref zt, .ref zs, .ref zf, .ref zy, .ref zso, .ref zsf, .ref zsm, .int nt, .int nsh, .ref ztp, .ref zrw, .ref zpp, .int (nI 0), .int (nI pn), .int (nI wdt_1), .int (nI hgt_1), .ref zsz, .ref zit, .ref zk, .int (bI itk)])), (ztp, ia G 300 ts), (zrw, ia G 16 rr2_1), (zc, ia G 16 u.2.2.2.2)]) (congrArg (fun ζ : Int32 => ([(md, .inr (9, [.int ζ, .int (nI hgt_1), .int t, .int (nI m), .int (nI k), .ref zc, .ref zr, .ref zb, .ref z1, .ref z2, .ref z3, .ref z4, .ref z5, .ref zm, .ref zmr, .ref zmb, .int mt, .ref zca, .ref zcw, .int (nI 0), .ref zg, .ref zt, .ref zs, .ref zf, .ref zy, .ref zso, .ref zsf, .ref zsm, .int nt, .int nsh, .ref ztp, .ref zrw, .ref zpp, .int (nI 0), .int (nI pn), .int (nI wdt_1), .int (nI hgt_1), .ref zsz, .ref zit, .ref zk, .int (bI itk)])), (ztp, ia G 300 ts), (zrw, ia G 16 rr2_1), (zc, ia G 16 u.2.2.2.2)] : va_W)) (show nI wdt_1 = nI u.2.2.2.1 from by rw [e1])) ?_
        refine j_eqw (ws' := [(md, .inr (9, [.int (nI u.2.2.2.1), .int (nI (u.2.2.1 + 1)), .int t, .int (nI m), .int (nI k), .ref zc, .ref zr, .ref zb, .ref z1, .ref z2, .ref z3, .ref z4, .ref z5, .ref zm, .ref zmr, .ref zmb, .int mt, .ref zca, .ref zcw, .int (nI 0), .ref zg, .ref zt, .ref zs, .ref zf, .ref zy, .ref zso, .ref zsf, .ref zsm, .int nt, .int nsh, .ref ztp, .ref zrw, .ref zpp, .int (nI 0), .int (nI pn), .int (nI wdt_1), .int (nI hgt_1), .ref zsz, .ref zit, .ref zk, .int (bI itk)])), (ztp, ia G 300 ts), (zrw, ia G 16 rr2_1), (zc, ia G 16 u.2.2.2.2)]) (congrArg (fun ζ : Int32 => ([(md, .inr (9, [.int (nI u.2.2.2.1), .int ζ, .int t, .int (nI m), .int (nI k), .ref zc, .ref zr, .ref zb, .ref z1, .ref z2, .ref z3, .ref z4, .ref z5, .ref zm, .ref zmr, .ref zmb, .int mt, .ref zca, .ref zcw, .int (nI 0), .ref zg, .ref zt, .ref zs, .ref zf, .ref zy, .ref zso, .ref zsf, .ref zsm, .int nt, .int nsh, .ref ztp, .ref zrw, .ref zpp, .int (nI 0), .int (nI pn), .int (nI wdt_1), .int (nI hgt_1), .ref zsz, .ref zit, .ref zk, .int (bI itk)])), (ztp, ia G 300 ts), (zrw, ia G 16 rr2_1), (zc, ia G 16 u.2.2.2.2)] : va_W)) (show nI hgt_1 = nI (u.2.2.1 + 1) from by rw [e2])) ?_
        exact j_iret (pc := 108) hX hR dX9_read_108 ⟨wdt_1, hgt_1, rr2_1, congrArg some (show Value.int (nI (cnt u.2.2.2.2 hgt_1)) = Value.int (nI (cnt u.2.2.2.2 (u.2.2.1 + 1))) from by rw [e2]), rfl⟩
      · skip
        refine j_aload_n (pc := 65) hX dX9_read_65 0 rfl ?_
        refine j_get (pc := 66) hX f_RX9_18 0 rfl rfl dX9_read_66 ?_
        refine j_iload_n (pc := 69) hX dX9_read_69 2 rfl ?_
        refine j_iload_n (pc := 70) hX dX9_read_70 2 rfl ?_
        refine j_aload_n (pc := 71) hX dX9_read_71 0 rfl ?_
        refine j_get (pc := 72) hX f_RX9_15 0 rfl rfl dX9_read_72 ?_
        refine j_icmp_ge (pc := 75) (tgt := 87) hX dX9_read_75 (by decide) (nI_toInt (n := y) (by omega)) (nI_toInt (n := hgt_1) (by omega)) (fun c75 => ?_) (fun c75 => ?_)
        · skip
          refine j_iconstN (pc := 87) (j := 0) hX dX9_read_87 rfl ?_
          refine j_iastN (pc := 88) (j := y) (ws' := [(md, .inr (9, [.int (nI wdt_1), .int (nI hgt_1), .int t, .int (nI m), .int (nI k), .ref zc, .ref zr, .ref zb, .ref z1, .ref z2, .ref z3, .ref z4, .ref z5, .ref zm, .ref zmr, .ref zmb, .int mt, .ref zca, .ref zcw, .int (nI c), .ref zg, .ref zt, .ref zs, .ref zf, .ref zy, .ref zso, .ref zsf, .ref zsm, .int nt, .int nsh, .ref ztp, .ref zrw, .ref zpp, .int (nI 0), .int (nI pn), .int (nI wdt_1), .int (nI hgt_1), .ref zsz, .ref zit, .ref zk, .int (bI itk)])), (ztp, ia G 300 ts), (zrw, ia G 16 rr2_1), (zc, ia G 16 (upd f3 y (nI 0)))]) hX 3 rfl (by omega) (by omega) rfl dX9_read_88 ?_
          refine j_iinc (pc := 89) (q := 2) (v := nI (y + 1)) (lv' := [(2, .int (nI (y + 1))), (0, .ref md), (1, .int (-1))]) hX dX9_read_89 rfl (nI_inc _ 1) (by decide) rfl ?_
          refine j_goto (pc := 92) (tgt := 59) hX dX9_read_92 (by decide) ?_
          refine j_lv [1, 2, 0] (lv' := [(0, .ref md), (1, .int (-1)), (2, .int (nI (y + 1)))]) rfl ?_
          exact ih59 (y + 1) (upd f3 y (nI 0)) (by omega) (fun z hz => by unfold upd; split; (rename_i e; rw [e]; first | exact e3 y (by omega) | exact (hv.2.2.2.1 y (by omega)).symm); exact h3 z (by omega)) (by omega)
        · skip
          refine j_aload_n (pc := 78) hX dX9_read_78 0 rfl ?_
          refine j_get (pc := 79) hX f_RX9_85 0 rfl rfl dX9_read_79 ?_
          refine j_iload_n (pc := 82) hX dX9_read_82 2 rfl ?_
          refine j_ialdN (pc := 83) (j := y) hX 2 rfl (by omega) (by omega) dX9_read_83 ?_
          refine j_goto (pc := 84) (tgt := 88) hX dX9_read_84 (by decide) ?_
          refine j_iastN (pc := 88) (j := y) (ws' := [(md, .inr (9, [.int (nI wdt_1), .int (nI hgt_1), .int t, .int (nI m), .int (nI k), .ref zc, .ref zr, .ref zb, .ref z1, .ref z2, .ref z3, .ref z4, .ref z5, .ref zm, .ref zmr, .ref zmb, .int mt, .ref zca, .ref zcw, .int (nI c), .ref zg, .ref zt, .ref zs, .ref zf, .ref zy, .ref zso, .ref zsf, .ref zsm, .int nt, .int nsh, .ref ztp, .ref zrw, .ref zpp, .int (nI 0), .int (nI pn), .int (nI wdt_1), .int (nI hgt_1), .ref zsz, .ref zit, .ref zk, .int (bI itk)])), (ztp, ia G 300 ts), (zrw, ia G 16 rr2_1), (zc, ia G 16 (upd f3 y (rr2_1 y)))]) hX 3 rfl (by omega) (by omega) rfl dX9_read_88 ?_
          refine j_iinc (pc := 89) (q := 2) (v := nI (y + 1)) (lv' := [(2, .int (nI (y + 1))), (0, .ref md), (1, .int (-1))]) hX dX9_read_89 rfl (nI_inc _ 1) (by decide) rfl ?_
          refine j_goto (pc := 92) (tgt := 59) hX dX9_read_92 (by decide) ?_
          refine j_lv [1, 2, 0] (lv' := [(0, .ref md), (1, .int (-1)), (2, .int (nI (y + 1)))]) rfl ?_
          exact ih59 (y + 1) (upd f3 y (rr2_1 y)) (by omega) (fun z hz => by unfold upd; split; (rename_i e; rw [e]; first | exact e3 y (by omega) | exact (hv.2.2.2.1 y (by omega)).symm); exact h3 z (by omega)) (by omega)
  refine j_lv [2, 1, 0] (lv' := [(0, .ref md), (1, .int (-1)), (2, .int (nI 0))]) rfl ?_
  exact L59 ((16 - 0) + 1) 0 f (by omega) (fun z hz => absurd hz (Nat.not_lt_zero _)) (Nat.lt_succ_self _)
