/-! CALLS -/
def roomOK (rc : Room) (maxL k n : Nat) (R : Room) : Bool := Nat.ble (rc.frames + 1) R.frames && Nat.ble (8 + (maxL + 11) + rc.locals) R.locals && Nat.ble (k + rc.cells) R.cells && Nat.ble (n + rc.slots) R.slots
theorem roomOK.use {rc : Room} {maxL k n : Nat} {R : Room} (h : roomOK rc maxL k n R = true) : (rc.frames + 1 ≤ R.frames ∧ 8 + (maxL + 11) + rc.locals ≤ R.locals) ∧ k + rc.cells ≤ R.cells ∧ n + rc.slots ≤ R.slots := by
  unfold roomOK at h
  simp only [Bool.and_eq_true, Nat.ble_eq] at h
  exact ⟨⟨h.1.1.1, h.1.1.2⟩, h.1.2, h.2⟩
section JC
variable {X : XT} {G : GT} {nL k n pc : Nat} {ws wc : va_W} {lv : List (Nat × Value)} {st st0 : List Value} {cc : ByteArray} {own nm : String} {rm : Room}
theorem j_back (hX : okX X G cc own nm nL rm) {isC isR : List Nat} {H : Heap} {locs : List Loc} {ls : Array Slot} {post : Option Value → va_W → Prop} {a : Array Value} {mc ms : Nat} (hP : PP G ws H) (hD : va_D X.2.2.2.2.1 ws) (hS : va_S X.2.2.2.2.1 X.2.1.1.heap H locs) (hl : lv_has ls nL lv)
    (hC : isC.map (fun i => ws[i]?) = wc.map some) (hR : isR.map (fun i => ws[i]?) = (isR.filterMap (fun i => ws[i]?)).map some) (hnR : va_nd isR = true) (hdis : ∀ i ∈ isR, i ∉ isC)
    (hr : va_Run X.1.1 X.1.2.1 X.1.2.2.1 X.1.2.2.2 X.2.1.1 X.2.1.2.1 X.2.1.2.2.1 X.2.1.2.2.2 X.2.2.1 X.2.2.2.1 H locs k n mc ms (F0 X.2.1.2.1 pc ls st0) st (Qg G wc H.size post a) (va_A wc H.size))
    (kk : ∀ v w1, post v w1 → J X G nL (k + mc) (n + ms) (isR.filterMap (fun i => ws[i]?) ++ w1) lv (pc + 3) (v.toList ++ st)) :
    W X.1.1 X.1.2.1 X.1.2.2.1 X.1.2.2.2 X.2.1.1 X.2.1.2.1 X.2.1.2.2.1 X.2.1.2.2.2 X.2.2.1 X.2.2.2.1 H locs k n X.2.2.2.2.2 (F0 X.2.1.2.1 pc ls st0) := by
  intro T hT Xs
  obtain ⟨v, st₀, t, T', L, h0, X', hL, e1, e2, ⟨⟨v', w1, hv, hp, hPt, hKt, hDt⟩, hz, hk⟩, hst⟩ := hr T hT Xs
  cases hv
  rw [h0] at hz hk
  have hA := hX.2.2.2.2.2.2.1
  have hF := va_free (wc := wc) hD hS hA isC hC
  obtain ⟨j1, j2⟩ := va_join (wr := isR.filterMap (fun i => ws[i]?)) (w1 := w1) hP hD isC isR hC hR hnR hdis (fun q h1 h2 => hk q h1 h2) hF hPt hDt
  obtain ⟨t2, a1, b1⟩ := kk v w1 hp T'.heap (locs ++ L) ls (by rw [e1]; exact j1) j2
    ⟨Nat.le_trans hS.1 (by rw [e1]; exact hz), fun q h1 h2 => by rw [e1, hk q (Nat.lt_of_lt_of_le h1 hS.1) (fun z => h2 (hF q z))]; exact hS.2.1 q h1 h2, fun q hq => by
      rcases List.mem_append.mp hq with h | h
      · exact hS.2.2 q h
      · exact hF _ (hL q h)⟩ hl T' rfl X'
  exact ⟨t2, hst t2 a1, b1⟩
theorem pc_blind {G : GT} {as : List Value} {ws : va_W} {sz : Nat} : FrameBlind (va_Pc as (fun U => U.heap.size = sz ∧ PP G ws U.heap ∧ KK G U ∧ va_D (fun _ => True) ws)) := fun a U g mk q => by
  obtain ⟨q0, q1, qP, qK, qD⟩ := q
  exact ⟨q0, q1, qP, KK.moved (u := U) (U := U.calling g mk a) (Vm.Alike.refl U.vm) qK, qD⟩
theorem pc_at (hX : okX X G cc own nm nL rm) {as : List Value} {isC : List Nat} {H : Heap} {locs : List Loc} (hP : PP G ws H) (hD : va_D X.2.2.2.2.1 ws) (hC : isC.map (fun i => ws[i]?) = wc.map some) (hnC : va_nd isC = true) (hfC : isC.filterMap (fun i => ws[i]?) = wc) : ∀ U : State, U.heap = H → X.2.1.1.WarmedH U.vm → va_Pc as (fun U => U.heap.size = H.size ∧ PP G wc U.heap ∧ KK G U ∧ va_D (fun _ => True) wc) as.toArray U := fun U hU hW =>
  ⟨rfl, by rw [hU], by rw [hU]; exact va_P.sub hP isC hfC, KK.moved hW.alike hX.2.2.2.2.2.1, (hD.sub isC hnC hC).weaken (fun _ _ _ _ => trivial)⟩
theorem cb_of (hX : okX X G cc own nm nL rm) {y : MethodName} {b : ByteArray} {maxL np i : Nat} {ret : Option FieldType} {rc : Room} (ky : mOK y b maxL ret np) (hl : Cond.methodLink own i y ∈ GA) (hroom : roomOK rc maxL k n rm = true) : CallB X.1.2.2.2 X.2.1.1 X.2.1.2.2.1 own i y b maxL ret (.code y b maxL ret :: GA) rc rc.cells rc.slots np := by
  have hts := hX.2.2.2.2.1
  have hRm := hX.2.2.2.2.2.2.2.1
  obtain ⟨k1, k2, k3, k4, k5⟩ := ky
  have hr := roomOK.use hroom
  refine ⟨rfl, rfl, by rw [hRm]; exact hr.1.1, by rw [hRm]; exact hr.1.2, fun w hw a' U hW => ?_, List.mem_cons_self, hts _ k1, hts _ k2, ⟨k3, k4⟩, fun sig h => ?_, hts _ hl⟩
  · rcases List.mem_cons.mp hw with rfl | hw
    · exact GA_keep hts hW _ k1
    · exact GA_keep hts hW _ hw
  · rw [h] at k5
    exact (Option.some.inj k5).symm
theorem cn_of (hX : okX X G cc own nm nL rm) {y : MethodName} {b : ByteArray} {maxL np i : Nat} {ret : Option FieldType} {rc : Room} {host : String} (ky : mOK y b maxL ret np) (hl : Cond.methodLinkNest own i y host ∈ GA) (hroom : roomOK rc maxL k n rm = true) : va_CN X.1.2.2.2 X.2.1.1 X.2.1.2.2.1 own i y host b maxL ret (.code y b maxL ret :: GA) rc rc.cells rc.slots np := by
  have hts := hX.2.2.2.2.1
  have hRm := hX.2.2.2.2.2.2.2.1
  obtain ⟨k1, k2, k3, k4, k5⟩ := ky
  have hr := roomOK.use hroom
  refine ⟨⟨rfl, rfl, by rw [hRm]; exact hr.1.1, by rw [hRm]; exact hr.1.2, fun w hw a' U hW => ?_, List.mem_cons_self⟩, hts _ k1, hts _ k2, ⟨k3, k4⟩, fun sig h => ?_, hts _ hl⟩
  · rcases List.mem_cons.mp hw with rfl | hw
    · exact GA_keep hts hW _ k1
    · exact GA_keep hts hW _ hw
  · rw [h] at k5
    exact (Option.some.inj k5).symm
/-- a call: an instance's method -/
theorem j_callV (hX : okX X G cc own nm nL rm) {y : MethodName} {b : ByteArray} {maxL np i : Nat} {ret : Option FieldType} {rc : Room} {a : Nat} {As : List Value} {post : Option Value → va_W → Prop} (ky : mOK y b maxL ret np) (kv : mV y) (hl : Cond.methodLink own i y ∈ GA) (hM : ∀ l, CT l G y b maxL ret rc (.ref a :: As) wc post) (isC isR : List Nat) (st : List Value)
    (hroom : roomOK rc maxL k n rm = true) (q0 ci : Nat) {fs : List Value} {cq : vw_C} (he : wc[q0]? = some (a, .inr (ci, fs))) (hc : vwCl[ci]? = some cq) (hq : y.cls = cq.1)
    (hC : isC.map (fun i => ws[i]?) = wc.map some) (hfC : isC.filterMap (fun i => ws[i]?) = wc) (hR : isR.map (fun i => ws[i]?) = (isR.filterMap (fun i => ws[i]?)).map some) (hnd : va_nd isC = true ∧ va_nd isR = true ∧ ∀ i ∈ isR, i ∉ isC)
    (hs : st0 = As.reverse ++ .ref a :: st) (hn : As.length = np) (hcat : (st.map fun v => v.category).sum ≤ 8) (hdg : decode cc pc = .ok (.invokevirtual i, 3))
    (kk : ∀ v w1, post v w1 → J X G nL (k + rc.cells) (n + rc.slots) (isR.filterMap (fun i => ws[i]?) ++ w1) lv (pc + 3) (v.toList ++ st)) : J X G nL k n ws lv pc st0 := by
  intro H locs ls hP hD hS hl1
  have hr := roomOK.use hroom
  have hRm := hX.2.2.2.2.2.2.2.1
  have hts := hX.2.2.2.2.1
  refine j_back hX hP hD hS hl1 hC hR hnd.2.1 hnd.2.2 (va_runV (C := y.cls) (Ts := GA) (nL := nL) (cc := cc) (own := own) (b := a) (As := As) ⟨hX.1, hX.2.1, hX.2.2.1, hX.2.2.2.1, hts⟩ (hM X.1.2.1 H.size) ⟨cb_of hX ky hl hroom, hts _ kv.1, hts _ kv.2⟩ ⟨pc_blind, ?_, pc_at hX hP hD hC hnd.1 hfC (locs := locs)⟩ rfl hn hl1.1 hs (lv_room hcat) hdg (by rw [hRm]; exact hr.2)) kk
  have h1 := va_recv hX.2.2.2.2.2.1.1 (va_P.sub hP isC hfC) hc he
  rw [hq]
  exact h1
/-- a call: a static method of the linked class -/
theorem j_callS (hX : okX X G cc own nm nL rm) {y : MethodName} {b : ByteArray} {maxL np i : Nat} {ret : Option FieldType} {rc : Room} {As : List Value} {post : Option Value → va_W → Prop} (ky : mOK y b maxL ret np) (kv : mS y) (hl : Cond.methodLink own i y ∈ GA) (hM : ∀ l, CT l G y b maxL ret rc As wc post) (isC isR : List Nat) (st : List Value)
    (hroom : roomOK rc maxL k n rm = true)
    (hC : isC.map (fun i => ws[i]?) = wc.map some) (hfC : isC.filterMap (fun i => ws[i]?) = wc) (hR : isR.map (fun i => ws[i]?) = (isR.filterMap (fun i => ws[i]?)).map some) (hnd : va_nd isC = true ∧ va_nd isR = true ∧ ∀ i ∈ isR, i ∉ isC)
    (hs : st0 = As.reverse ++ st) (hn : As.length = np) (hcat : (st.map fun v => v.category).sum ≤ 8) (hdg : decode cc pc = .ok (.invokestatic i, 3))
    (kk : ∀ v w1, post v w1 → J X G nL (k + rc.cells) (n + rc.slots) (isR.filterMap (fun i => ws[i]?) ++ w1) lv (pc + 3) (v.toList ++ st)) : J X G nL k n ws lv pc st0 := by
  intro H locs ls hP hD hS hl1
  have hr := roomOK.use hroom
  have hRm := hX.2.2.2.2.2.2.2.1
  have hts := hX.2.2.2.2.1
  exact j_back hX hP hD hS hl1 hC hR hnd.2.1 hnd.2.2 (va_runS (Ts := GA) (nL := nL) (cc := cc) (own := own) (As := As) ⟨hX.1, hX.2.1, hX.2.2.1, hX.2.2.2.1, hts⟩ (hM X.1.2.1 H.size) ⟨cb_of hX ky hl hroom, hts _ kv⟩ ⟨pc_blind, pc_at hX hP hD hC hnd.1 hfC (locs := locs)⟩ rfl hn hl1.1 hs (lv_room hcat) hdg (by rw [hRm]; exact hr.2)) kk
/-- a call: a private static method of a nest mate -/
theorem j_callSN (hX : okX X G cc own nm nL rm) {y : MethodName} {b : ByteArray} {maxL np i : Nat} {ret : Option FieldType} {rc : Room} {host : String} {As : List Value} {post : Option Value → va_W → Prop} (ky : mOK y b maxL ret np) (kv : mS y) (hl : Cond.methodLinkNest own i y host ∈ GA) (hM : ∀ l, CT l G y b maxL ret rc As wc post) (isC isR : List Nat) (st : List Value)
    (hroom : roomOK rc maxL k n rm = true)
    (hC : isC.map (fun i => ws[i]?) = wc.map some) (hfC : isC.filterMap (fun i => ws[i]?) = wc) (hR : isR.map (fun i => ws[i]?) = (isR.filterMap (fun i => ws[i]?)).map some) (hnd : va_nd isC = true ∧ va_nd isR = true ∧ ∀ i ∈ isR, i ∉ isC)
    (hs : st0 = As.reverse ++ st) (hn : As.length = np) (hcat : (st.map fun v => v.category).sum ≤ 8) (hdg : decode cc pc = .ok (.invokestatic i, 3))
    (kk : ∀ v w1, post v w1 → J X G nL (k + rc.cells) (n + rc.slots) (isR.filterMap (fun i => ws[i]?) ++ w1) lv (pc + 3) (v.toList ++ st)) : J X G nL k n ws lv pc st0 := by
  intro H locs ls hP hD hS hl1
  have hr := roomOK.use hroom
  have hRm := hX.2.2.2.2.2.2.2.1
  have hts := hX.2.2.2.2.1
  exact j_back hX hP hD hS hl1 hC hR hnd.2.1 hnd.2.2 (va_runSN (Ts := GA) (nL := nL) (cc := cc) (own := own) (As := As) ⟨hX.1, hX.2.1, hX.2.2.1, hX.2.2.2.1, hts⟩ (hM X.1.2.1 H.size) ⟨cn_of hX ky hl hroom, hts _ kv, trivial⟩ ⟨pc_blind, pc_at hX hP hD hC hnd.1 hfC (locs := locs)⟩ rfl hn hl1.1 hs (lv_room hcat) hdg (by rw [hRm]; exact hr.2)) kk
/-- a call: a constructor; of a nest mate, a private one -/
theorem j_callI (hX : okX X G cc own nm nL rm) {y : MethodName} {b : ByteArray} {maxL np i : Nat} {rc : Room} {a : Nat} {As : List Value} {post : Option Value → va_W → Prop} (ky : mOK y b maxL none np) (kv : mI y) (hl : Cond.methodLink own i y ∈ GA) (hM : ∀ l, CT l G y b maxL none rc (.ref a :: As) wc post) (isC isR : List Nat) (st : List Value)
    (hroom : roomOK rc maxL k n rm = true)
    (hC : isC.map (fun i => ws[i]?) = wc.map some) (hfC : isC.filterMap (fun i => ws[i]?) = wc) (hR : isR.map (fun i => ws[i]?) = (isR.filterMap (fun i => ws[i]?)).map some) (hnd : va_nd isC = true ∧ va_nd isR = true ∧ ∀ i ∈ isR, i ∉ isC)
    (hs : st0 = As.reverse ++ .ref a :: st) (hn : As.length = np) (hcat : (st.map fun v => v.category).sum ≤ 8) (hdg : decode cc pc = .ok (.invokespecial i, 3))
    (kk : ∀ v w1, post v w1 → J X G nL (k + rc.cells) (n + rc.slots) (isR.filterMap (fun i => ws[i]?) ++ w1) lv (pc + 3) (v.toList ++ st)) : J X G nL k n ws lv pc st0 := by
  intro H locs ls hP hD hS hl1
  have hr := roomOK.use hroom
  have hRm := hX.2.2.2.2.2.2.2.1
  have hts := hX.2.2.2.2.1
  exact j_back hX hP hD hS hl1 hC hR hnd.2.1 hnd.2.2 (va_runI (Ts := GA) (nL := nL) (cc := cc) (own := own) (b := a) (As := As) ⟨hX.1, hX.2.1, hX.2.2.1, hX.2.2.2.1, hts⟩ (hM X.1.2.1 H.size) ⟨cb_of hX ky hl hroom, kv.2, hts _ kv.1⟩ ⟨pc_blind, pc_at hX hP hD hC hnd.1 hfC (locs := locs)⟩ rfl hn hl1.1 hs (lv_room hcat) hdg (by rw [hRm]; exact hr.2)) kk
theorem j_callIN (hX : okX X G cc own nm nL rm) {y : MethodName} {b : ByteArray} {maxL np i : Nat} {rc : Room} {host : String} {a : Nat} {As : List Value} {post : Option Value → va_W → Prop} (ky : mOK y b maxL none np) (kv : mI y) (hl : Cond.methodLinkNest own i y host ∈ GA) (hM : ∀ l, CT l G y b maxL none rc (.ref a :: As) wc post) (isC isR : List Nat) (st : List Value)
    (hroom : roomOK rc maxL k n rm = true)
    (hC : isC.map (fun i => ws[i]?) = wc.map some) (hfC : isC.filterMap (fun i => ws[i]?) = wc) (hR : isR.map (fun i => ws[i]?) = (isR.filterMap (fun i => ws[i]?)).map some) (hnd : va_nd isC = true ∧ va_nd isR = true ∧ ∀ i ∈ isR, i ∉ isC)
    (hs : st0 = As.reverse ++ .ref a :: st) (hn : As.length = np) (hcat : (st.map fun v => v.category).sum ≤ 8) (hdg : decode cc pc = .ok (.invokespecial i, 3))
    (kk : ∀ v w1, post v w1 → J X G nL (k + rc.cells) (n + rc.slots) (isR.filterMap (fun i => ws[i]?) ++ w1) lv (pc + 3) (v.toList ++ st)) : J X G nL k n ws lv pc st0 := by
  intro H locs ls hP hD hS hl1
  have hr := roomOK.use hroom
  have hRm := hX.2.2.2.2.2.2.2.1
  have hts := hX.2.2.2.2.1
  exact j_back hX hP hD hS hl1 hC hR hnd.2.1 hnd.2.2 (va_runIN (Ts := GA) (nL := nL) (cc := cc) (own := own) (b := a) (As := As) ⟨hX.1, hX.2.1, hX.2.2.1, hX.2.2.2.1, hts⟩ (hM X.1.2.1 H.size) ⟨cn_of hX ky hl hroom, kv.2, hts _ kv.1⟩ ⟨pc_blind, pc_at hX hP hD hC hnd.1 hfC (locs := locs)⟩ rfl hn hl1.1 hs (lv_room hcat) hdg (by rw [hRm]; exact hr.2)) kk
end JC
