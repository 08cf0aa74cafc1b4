/-! Cells of a world cut out and put back, by their places in it: no list of indices is computed -/
def Sel (ws wc r : va_W) : Prop := List.Perm ws (wc ++ r)
def Pick (ws : va_W) (c : Nat × va_E) (r : va_W) : Prop := List.Perm ws (c :: r)
theorem Sel.n {ws : va_W} : Sel ws [] ws := List.Perm.refl _
theorem Sel.t {e : Nat × va_E} {ws wc r : va_W} (h : Sel ws wc r) : Sel (e :: ws) (e :: wc) r := List.Perm.cons e h
theorem Sel.s {e : Nat × va_E} {ws wc r : va_W} (h : Sel ws wc r) : Sel (e :: ws) wc (e :: r) := (List.Perm.cons e h).trans List.perm_middle.symm
theorem Pick.h {e : Nat × va_E} {ws : va_W} : Pick (e :: ws) e ws := List.Perm.refl _
theorem Pick.t {e c : Nat × va_E} {ws r : va_W} (h : Pick ws c r) : Pick (e :: ws) c (e :: r) := (List.Perm.cons e h).trans (List.Perm.swap c e r)
theorem Sel.p {c : Nat × va_E} {ws r1 wc r : va_W} (h1 : Pick ws c r1) (h : Sel r1 wc r) : Sel ws (c :: wc) r := List.Perm.trans h1 (List.Perm.cons c h)
theorem pp_perm {G : GT} {ws ws' : va_W} {H : Heap} (h : List.Perm ws ws') (hP : PP G ws H) : PP G ws' H := fun k q hq => by
  have m : q ∈ ws := h.mem_iff.mpr (List.mem_of_getElem? hq)
  obtain ⟨k', e⟩ := List.mem_iff_getElem?.mp m
  exact hP k' q e
theorem va_D_pw {A : Nat → Prop} {ws : va_W} : va_D A ws ↔ List.Pairwise (fun p q : Nat × va_E => p.1 ≠ q.1) ws ∧ ∀ q ∈ ws, A q.1 := by
  constructor
  · intro ⟨h1, h2⟩
    refine ⟨List.pairwise_iff_getElem.mpr fun i j hi hj hij e => ?_, fun q hq => ?_⟩
    · have := h1 i j _ _ (List.getElem?_eq_getElem hi) (List.getElem?_eq_getElem hj) e
      omega
    · obtain ⟨k, e⟩ := List.mem_iff_getElem?.mp hq
      exact h2 k q e
  · intro ⟨h1, h2⟩
    refine ⟨fun i j p q hi hj e => ?_, fun k q hq => h2 q (List.mem_of_getElem? hq)⟩
    obtain ⟨hi1, rfl⟩ := List.getElem?_eq_some_iff.mp hi
    obtain ⟨hj1, rfl⟩ := List.getElem?_eq_some_iff.mp hj
    rcases Nat.lt_trichotomy i j with h | h | h
    · exact absurd e (List.pairwise_iff_getElem.mp h1 i j hi1 hj1 h)
    · exact h
    · exact absurd e.symm (List.pairwise_iff_getElem.mp h1 j i hj1 hi1 h)
theorem va_D_perm {A : Nat → Prop} {ws ws' : va_W} (h : List.Perm ws ws') (hD : va_D A ws) : va_D A ws' := by
  obtain ⟨h1, h2⟩ := va_D_pw.mp hD
  exact va_D_pw.mpr ⟨(h.pairwise_iff (fun {x y} e q => e q.symm)).mp h1, fun q hq => h2 q (h.mem_iff.mpr hq)⟩
theorem fm_map {f : Nat → Option (Nat × va_E)} : ∀ {l : List Nat} {w : va_W}, l.map f = w.map some → l.filterMap f = w
  | [], [], _ => rfl
  | [], _ :: _, h => by cases h
  | _ :: _, [], h => by cases h
  | a :: l, b :: w, h => by
    have h1 := List.cons.inj h
    rw [List.filterMap_cons_some h1.1, fm_map h1.2]
theorem nd_of {l : List Nat} (h : l.Nodup) : va_nd l = true := by
  induction l with
  | nil => rfl
  | cons a l ih =>
    have := List.nodup_cons.mp h
    show (decide (a ∉ l) && va_nd l) = true
    rw [ih this.2, decide_eq_true this.1]
    rfl
theorem rg_C {wc r : va_W} : (List.range wc.length).map (fun i => (wc ++ r)[i]?) = wc.map some := by
  refine List.ext_getElem? fun i => ?_
  rw [List.getElem?_map, List.getElem?_map]
  by_cases h : i < wc.length
  · rw [List.getElem?_range h, List.getElem?_eq_getElem h]
    show some ((wc ++ r)[i]?) = some (some wc[i])
    rw [List.getElem?_append_left h, List.getElem?_eq_getElem h]
  · rw [List.getElem?_eq_none (by rw [List.length_range]; omega), List.getElem?_eq_none (by omega)]
    rfl
theorem rg_R {wc r : va_W} : ((List.range r.length).map (· + wc.length)).map (fun i => (wc ++ r)[i]?) = r.map some := by
  refine List.ext_getElem? fun i => ?_
  rw [List.getElem?_map, List.getElem?_map, List.getElem?_map]
  by_cases h : i < r.length
  · rw [List.getElem?_range h, List.getElem?_eq_getElem h]
    show some ((wc ++ r)[i + wc.length]?) = some (some r[i])
    rw [List.getElem?_append_right (by omega), Nat.add_sub_cancel, List.getElem?_eq_getElem h]
  · rw [List.getElem?_eq_none (by rw [List.length_range]; omega), List.getElem?_eq_none (by omega)]
    rfl
theorem rg_nd {wc r : va_W} : va_nd (List.range wc.length) = true ∧ va_nd ((List.range r.length).map (· + wc.length)) = true ∧ ∀ i ∈ (List.range r.length).map (· + wc.length), i ∉ List.range wc.length := by
  refine ⟨nd_of List.nodup_range, nd_of (List.nodup_range.map _ (fun a b h e => h (by omega))), fun i hi hm => ?_⟩
  obtain ⟨j, -, e⟩ := List.mem_map.mp hi
  have := List.mem_range.mp hm
  omega
section JS
variable {X : XT} {G : GT} {nL k n pc : Nat} {ws wc r : va_W} {lv : List (Nat × Value)} {st st0 : List Value} {cc : ByteArray} {own nm : String} {rm : Room}
theorem j_perm {ws' : va_W} (h : List.Perm ws ws') (kk : J X G nL k n ws' lv pc st) : J X G nL k n ws lv pc st := fun H locs ls hP hD hS hl => kk H locs ls (pp_perm h hP) (va_D_perm h hD) hS hl
theorem j_unsel {ws' w1 : va_W} (h : Sel ws' w1 r) (kk : J X G nL k n ws' lv pc st) : J X G nL k n (r ++ w1) lv pc st := j_perm (List.perm_append_comm.trans h.symm) kk
/-- a call over cells that stand anywhere in the world -/
theorem j_callV2 (hX : okX X G cc own nm nL rm) {y : MethodName} {b : ByteArray} {maxL np i : Nat} {ret : Option FieldType} {rc : Room} {a : Nat} {As : List Value} {post : Option Value → va_W → Prop} (ky : mOK y b maxL ret np) (kv : mV y) (hl : Cond.methodLink own i y ∈ GA) (hM : ∀ l, CT l G y b maxL ret rc (.ref a :: As) wc post) (hsel : Sel ws wc r) (st : List Value)
    (hroom : roomOK rc maxL k n rm = true) (q0 ci : Nat) {fs : List Value} {cq : vw_C} (he : wc[q0]? = some (a, .inr (ci, fs))) (hc : vwCl[ci]? = some cq) (hq : y.cls = cq.1)
    (hs : st0 = As.reverse ++ .ref a :: st) (hn : As.length = np) (hcat : (st.map fun v => v.category).sum ≤ 8) (hdg : decode cc pc = .ok (.invokevirtual i, 3))
    (kk : ∀ v w1, post v w1 → J X G nL (k + rc.cells) (n + rc.slots) (r ++ w1) lv (pc + 3) (v.toList ++ st)) : J X G nL k n ws lv pc st0 := by
  have eR : ((List.range r.length).map (· + wc.length)).filterMap (fun i => (wc ++ r)[i]?) = r := fm_map rg_R
  refine j_perm hsel (j_callV hX ky kv hl hM (List.range wc.length) ((List.range r.length).map (· + wc.length)) st hroom q0 ci he hc hq rg_C (fm_map rg_C) (by rw [eR]; exact rg_R) rg_nd hs hn hcat hdg (fun v w1 hp => ?_))
  rw [eR]
  exact kk v w1 hp
end JS
