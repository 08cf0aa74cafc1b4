/-! THE JUDGEMENT J: the machine at a method's place pc, with the world ws, the locals lv and the stack st, comes to its method's end; all else is in X -/
abbrev GT : Type := (Nat → ClassId) × (Nat → Nat → Nat) × ClassId × ClassId × ClassId
abbrev XT : Type := (Program × Launch × Env × Room) × (State × MethodId × Array Value × List Frame) × (Method × Code × (Nat → Prop) × (State → Prop))
abbrev ia (G : GT) (n : Nat) (f : Nat → Int32) : va_E := .inl (G.2.2.1, n, .inl f)
abbrev la (G : GT) (n : Nat) (f : Nat → Int64) : va_E := .inl (G.2.2.2.1, n, .inr (.inl f))
abbrev ra (G : GT) (n : Nat) (f : Nat → Option Nat) : va_E := .inl (G.2.2.2.2, n, .inr (.inr (.inr (.inr f))))
def tys (G : GT) : List (ClassId × FieldType) := [(G.2.2.1, .int), (G.2.2.2.1, .long), (G.2.2.2.2, .object RX2)]
def KK (G : GT) (U : State) : Prop := va_K (G.1, G.2.1) vwCl (tys G) U ∧ va_AO RX2 U
def PP (G : GT) (ws : va_W) (H : Heap) : Prop := va_P (G.1, G.2.1) vwCl ws H
theorem KK.moved {G : GT} {u U : State} (hvm : u.vm.Alike U.vm) (h : KK G u) : KK G U := ⟨va_K.moved hvm h.1, va_AO.moved hvm h.2⟩
def J (X : XT) (G : GT) (nL k n : Nat) (ws : va_W) (lv : List (Nat × Value)) (pc : Nat) (st : List Value) : Prop :=
  ∀ (H : Heap) (locs : List Loc) (ls : Array Slot), PP G ws H → va_D X.2.2.2.2.1 ws → va_S X.2.2.2.2.1 X.2.1.1.heap H locs → lv_has ls nL lv →
    W X.1.1 X.1.2.1 X.1.2.2.1 X.1.2.2.2 X.2.1.1 X.2.1.2.1 X.2.1.2.2.1 X.2.1.2.2.2 X.2.2.1 X.2.2.2.1 H locs k n X.2.2.2.2.2 (F0 X.2.1.2.1 pc ls st)
def okX (X : XT) (G : GT) (cc : ByteArray) (own nm : String) (nL : Nat) (rm : Room) : Prop :=
  X.1.1.tables.exec = Jvm.exec ∧ X.2.2.2.1.code = cc ∧ X.2.2.2.1.maxLocals = nL ∧ X.2.1.1.vm.findClass own = some X.2.1.2.1.cls ∧ (∀ w ∈ GA, w.before X.2.1.2.2.1 X.2.1.1 = true) ∧ KK G X.2.1.1 ∧ (∀ q, X.2.1.1.heap.size ≤ q → X.2.2.2.2.1 q) ∧ X.1.2.2.2 = rm ∧ X.2.2.1.locks = false ∧ X.2.2.1.name = nm
/-- a method's end: the answer and the world behind it -/
def Qg (G : GT) (ws : va_W) (sz : Nat) (post : Option Value → va_W → Prop) : Array Value → State → Outcome → State → Prop := fun _ st oc t =>
  (∃ (v : Option Value) (w : va_W), oc = .returned v ∧ post v w ∧ PP G w t.heap ∧ KK G t ∧ va_D (va_A ws sz) w) ∧ va_F (va_A ws sz) st t
def retX (X : XT) (G : GT) (ret : Option FieldType) (mc ms : Nat) (post : Option Value → va_W → Prop) : Prop :=
  X.2.2.1.sig.returnType = ret ∧ ∃ (ws0 : va_W) (sz : Nat), X.2.2.2.2.1 = va_A ws0 sz ∧ X.2.2.2.2.2 = MQ X.2.1.2.2.2 (Qg G ws0 sz post) X.2.1.2.2.1 X.2.1.1 mc ms (va_A ws0 sz)
/-- A CONTRACT: called with as over the world ws, the method returns, and its answer and world are as post says -/
def CT (l : Launch) (G : GT) (y : MethodName) (b : ByteArray) (nL : Nat) (ret : Option FieldType) (rm : Room) (as : List Value) (ws : va_W) (post : Option Value → va_W → Prop) : Prop :=
  ∀ sz : Nat, Met l y (.code y b nL ret :: GA) rm (va_Pc as (fun U => U.heap.size = sz ∧ PP G ws U.heap ∧ KK G U ∧ va_D (fun _ => True) ws)) (Qg G ws sz post) rm.cells rm.slots (va_A ws sz)
theorem CT.of {l : Launch} {G : GT} {y : MethodName} {b : ByteArray} {nL : Nat} {ret : Option FieldType} {rm : Room} {as : List Value} {ws : va_W} {post : Option Value → va_W → Prop} {lv : List (Nat × Value)} (own nm : String) (ho : y.cls = own) (hm : y.name = nm) (hy : plainName y.cls = true) (hN : (lg_sl as).length ≤ nL) (hlv : lv_args 0 as = lv)
    (body : ∀ X : XT, okX X G b own nm nL rm → retX X G ret rm.cells rm.slots post → J X G nL 0 0 ws lv 0 []) : CT l G y b nL ret rm as ws post := by
  intro sz
  refine Met.ofW (cc := b) (maxL := nL) (ret := ret) hy rfl ?_
  intro p e s m args below meth c s₁ B hml hv
  obtain ⟨rfl, hsz, hP, hK, hD0⟩ := hv
  have hts := atoms_spec (ws := .code y b nL ret :: GA) B.pre
  have hD := hD0.self (sz := sz)
  rw [lg_entry_eq]
  subst hsz
  subst hlv
  subst ho
  subst hm
  exact body ((p, l, e, rm), (s, m, as.toArray, below), (meth, c, va_A ws s.heap.size, MQ below (Qg G ws s.heap.size post) as.toArray s rm.cells rm.slots (va_A ws s.heap.size)))
    ⟨B.exec, B.bytes, hml, findClass_of_methodNamed B.named, fun w hw => hts w (List.mem_cons_of_mem _ hw), hK, fun q h => Or.inr h, rfl, B.notSynchronized, (name_of_methodNamed B.named B.method).1⟩ ⟨B.returns, ws, s.heap.size, rfl, rfl⟩ s.heap [] _ hP hD va_S.rf (lv_entry as hN)
section JR
variable {X : XT} {G : GT} {nL k n pc : Nat} {ws ws' : va_W} {lv lv' : List (Nat × Value)} {st : List Value} {cc : ByteArray} {own nm : String} {rm : Room} {ret : Option FieldType} {mc ms : Nat} {post : Option Value → va_W → Prop}
theorem j_iret (hX : okX X G cc own nm nL rm) (hR : retX X G (some .int) mc ms post) {v : Int32} (hdg : decode cc pc = .ok (.ireturn, 1)) (hp : post (some (.int v)) ws) : J X G nL mc ms ws lv pc [.int v] := by
  intro H locs ls hP hD hS hl
  obtain ⟨hr, ws0, sz, hA, hQ⟩ := hR
  rw [hQ]
  rw [hA] at hS hD
  exact W.iret hX.1 hX.2.1 hr (fun t ht hW => ⟨⟨_, ws, rfl, hp, by rw [ht]; exact hP, KK.moved hW.alike hX.2.2.2.2.2.1, hD⟩, hS.F ht⟩) hS.2.2 hdg hX.2.2.2.2.2.2.2.2.1
theorem j_zret (hX : okX X G cc own nm nL rm) (hR : retX X G (some .boolean) mc ms post) {v : Int32} (hn : narrow .boolean (.int v) = .int v) (hdg : decode cc pc = .ok (.ireturn, 1)) (hp : post (some (.int v)) ws) : J X G nL mc ms ws lv pc [.int v] := by
  intro H locs ls hP hD hS hl
  obtain ⟨hr, ws0, sz, hA, hQ⟩ := hR
  rw [hQ]
  rw [hA] at hS hD
  exact W.zret hX.1 hX.2.1 hr hn (fun t ht hW => ⟨⟨_, ws, rfl, hp, by rw [ht]; exact hP, KK.moved hW.alike hX.2.2.2.2.2.1, hD⟩, hS.F ht⟩) hS.2.2 hdg hX.2.2.2.2.2.2.2.2.1
theorem j_lret (hX : okX X G cc own nm nL rm) (hR : retX X G (some .long) mc ms post) {v : Int64} (hdg : decode cc pc = .ok (.lreturn, 1)) (hp : post (some (.long v)) ws) : J X G nL mc ms ws lv pc [.long v] := by
  intro H locs ls hP hD hS hl
  obtain ⟨hr, ws0, sz, hA, hQ⟩ := hR
  rw [hQ]
  rw [hA] at hS hD
  exact W.lret hX.1 hX.2.1 hr (fun t ht hW => ⟨⟨_, ws, rfl, hp, by rw [ht]; exact hP, KK.moved hW.alike hX.2.2.2.2.2.1, hD⟩, hS.F ht⟩) hS.2.2 hdg hX.2.2.2.2.2.2.2.2.1
theorem j_vret (hX : okX X G cc own nm nL rm) (hR : retX X G none mc ms post) (hdg : decode cc pc = .ok (.return_, 1)) (hp : post none ws) : J X G nL mc ms ws lv pc [] := by
  intro H locs ls hP hD hS hl
  obtain ⟨hr, ws0, sz, hA, hQ⟩ := hR
  rw [hQ]
  rw [hA] at hS hD
  exact W.vret hX.1 hX.2.1 hr (fun t ht hW => ⟨⟨_, ws, rfl, hp, by rw [ht]; exact hP, KK.moved hW.alike hX.2.2.2.2.2.1, hD⟩, hS.F ht⟩) hS.2.2 hdg hX.2.2.2.2.2.2.2.2.1
theorem j_aret (hX : okX X G cc own nm nL rm) {C : String} (hR : retX X G (some (.object C)) mc ms post) {v : Value} (hv : v = .null ∨ ∃ a, v = .ref a) (hdg : decode cc pc = .ok (.areturn, 1)) (hp : post (some v) ws) : J X G nL mc ms ws lv pc [v] := by
  intro H locs ls hP hD hS hl
  obtain ⟨hr, ws0, sz, hA, hQ⟩ := hR
  rw [hQ]
  rw [hA] at hS hD
  exact W.aret hX.1 hX.2.1 hr (Or.inl ⟨C, rfl⟩) hv (fun t ht hW => ⟨⟨_, ws, rfl, hp, by rw [ht]; exact hP, KK.moved hW.alike hX.2.2.2.2.2.1, hD⟩, hS.F ht⟩) hS.2.2 hdg hX.2.2.2.2.2.2.2.2.1
/-- other words for the top, the locals in another order, the world in another order, more room -/
theorem j_top {x y : Value} (h : x = y) (kk : J X G nL k n ws lv pc (y :: st)) : J X G nL k n ws lv pc (x :: st) := h ▸ kk
theorem j_topi {x y : Int32} (h : x = y) (kk : J X G nL k n ws lv pc (.int y :: st)) : J X G nL k n ws lv pc (.int x :: st) := h ▸ kk
theorem j_topl {x y : Int64} (h : x = y) (kk : J X G nL k n ws lv pc (.long y :: st)) : J X G nL k n ws lv pc (.long x :: st) := h ▸ kk
theorem j_nami {x : Int32} (kk : ∀ y : Int32, y = x → J X G nL k n ws lv pc (.int y :: st)) : J X G nL k n ws lv pc (.int x :: st) := kk x rfl
theorem j_lv (ks : List Nat) (h : lv_pick lv ks = lv') (kk : J X G nL k n ws lv' pc st) : J X G nL k n ws lv pc st := fun H locs ls hP hD hS hl => kk H locs ls hP hD hS (lv_sub hl ks h)
theorem j_ws (is : List Nat) (hn : va_nd is = true) (h : is.map (fun i => ws[i]?) = ws'.map some) (kk : J X G nL k n ws' lv pc st) : J X G nL k n ws lv pc st := fun H locs ls hP hD hS hl =>
  kk H locs ls (va_P.sub hP is (by
    have e : ∀ (l : List Nat) (w : va_W), l.map (fun i => ws[i]?) = w.map some → l.filterMap (fun i => ws[i]?) = w := by
      intro l
      induction l with
      | nil => intro w hw; cases w with
        | nil => rfl
        | cons a w => cases hw
      | cons a l ih => intro w hw; cases w with
        | nil => cases hw
        | cons b w =>
          rw [List.map_cons, List.map_cons] at hw
          injection hw with h1 h2
          rw [List.filterMap_cons, h1]
          exact congrArg _ (ih w h2)
    exact e is ws' h)) (hD.sub is hn h) hS hl
theorem j_eqw (h : ws = ws') (kk : J X G nL k n ws' lv pc st) : J X G nL k n ws lv pc st := h ▸ kk
theorem j_widen {k' n' : Nat} (h1 : k ≤ k') (h2 : n ≤ n') (kk : J X G nL k' n' ws lv pc st) : J X G nL k n ws lv pc st := fun H locs ls hP hD hS hl => W.widen h1 h2 (kk H locs ls hP hD hS hl)
theorem vp_cell_congr {cA : ClassId} {n : Nat} {f g : Nat → Int32} (h : ∀ j, j < n → f j = g j) : vp_cell cA (n, .inl f) = vp_cell cA (n, .inl g) := by
  rw [vp_cell_i, vp_cell_i]
  unfold arrV
  have e : (fun j : Fin n => Value.int (f j.val)) = (fun j : Fin n => Value.int (g j.val)) := funext fun j => by rw [h j.val j.isLt]
  exact congrArg (fun z => ({ cls := cA, slots := Array.ofFn (n := n) z, vm := .none } : Cell)) e
/-- an int array's values are those below its length -/
theorem j_ia {q0 : Nat} {a nn : Nat} {f g : Nat → Int32} (h : ws[q0]? = some (a, ia G nn f)) (hfg : ∀ j, j < nn → f j = g j) (hw : ws.set q0 (a, ia G nn g) = ws') (kk : J X G nL k n ws' lv pc st) : J X G nL k n ws lv pc st := by
  intro H locs ls hP hD hS hl
  subst hw
  refine kk H locs ls (fun i r hr => ?_) ⟨fun i j p q hp hq e => ?_, fun i q hq => ?_⟩ hS hl
  · by_cases hi : i = q0
    · subst hi
      have hlt : i < ws.length := (List.getElem?_eq_some_iff.mp h).1
      rw [List.getElem?_set_self hlt] at hr
      cases hr
      have h1 := hP i _ h
      show _ = _
      rw [← vp_cell_congr hfg]
      exact h1
    · rw [List.getElem?_set_ne (fun h => hi h.symm)] at hr
      exact hP i r hr
  · have key : ∀ (i : Nat) (p : Nat × va_E), (ws.set q0 (a, ia G nn g))[i]? = some p → ∃ p' : Nat × va_E, ws[i]? = some p' ∧ p'.1 = p.1 := by
      intro i p hp
      by_cases hi : i = q0
      · subst hi
        have hlt : i < ws.length := (List.getElem?_eq_some_iff.mp h).1
        rw [List.getElem?_set_self hlt] at hp
        cases hp
        exact ⟨_, h, rfl⟩
      · rw [List.getElem?_set_ne (fun h => hi h.symm)] at hp
        exact ⟨p, hp, rfl⟩
    obtain ⟨p', h1, h2⟩ := key i p hp
    obtain ⟨q', h3, h4⟩ := key j q hq
    exact hD.1 i j p' q' h1 h3 (by rw [h2, h4, e])
  · by_cases hi : i = q0
    · subst hi
      have hlt : i < ws.length := (List.getElem?_eq_some_iff.mp h).1
      rw [List.getElem?_set_self hlt] at hq
      cases hq
      show X.2.2.2.2.1 a
      exact hD.2 i _ h
    · rw [List.getElem?_set_ne (fun h => hi h.symm)] at hq
      exact hD.2 i q hq
theorem vp_cell_congrL {cA : ClassId} {n : Nat} {f g : Nat → Int64} (h : ∀ j, j < n → f j = g j) : vp_cell cA (n, .inr (.inl f)) = vp_cell cA (n, .inr (.inl g)) := by
  rw [vp_cell_l, vp_cell_l]
  unfold arrV
  have e : (fun j : Fin n => Value.long (f j.val)) = (fun j : Fin n => Value.long (g j.val)) := funext fun j => by rw [h j.val j.isLt]
  exact congrArg (fun z => ({ cls := cA, slots := Array.ofFn (n := n) z, vm := .none } : Cell)) e
/-- a long array's values are those below its length -/
theorem j_la {q0 : Nat} {a nn : Nat} {f g : Nat → Int64} (h : ws[q0]? = some (a, la G nn f)) (hfg : ∀ j, j < nn → f j = g j) (hw : ws.set q0 (a, la G nn g) = ws') (kk : J X G nL k n ws' lv pc st) : J X G nL k n ws lv pc st := by
  intro H locs ls hP hD hS hl
  subst hw
  refine kk H locs ls (fun i r hr => ?_) ⟨fun i j p q hp hq e => ?_, fun i q hq => ?_⟩ hS hl
  · by_cases hi : i = q0
    · subst hi
      have hlt : i < ws.length := (List.getElem?_eq_some_iff.mp h).1
      rw [List.getElem?_set_self hlt] at hr
      cases hr
      have h1 := hP i _ h
      show _ = _
      rw [← vp_cell_congrL hfg]
      exact h1
    · rw [List.getElem?_set_ne (fun h => hi h.symm)] at hr
      exact hP i r hr
  · have key : ∀ (i : Nat) (p : Nat × va_E), (ws.set q0 (a, la G nn g))[i]? = some p → ∃ p' : Nat × va_E, ws[i]? = some p' ∧ p'.1 = p.1 := by
      intro i p hp
      by_cases hi : i = q0
      · subst hi
        have hlt : i < ws.length := (List.getElem?_eq_some_iff.mp h).1
        rw [List.getElem?_set_self hlt] at hp
        cases hp
        exact ⟨_, h, rfl⟩
      · rw [List.getElem?_set_ne (fun h => hi h.symm)] at hp
        exact ⟨p, hp, rfl⟩
    obtain ⟨p', h1, h2⟩ := key i p hp
    obtain ⟨q', h3, h4⟩ := key j q hq
    exact hD.1 i j p' q' h1 h3 (by rw [h2, h4, e])
  · by_cases hi : i = q0
    · subst hi
      have hlt : i < ws.length := (List.getElem?_eq_some_iff.mp h).1
      rw [List.getElem?_set_self hlt] at hq
      cases hq
      show X.2.2.2.2.1 a
      exact hD.2 i _ h
    · rw [List.getElem?_set_ne (fun h => hi h.symm)] at hq
      exact hD.2 i q hq
theorem j_iadd (hX : okX X G cc own nm nL rm) {x y : Int32} (hdg : decode cc pc = .ok (.iadd, 1)) (kk : J X G nL k n ws lv (pc + 1) (.int (x + y) :: st)) : J X G nL k n ws lv pc (.int y :: .int x :: st) := fun H locs ls hP hD hS hl => lv_iadd hX.1 hX.2.1 hdg (kk H locs ls hP hD hS hl)
theorem j_isub (hX : okX X G cc own nm nL rm) {x y : Int32} (hdg : decode cc pc = .ok (.isub, 1)) (kk : J X G nL k n ws lv (pc + 1) (.int (x - y) :: st)) : J X G nL k n ws lv pc (.int y :: .int x :: st) := fun H locs ls hP hD hS hl => lv_isub hX.1 hX.2.1 hdg (kk H locs ls hP hD hS hl)
theorem j_imul (hX : okX X G cc own nm nL rm) {x y : Int32} (hdg : decode cc pc = .ok (.imul, 1)) (kk : J X G nL k n ws lv (pc + 1) (.int (x * y) :: st)) : J X G nL k n ws lv pc (.int y :: .int x :: st) := fun H locs ls hP hD hS hl => lv_imul hX.1 hX.2.1 hdg (kk H locs ls hP hD hS hl)
theorem j_iand (hX : okX X G cc own nm nL rm) {x y : Int32} (hdg : decode cc pc = .ok (.iand, 1)) (kk : J X G nL k n ws lv (pc + 1) (.int (x &&& y) :: st)) : J X G nL k n ws lv pc (.int y :: .int x :: st) := fun H locs ls hP hD hS hl => lv_iand hX.1 hX.2.1 hdg (kk H locs ls hP hD hS hl)
theorem j_ior (hX : okX X G cc own nm nL rm) {x y : Int32} (hdg : decode cc pc = .ok (.ior, 1)) (kk : J X G nL k n ws lv (pc + 1) (.int (x ||| y) :: st)) : J X G nL k n ws lv pc (.int y :: .int x :: st) := fun H locs ls hP hD hS hl => lv_ior hX.1 hX.2.1 hdg (kk H locs ls hP hD hS hl)
theorem j_ixor (hX : okX X G cc own nm nL rm) {x y : Int32} (hdg : decode cc pc = .ok (.ixor, 1)) (kk : J X G nL k n ws lv (pc + 1) (.int (x ^^^ y) :: st)) : J X G nL k n ws lv pc (.int y :: .int x :: st) := fun H locs ls hP hD hS hl => lv_ixor hX.1 hX.2.1 hdg (kk H locs ls hP hD hS hl)
theorem j_ishl (hX : okX X G cc own nm nL rm) {x y : Int32} (hdg : decode cc pc = .ok (.ishl, 1)) (kk : J X G nL k n ws lv (pc + 1) (.int (x <<< (y &&& 31)) :: st)) : J X G nL k n ws lv pc (.int y :: .int x :: st) := fun H locs ls hP hD hS hl => lv_ishl hX.1 hX.2.1 hdg (kk H locs ls hP hD hS hl)
theorem j_ishr (hX : okX X G cc own nm nL rm) {x y : Int32} (hdg : decode cc pc = .ok (.ishr, 1)) (kk : J X G nL k n ws lv (pc + 1) (.int (x >>> (y &&& 31)) :: st)) : J X G nL k n ws lv pc (.int y :: .int x :: st) := fun H locs ls hP hD hS hl => lv_ishr hX.1 hX.2.1 hdg (kk H locs ls hP hD hS hl)
theorem j_idiv (hX : okX X G cc own nm nL rm) {x y : Int32} (hdg : decode cc pc = .ok (.idiv, 1)) (hne : ¬ y = 0) (kk : J X G nL k n ws lv (pc + 1) (.int (x / y) :: st)) : J X G nL k n ws lv pc (.int y :: .int x :: st) := fun H locs ls hP hD hS hl => lv_idiv hX.1 hX.2.1 hdg hne (kk H locs ls hP hD hS hl)
theorem j_irem (hX : okX X G cc own nm nL rm) {x y : Int32} (hdg : decode cc pc = .ok (.irem, 1)) (hne : ¬ y = 0) (kk : J X G nL k n ws lv (pc + 1) (.int (x - x / y * y) :: st)) : J X G nL k n ws lv pc (.int y :: .int x :: st) := fun H locs ls hP hD hS hl => lv_irem hX.1 hX.2.1 hdg hne (kk H locs ls hP hD hS hl)
theorem j_ladd (hX : okX X G cc own nm nL rm) {x y : Int64} (hdg : decode cc pc = .ok (.ladd, 1)) (kk : J X G nL k n ws lv (pc + 1) (.long (x + y) :: st)) : J X G nL k n ws lv pc (.long y :: .long x :: st) := fun H locs ls hP hD hS hl => lv_ladd hX.1 hX.2.1 hdg (kk H locs ls hP hD hS hl)
theorem j_lsub (hX : okX X G cc own nm nL rm) {x y : Int64} (hdg : decode cc pc = .ok (.lsub, 1)) (kk : J X G nL k n ws lv (pc + 1) (.long (x - y) :: st)) : J X G nL k n ws lv pc (.long y :: .long x :: st) := fun H locs ls hP hD hS hl => lv_lsub hX.1 hX.2.1 hdg (kk H locs ls hP hD hS hl)
theorem j_land (hX : okX X G cc own nm nL rm) {x y : Int64} (hdg : decode cc pc = .ok (.land, 1)) (kk : J X G nL k n ws lv (pc + 1) (.long (x &&& y) :: st)) : J X G nL k n ws lv pc (.long y :: .long x :: st) := fun H locs ls hP hD hS hl => lv_land hX.1 hX.2.1 hdg (kk H locs ls hP hD hS hl)
theorem j_lor (hX : okX X G cc own nm nL rm) {x y : Int64} (hdg : decode cc pc = .ok (.lor, 1)) (kk : J X G nL k n ws lv (pc + 1) (.long (x ||| y) :: st)) : J X G nL k n ws lv pc (.long y :: .long x :: st) := fun H locs ls hP hD hS hl => lv_lor hX.1 hX.2.1 hdg (kk H locs ls hP hD hS hl)
theorem j_i2l (hX : okX X G cc own nm nL rm) {x : Int32} (hdg : decode cc pc = .ok (.i2l, 1)) (kk : J X G nL k n ws lv (pc + 1) (.long x.toInt64 :: st)) : J X G nL k n ws lv pc (.int x :: st) := fun H locs ls hP hD hS hl => lv_i2l hX.1 hX.2.1 hdg rfl (kk H locs ls hP hD hS hl)
theorem j_l2i (hX : okX X G cc own nm nL rm) {x : Int64} (hdg : decode cc pc = .ok (.l2i, 1)) (kk : J X G nL k n ws lv (pc + 1) (.int x.toInt32 :: st)) : J X G nL k n ws lv pc (.long x :: st) := fun H locs ls hP hD hS hl => lv_l2i hX.1 hX.2.1 hdg rfl (kk H locs ls hP hD hS hl)
theorem j_lshl (hX : okX X G cc own nm nL rm) {x : Int64} {y : Int32} (hdg : decode cc pc = .ok (.lshl, 1)) (kk : J X G nL k n ws lv (pc + 1) (.long (x <<< (y.toInt64 &&& 63)) :: st)) : J X G nL k n ws lv pc (.int y :: .long x :: st) := fun H locs ls hP hD hS hl => lv_lshl hX.1 hX.2.1 hdg rfl (kk H locs ls hP hD hS hl)
theorem j_iushr (hX : okX X G cc own nm nL rm) {x y : Int32} (hdg : decode cc pc = .ok (.iushr, 1)) (kk : J X G nL k n ws lv (pc + 1) (.int ((x.toUInt32 >>> (y.toUInt32 &&& Int32.toUInt32 31)).toInt32) :: st)) : J X G nL k n ws lv pc (.int y :: .int x :: st) := fun H locs ls hP hD hS hl => lv_iushr hX.1 hX.2.1 hdg rfl (kk H locs ls hP hD hS hl)
theorem j_dup (hX : okX X G cc own nm nL rm) {va : Value} (hdg : decode cc pc = .ok (.dup, 1)) (hva : va.category = 1) (kk : J X G nL k n ws lv (pc + 1) (va :: va :: st)) : J X G nL k n ws lv pc (va :: st) := fun H locs ls hP hD hS hl => lv_dup hX.1 hX.2.1 hdg hva (kk H locs ls hP hD hS hl)
theorem j_dup2 (hX : okX X G cc own nm nL rm) {va vb : Value} (hdg : decode cc pc = .ok (.dup2, 1)) (hva : va.category = 1) (hvb : vb.category = 1) (kk : J X G nL k n ws lv (pc + 1) (va :: vb :: va :: vb :: st)) : J X G nL k n ws lv pc (va :: vb :: st) := fun H locs ls hP hD hS hl => lv_dup2_11 hX.1 hX.2.1 hdg hva hvb (kk H locs ls hP hD hS hl)
theorem j_pop (hX : okX X G cc own nm nL rm) {va : Value} (hdg : decode cc pc = .ok (.pop, 1)) (hva : va.category = 1) (kk : J X G nL k n ws lv (pc + 1) (st)) : J X G nL k n ws lv pc (va :: st) := fun H locs ls hP hD hS hl => lv_pop hX.1 hX.2.1 hdg hva (kk H locs ls hP hD hS hl)
theorem j_null (hX : okX X G cc own nm nL rm) (hdg : decode cc pc = .ok (.aconst_null, 1)) (kk : J X G nL k n ws lv (pc + 1) (.null :: st)) : J X G nL k n ws lv pc st := fun H locs ls hP hD hS hl => lv_null hX.1 hX.2.1 hdg (kk H locs ls hP hD hS hl)
theorem j_lcmp (hX : okX X G cc own nm nL rm) {x y : Int64} (hdg : decode cc pc = .ok (.lcmp, 1)) (kk : J X G nL k n ws lv (pc + 1) (.int (lg_cmp x y) :: st)) : J X G nL k n ws lv pc (.long y :: .long x :: st) := fun H locs ls hP hD hS hl => W.lcmp hX.1 hX.2.1 hdg (kk H locs ls hP hD hS hl)
theorem j_iconst (hX : okX X G cc own nm nL rm) {i : Int} {v : Int32} (hdg : decode cc pc = .ok (.iconst i, 1)) (hv : Int32.ofInt i = v) (kk : J X G nL k n ws lv (pc + 1) (.int v :: st)) : J X G nL k n ws lv pc st := fun H locs ls hP hD hS hl => lv_iconst hX.1 hX.2.1 hdg hv (kk H locs ls hP hD hS hl)
theorem j_bipush (hX : okX X G cc own nm nL rm) {i : Int} {v : Int32} (hdg : decode cc pc = .ok (.bipush i, 2)) (hv : (Int8.ofInt i).toInt32 = v) (kk : J X G nL k n ws lv (pc + 2) (.int v :: st)) : J X G nL k n ws lv pc st := fun H locs ls hP hD hS hl => lv_bipush hX.1 hX.2.1 hdg hv (kk H locs ls hP hD hS hl)
theorem j_sipush (hX : okX X G cc own nm nL rm) {i : Int} {v : Int32} (hdg : decode cc pc = .ok (.sipush i, 3)) (hv : (Int16.ofInt i).toInt32 = v) (kk : J X G nL k n ws lv (pc + 3) (.int v :: st)) : J X G nL k n ws lv pc st := fun H locs ls hP hD hS hl => lv_sipush hX.1 hX.2.1 hdg hv (kk H locs ls hP hD hS hl)
theorem j_lconst (hX : okX X G cc own nm nL rm) {i : Fin 2} {v : Int64} (hdg : decode cc pc = .ok (.lconst i, 1)) (hv : Int64.ofNat (i : Nat) = v) (kk : J X G nL k n ws lv (pc + 1) (.long v :: st)) : J X G nL k n ws lv pc st := fun H locs ls hP hD hS hl => lv_lconst hX.1 hX.2.1 hdg hv (kk H locs ls hP hD hS hl)
theorem j_ldc (hX : okX X G cc own nm nL rm) {i : Nat} {v : Int32} (hw : Cond.constant own i v ∈ GA) (hdg : decode cc pc = .ok (.ldc i, 2)) (kk : J X G nL k n ws lv (pc + 2) (.int v :: st)) : J X G nL k n ws lv pc st := fun H locs ls hP hD hS hl => lv_ldc hX.1 hX.2.1 hX.2.2.2.1 (hX.2.2.2.2.1 _ hw) hdg (kk H locs ls hP hD hS hl)
theorem j_ldcw (hX : okX X G cc own nm nL rm) {i : Nat} {v : Int32} (hw : Cond.constant own i v ∈ GA) (hdg : decode cc pc = .ok (.ldc_w i, 3)) (kk : J X G nL k n ws lv (pc + 3) (.int v :: st)) : J X G nL k n ws lv pc st := fun H locs ls hP hD hS hl => lv_ldcw hX.1 hX.2.1 hX.2.2.2.1 (hX.2.2.2.2.1 _ hw) hdg (kk H locs ls hP hD hS hl)
theorem j_ldc2 (hX : okX X G cc own nm nL rm) {i : Nat} {v : Int64} (hw : Cond.constantLong own i v ∈ GA) (hdg : decode cc pc = .ok (.ldc2_w i, 3)) (kk : J X G nL k n ws lv (pc + 3) (.long v :: st)) : J X G nL k n ws lv pc st := fun H locs ls hP hD hS hl => lv_ldc2 hX.1 hX.2.1 hX.2.2.2.1 (hX.2.2.2.2.1 _ hw) hdg (kk H locs ls hP hD hS hl)
theorem j_iload_n (hX : okX X G cc own nm nL rm) {i : Fin 4} {x : Int32} (hdg : decode cc pc = .ok (.iload_n i, 1)) (q : Nat) (hq : lv[q]? = some ((i : Nat), .int x)) (kk : J X G nL k n ws lv (pc + 1) (.int x :: st)) : J X G nL k n ws lv pc st := fun H locs ls hP hD hS hl => lv_iload_n hX.1 hX.2.1 hdg rfl (lv_at hl q hq) (kk H locs ls hP hD hS hl)
theorem j_iload (hX : okX X G cc own nm nL rm) {i : Nat} {x : Int32} (hdg : decode cc pc = .ok (.iload i, 2)) (q : Nat) (hq : lv[q]? = some (i, .int x)) (kk : J X G nL k n ws lv (pc + 2) (.int x :: st)) : J X G nL k n ws lv pc st := fun H locs ls hP hD hS hl => lv_iload hX.1 hX.2.1 hdg (lv_at hl q hq) (kk H locs ls hP hD hS hl)
theorem j_istore_n (hX : okX X G cc own nm nL rm) {i : Fin 4} {x : Int32} (hdg : decode cc pc = .ok (.istore_n i, 1)) (hn : (i : Nat) < nL) (hl : ((i : Nat), Value.int x) :: lv.filter (fun q => !(q.1 == (i : Nat)) && !(q.1 + 1 == (i : Nat) && q.2.category == 2)) = lv') (kk : J X G nL k n ws lv' (pc + 1) st) : J X G nL k n ws lv pc (.int x :: st) := fun H locs ls hP hD hS h => lv_istore_n hX.1 hX.2.1 hdg rfl h hn hl (fun ls' h' => kk H locs ls' hP hD hS h')
theorem j_istore (hX : okX X G cc own nm nL rm) {i : Nat} {x : Int32} (hdg : decode cc pc = .ok (.istore i, 2)) (hn : i < nL) (hl : (i, Value.int x) :: lv.filter (fun q => !(q.1 == i) && !(q.1 + 1 == i && q.2.category == 2)) = lv') (kk : J X G nL k n ws lv' (pc + 2) st) : J X G nL k n ws lv pc (.int x :: st) := fun H locs ls hP hD hS h => lv_istore hX.1 hX.2.1 hdg h hn hl (fun ls' h' => kk H locs ls' hP hD hS h')
theorem j_aload_n (hX : okX X G cc own nm nL rm) {i : Fin 4} {x : Nat} (hdg : decode cc pc = .ok (.aload_n i, 1)) (q : Nat) (hq : lv[q]? = some ((i : Nat), .ref x)) (kk : J X G nL k n ws lv (pc + 1) (.ref x :: st)) : J X G nL k n ws lv pc st := fun H locs ls hP hD hS hl => lv_aload_n hX.1 hX.2.1 hdg rfl (lv_at hl q hq) (kk H locs ls hP hD hS hl)
theorem j_aload (hX : okX X G cc own nm nL rm) {i : Nat} {x : Nat} (hdg : decode cc pc = .ok (.aload i, 2)) (q : Nat) (hq : lv[q]? = some (i, .ref x)) (kk : J X G nL k n ws lv (pc + 2) (.ref x :: st)) : J X G nL k n ws lv pc st := fun H locs ls hP hD hS hl => lv_aload hX.1 hX.2.1 hdg (lv_at hl q hq) (kk H locs ls hP hD hS hl)
theorem j_astore_n (hX : okX X G cc own nm nL rm) {i : Fin 4} {x : Nat} (hdg : decode cc pc = .ok (.astore_n i, 1)) (hn : (i : Nat) < nL) (hl : ((i : Nat), Value.ref x) :: lv.filter (fun q => !(q.1 == (i : Nat)) && !(q.1 + 1 == (i : Nat) && q.2.category == 2)) = lv') (kk : J X G nL k n ws lv' (pc + 1) st) : J X G nL k n ws lv pc (.ref x :: st) := fun H locs ls hP hD hS h => lv_astore_n hX.1 hX.2.1 hdg rfl h hn hl (fun ls' h' => kk H locs ls' hP hD hS h')
theorem j_astore (hX : okX X G cc own nm nL rm) {i : Nat} {x : Nat} (hdg : decode cc pc = .ok (.astore i, 2)) (hn : i < nL) (hl : (i, Value.ref x) :: lv.filter (fun q => !(q.1 == i) && !(q.1 + 1 == i && q.2.category == 2)) = lv') (kk : J X G nL k n ws lv' (pc + 2) st) : J X G nL k n ws lv pc (.ref x :: st) := fun H locs ls hP hD hS h => lv_astore hX.1 hX.2.1 hdg h hn hl (fun ls' h' => kk H locs ls' hP hD hS h')
theorem j_lload_n (hX : okX X G cc own nm nL rm) {i : Fin 4} {x : Int64} (hdg : decode cc pc = .ok (.lload_n i, 1)) (q : Nat) (hq : lv[q]? = some ((i : Nat), .long x)) (kk : J X G nL k n ws lv (pc + 1) (.long x :: st)) : J X G nL k n ws lv pc st := fun H locs ls hP hD hS hl => lv_lload_n hX.1 hX.2.1 hdg rfl (lv_at hl q hq) (kk H locs ls hP hD hS hl)
theorem j_lload (hX : okX X G cc own nm nL rm) {i : Nat} {x : Int64} (hdg : decode cc pc = .ok (.lload i, 2)) (q : Nat) (hq : lv[q]? = some (i, .long x)) (kk : J X G nL k n ws lv (pc + 2) (.long x :: st)) : J X G nL k n ws lv pc st := fun H locs ls hP hD hS hl => lv_lload hX.1 hX.2.1 hdg (lv_at hl q hq) (kk H locs ls hP hD hS hl)
theorem j_iinc (hX : okX X G cc own nm nL rm) {i q : Nat} {z : Int} {x v : Int32} (hdg : decode cc pc = .ok (.iinc i z, 3)) (hq : lv[q]? = some (i, .int x)) (hv : x + Int32.ofInt z = v) (hn : i < nL) (hl : (i, Value.int v) :: lv.filter (fun q => !(q.1 == i) && !(q.1 + 1 == i && q.2.category == 2)) = lv') (kk : J X G nL k n ws lv' (pc + 3) st) : J X G nL k n ws lv pc st := fun H locs ls hP hD hS h => lv_iinc hX.1 hX.2.1 hdg h hq hv hn hl (fun ls' h' => kk H locs ls' hP hD hS h')
theorem toI_lt {x y : Int32} {A B : Int} (ha : x.toInt = A) (hb : y.toInt = B) : x < y ↔ A < B := by rw [Int32.lt_iff_toInt_lt, ha, hb]
theorem toI_le {x y : Int32} {A B : Int} (ha : x.toInt = A) (hb : y.toInt = B) : x ≤ y ↔ A ≤ B := by rw [Int32.le_iff_toInt_le, ha, hb]
theorem toI_eq {x y : Int32} {A B : Int} (ha : x.toInt = A) (hb : y.toInt = B) : x = y ↔ A = B := by rw [← Int32.toInt_inj, ha, hb]
theorem j_icmp_lt (hX : okX X G cc own nm nL rm) {x y : Int32} {off : Int} {tgt : Nat} {A B : Int} (hdg : decode cc pc = .ok (.if_icmp .lt off, 3)) (ht : (pc : Int) + off = (tgt : Int)) (ha : x.toInt = A) (hb : y.toInt = B) (kt : A < B → J X G nL k n ws lv tgt st) (kf : B ≤ A → J X G nL k n ws lv (pc + 3) st) : J X G nL k n ws lv pc (.int y :: .int x :: st) := fun H locs ls hP hD hS hl => lv_icmp_lt hX.1 hX.2.1 hdg ht (fun c => kt ((toI_lt ha hb).mp c) H locs ls hP hD hS hl) (fun c => kf (Int.not_lt.mp (fun h => c ((toI_lt ha hb).mpr h))) H locs ls hP hD hS hl)
theorem j_if_lt (hX : okX X G cc own nm nL rm) {x : Int32} {off : Int} {tgt : Nat} {A : Int} (hdg : decode cc pc = .ok (.ifCond .lt off, 3)) (ht : (pc : Int) + off = (tgt : Int)) (ha : x.toInt = A) (kt : A < 0 → J X G nL k n ws lv tgt st) (kf : 0 ≤ A → J X G nL k n ws lv (pc + 3) st) : J X G nL k n ws lv pc (.int x :: st) := fun H locs ls hP hD hS hl => lv_if_lt hX.1 hX.2.1 hdg ht (fun c => kt ((toI_lt ha (rfl : (0 : Int32).toInt = 0)).mp c) H locs ls hP hD hS hl) (fun c => kf (Int.not_lt.mp (fun h => c ((toI_lt ha (rfl : (0 : Int32).toInt = 0)).mpr h))) H locs ls hP hD hS hl)
theorem j_icmp_ge (hX : okX X G cc own nm nL rm) {x y : Int32} {off : Int} {tgt : Nat} {A B : Int} (hdg : decode cc pc = .ok (.if_icmp .ge off, 3)) (ht : (pc : Int) + off = (tgt : Int)) (ha : x.toInt = A) (hb : y.toInt = B) (kt : B ≤ A → J X G nL k n ws lv tgt st) (kf : A < B → J X G nL k n ws lv (pc + 3) st) : J X G nL k n ws lv pc (.int y :: .int x :: st) := fun H locs ls hP hD hS hl => lv_icmp_ge hX.1 hX.2.1 hdg ht (fun c => kt ((toI_le hb ha).mp c) H locs ls hP hD hS hl) (fun c => kf (Int.not_le.mp (fun h => c ((toI_le hb ha).mpr h))) H locs ls hP hD hS hl)
theorem j_if_ge (hX : okX X G cc own nm nL rm) {x : Int32} {off : Int} {tgt : Nat} {A : Int} (hdg : decode cc pc = .ok (.ifCond .ge off, 3)) (ht : (pc : Int) + off = (tgt : Int)) (ha : x.toInt = A) (kt : 0 ≤ A → J X G nL k n ws lv tgt st) (kf : A < 0 → J X G nL k n ws lv (pc + 3) st) : J X G nL k n ws lv pc (.int x :: st) := fun H locs ls hP hD hS hl => lv_if_ge hX.1 hX.2.1 hdg ht (fun c => kt ((toI_le (rfl : (0 : Int32).toInt = 0) ha).mp c) H locs ls hP hD hS hl) (fun c => kf (Int.not_le.mp (fun h => c ((toI_le (rfl : (0 : Int32).toInt = 0) ha).mpr h))) H locs ls hP hD hS hl)
theorem j_icmp_gt (hX : okX X G cc own nm nL rm) {x y : Int32} {off : Int} {tgt : Nat} {A B : Int} (hdg : decode cc pc = .ok (.if_icmp .gt off, 3)) (ht : (pc : Int) + off = (tgt : Int)) (ha : x.toInt = A) (hb : y.toInt = B) (kt : B < A → J X G nL k n ws lv tgt st) (kf : A ≤ B → J X G nL k n ws lv (pc + 3) st) : J X G nL k n ws lv pc (.int y :: .int x :: st) := fun H locs ls hP hD hS hl => lv_icmp_gt hX.1 hX.2.1 hdg ht (fun c => kt ((toI_lt hb ha).mp c) H locs ls hP hD hS hl) (fun c => kf (Int.not_lt.mp (fun h => c ((toI_lt hb ha).mpr h))) H locs ls hP hD hS hl)
theorem j_if_gt (hX : okX X G cc own nm nL rm) {x : Int32} {off : Int} {tgt : Nat} {A : Int} (hdg : decode cc pc = .ok (.ifCond .gt off, 3)) (ht : (pc : Int) + off = (tgt : Int)) (ha : x.toInt = A) (kt : 0 < A → J X G nL k n ws lv tgt st) (kf : A ≤ 0 → J X G nL k n ws lv (pc + 3) st) : J X G nL k n ws lv pc (.int x :: st) := fun H locs ls hP hD hS hl => lv_if_gt hX.1 hX.2.1 hdg ht (fun c => kt ((toI_lt (rfl : (0 : Int32).toInt = 0) ha).mp c) H locs ls hP hD hS hl) (fun c => kf (Int.not_lt.mp (fun h => c ((toI_lt (rfl : (0 : Int32).toInt = 0) ha).mpr h))) H locs ls hP hD hS hl)
theorem j_icmp_le (hX : okX X G cc own nm nL rm) {x y : Int32} {off : Int} {tgt : Nat} {A B : Int} (hdg : decode cc pc = .ok (.if_icmp .le off, 3)) (ht : (pc : Int) + off = (tgt : Int)) (ha : x.toInt = A) (hb : y.toInt = B) (kt : A ≤ B → J X G nL k n ws lv tgt st) (kf : B < A → J X G nL k n ws lv (pc + 3) st) : J X G nL k n ws lv pc (.int y :: .int x :: st) := fun H locs ls hP hD hS hl => lv_icmp_le hX.1 hX.2.1 hdg ht (fun c => kt ((toI_le ha hb).mp c) H locs ls hP hD hS hl) (fun c => kf (Int.not_le.mp (fun h => c ((toI_le ha hb).mpr h))) H locs ls hP hD hS hl)
theorem j_if_le (hX : okX X G cc own nm nL rm) {x : Int32} {off : Int} {tgt : Nat} {A : Int} (hdg : decode cc pc = .ok (.ifCond .le off, 3)) (ht : (pc : Int) + off = (tgt : Int)) (ha : x.toInt = A) (kt : A ≤ 0 → J X G nL k n ws lv tgt st) (kf : 0 < A → J X G nL k n ws lv (pc + 3) st) : J X G nL k n ws lv pc (.int x :: st) := fun H locs ls hP hD hS hl => lv_if_le hX.1 hX.2.1 hdg ht (fun c => kt ((toI_le ha (rfl : (0 : Int32).toInt = 0)).mp c) H locs ls hP hD hS hl) (fun c => kf (Int.not_le.mp (fun h => c ((toI_le ha (rfl : (0 : Int32).toInt = 0)).mpr h))) H locs ls hP hD hS hl)
theorem j_icmp_eq (hX : okX X G cc own nm nL rm) {x y : Int32} {off : Int} {tgt : Nat} {A B : Int} (hdg : decode cc pc = .ok (.if_icmp .eq off, 3)) (ht : (pc : Int) + off = (tgt : Int)) (ha : x.toInt = A) (hb : y.toInt = B) (kt : A = B → J X G nL k n ws lv tgt st) (kf : A ≠ B → J X G nL k n ws lv (pc + 3) st) : J X G nL k n ws lv pc (.int y :: .int x :: st) := fun H locs ls hP hD hS hl => lv_icmp_eq hX.1 hX.2.1 hdg ht (fun c => kt ((toI_eq ha hb).mp c) H locs ls hP hD hS hl) (fun c => kf (fun h => c ((toI_eq ha hb).mpr h)) H locs ls hP hD hS hl)
theorem j_if_eq (hX : okX X G cc own nm nL rm) {x : Int32} {off : Int} {tgt : Nat} {A : Int} (hdg : decode cc pc = .ok (.ifCond .eq off, 3)) (ht : (pc : Int) + off = (tgt : Int)) (ha : x.toInt = A) (kt : A = 0 → J X G nL k n ws lv tgt st) (kf : A ≠ 0 → J X G nL k n ws lv (pc + 3) st) : J X G nL k n ws lv pc (.int x :: st) := fun H locs ls hP hD hS hl => lv_if_eq hX.1 hX.2.1 hdg ht (fun c => kt ((toI_eq ha (rfl : (0 : Int32).toInt = 0)).mp c) H locs ls hP hD hS hl) (fun c => kf (fun h => c ((toI_eq ha (rfl : (0 : Int32).toInt = 0)).mpr h)) H locs ls hP hD hS hl)
theorem j_icmp_ne (hX : okX X G cc own nm nL rm) {x y : Int32} {off : Int} {tgt : Nat} {A B : Int} (hdg : decode cc pc = .ok (.if_icmp .ne off, 3)) (ht : (pc : Int) + off = (tgt : Int)) (ha : x.toInt = A) (hb : y.toInt = B) (kt : A ≠ B → J X G nL k n ws lv tgt st) (kf : A = B → J X G nL k n ws lv (pc + 3) st) : J X G nL k n ws lv pc (.int y :: .int x :: st) := fun H locs ls hP hD hS hl => lv_icmp_ne hX.1 hX.2.1 hdg ht (fun c => kt (fun h => c ((toI_eq ha hb).mpr h)) H locs ls hP hD hS hl) (fun c => kf ((toI_eq ha hb).mp c) H locs ls hP hD hS hl)
theorem j_if_ne (hX : okX X G cc own nm nL rm) {x : Int32} {off : Int} {tgt : Nat} {A : Int} (hdg : decode cc pc = .ok (.ifCond .ne off, 3)) (ht : (pc : Int) + off = (tgt : Int)) (ha : x.toInt = A) (kt : A ≠ 0 → J X G nL k n ws lv tgt st) (kf : A = 0 → J X G nL k n ws lv (pc + 3) st) : J X G nL k n ws lv pc (.int x :: st) := fun H locs ls hP hD hS hl => lv_if_ne hX.1 hX.2.1 hdg ht (fun c => kt (fun h => c ((toI_eq ha (rfl : (0 : Int32).toInt = 0)).mpr h)) H locs ls hP hD hS hl) (fun c => kf ((toI_eq ha (rfl : (0 : Int32).toInt = 0)).mp c) H locs ls hP hD hS hl)
def bI (b : Bool) : Int32 := if b then 1 else 0
theorem bI_0 {b : Bool} : bI b = 0 ↔ b = false := by cases b <;> decide
theorem bI_n {b : Bool} : ¬ bI b = 0 ↔ b = true := by cases b <;> decide
theorem bI_nar (b : Bool) : narrow .boolean (.int (bI b)) = .int (bI b) := by cases b <;> rfl
theorem j_ifB_eq (hX : okX X G cc own nm nL rm) {b : Bool} {off : Int} {tgt : Nat} (hdg : decode cc pc = .ok (.ifCond .eq off, 3)) (ht : (pc : Int) + off = (tgt : Int)) (kt : b = false → J X G nL k n ws lv tgt st) (kf : b = true → J X G nL k n ws lv (pc + 3) st) : J X G nL k n ws lv pc (.int (bI b) :: st) := fun H locs ls hP hD hS hl => lv_if_eq hX.1 hX.2.1 hdg ht (fun c => kt (bI_0.mp c) H locs ls hP hD hS hl) (fun c => kf (bI_n.mp c) H locs ls hP hD hS hl)
theorem j_ifB_ne (hX : okX X G cc own nm nL rm) {b : Bool} {off : Int} {tgt : Nat} (hdg : decode cc pc = .ok (.ifCond .ne off, 3)) (ht : (pc : Int) + off = (tgt : Int)) (kt : b = true → J X G nL k n ws lv tgt st) (kf : b = false → J X G nL k n ws lv (pc + 3) st) : J X G nL k n ws lv pc (.int (bI b) :: st) := fun H locs ls hP hD hS hl => lv_if_ne hX.1 hX.2.1 hdg ht (fun c => kt (bI_n.mp c) H locs ls hP hD hS hl) (fun c => kf (bI_0.mp c) H locs ls hP hD hS hl)
theorem j_goto (hX : okX X G cc own nm nL rm) {off : Int} {tgt : Nat} (hdg : decode cc pc = .ok (.goto off, 3)) (ht : (pc : Int) + off = (tgt : Int)) (kk : J X G nL k n ws lv tgt st) : J X G nL k n ws lv pc st := fun H locs ls hP hD hS hl => lv_goto hX.1 hX.2.1 hdg ht (kk H locs ls hP hD hS hl)
theorem j_ifnullR (hX : okX X G cc own nm nL rm) {x : Nat} {off : Int} (hdg : decode cc pc = .ok (.ifnull off, 3)) (kk : J X G nL k n ws lv (pc + 3) st) : J X G nL k n ws lv pc (.ref x :: st) := fun H locs ls hP hD hS hl => lv_ifnull hX.1 hX.2.1 hdg (kk H locs ls hP hD hS hl)
theorem j_ifnullN (hX : okX X G cc own nm nL rm) {off : Int} {tgt : Nat} (hdg : decode cc pc = .ok (.ifnull off, 3)) (ht : (pc : Int) + off = (tgt : Int)) (kk : J X G nL k n ws lv tgt st) : J X G nL k n ws lv pc (.null :: st) := fun H locs ls hP hD hS hl => lv_ifnullN hX.1 hX.2.1 hdg ht (kk H locs ls hP hD hS hl)
theorem j_ifnonnullR (hX : okX X G cc own nm nL rm) {x : Nat} {off : Int} {tgt : Nat} (hdg : decode cc pc = .ok (.ifnonnull off, 3)) (ht : (pc : Int) + off = (tgt : Int)) (kk : J X G nL k n ws lv tgt st) : J X G nL k n ws lv pc (.ref x :: st) := fun H locs ls hP hD hS hl => lv_ifnonnull hX.1 hX.2.1 hdg ht (kk H locs ls hP hD hS hl)
theorem j_ifnonnullN (hX : okX X G cc own nm nL rm) {off : Int} (hdg : decode cc pc = .ok (.ifnonnull off, 3)) (kk : J X G nL k n ws lv (pc + 3) st) : J X G nL k n ws lv pc (.null :: st) := fun H locs ls hP hD hS hl => lv_ifnonnullN hX.1 hX.2.1 hdg (kk H locs ls hP hD hS hl)
theorem j_tsIn (hX : okX X G cc own nm nL rm) {dflt lo hi : Int} {offs : Array Int} {len : Nat} {x : Int32} {off : Int} {tgt : Nat} (hdg : decode cc pc = .ok (.tableswitch dflt lo hi offs, len)) (i : Int) (hx : x.toInt = i) (h1 : lo ≤ i) (h2 : i ≤ hi) (ho : offs[(i - lo).toNat]? = some off) (ht : (pc : Int) + off = (tgt : Int)) (kk : J X G nL k n ws lv tgt st) : J X G nL k n ws lv pc (.int x :: st) := fun H locs ls hP hD hS hl => by subst hx; exact lv_tableIn hX.1 hX.2.1 hdg (Int.not_lt.mpr h1) (Int.not_lt.mpr h2) ho ht (kk H locs ls hP hD hS hl)
theorem j_tsOut (hX : okX X G cc own nm nL rm) {dflt lo hi : Int} {offs : Array Int} {len : Nat} {x : Int32} {tgt : Nat} (hdg : decode cc pc = .ok (.tableswitch dflt lo hi offs, len)) (h : x.toInt < lo ∨ hi < x.toInt) (ht : (pc : Int) + dflt = (tgt : Int)) (kk : J X G nL k n ws lv tgt st) : J X G nL k n ws lv pc (.int x :: st) := fun H locs ls hP hD hS hl => lv_tableOut hX.1 hX.2.1 hdg h ht (kk H locs ls hP hD hS hl)
theorem j_lookup (hX : okX X G cc own nm nL rm) {dflt : Int} {ps : Array (Int × Int)} {len : Nat} {x : Int32} {off : Int} {tgt : Nat} (hdg : decode cc pc = .ok (.lookupswitch dflt ps, len)) (hp : (ps.toList.zip (ps.toList.drop 1)).all (fun (a, next) => a.1 < next.1) = true) (ho : Op.lookupswitch.offset ps.toList dflt x.toInt = off) (ht : (pc : Int) + off = (tgt : Int)) (kk : J X G nL k n ws lv tgt st) : J X G nL k n ws lv pc (.int x :: st) := fun H locs ls hP hD hS hl => lv_lookup hX.1 hX.2.1 hdg hp ho ht (kk H locs ls hP hD hS hl)
theorem j_get (hX : okX X G cc own nm nL rm) {ci fk i : Nat} {ty : FieldType} {fin : Bool} {a : Nat} {fs : List Value} {v : Value} (hf : fldOK ci fk own i ty fin) (q0 : Nat) (he : ws[q0]? = some (a, .inr (ci, fs))) (hv : fs[fk]? = some v) (hdg : decode cc pc = .ok (.getfield i, 3)) (kk : J X G nL k n ws lv (pc + 3) (v :: st)) : J X G nL k n ws lv pc (.ref a :: st) := by
  intro H locs ls hP hD hS hl
  obtain ⟨C, T, N, ty0, hc, hin, hk, hw, -⟩ := hf
  exact va_get hX.1 hX.2.1 hX.2.2.2.2.1 hin hX.2.2.2.1 hX.2.2.2.2.2.1.1 hP q0 he hc fk hk (hX.2.2.2.2.1 _ hw) (fun _ h => h) hv hdg (kk H locs ls hP hD hS hl)
theorem j_getR (hX : okX X G cc own nm nL rm) {ci fk i : Nat} {ty : FieldType} {a : Nat} {fs : List Value} {v : Value} (hf : fldRD ci fk own i ty) (q0 : Nat) (he : ws[q0]? = some (a, .inr (ci, fs))) (hv : fs[fk]? = some v) (hdg : decode cc pc = .ok (.getfield i, 3)) (kk : J X G nL k n ws lv (pc + 3) (v :: st)) : J X G nL k n ws lv pc (.ref a :: st) := by
  intro H locs ls hP hD hS hl
  obtain ⟨C, T, N, hc, hin, hk, hw⟩ := hf
  exact va_get hX.1 hX.2.1 hX.2.2.2.2.1 hin hX.2.2.2.1 hX.2.2.2.2.2.1.1 hP q0 he hc fk hk (hX.2.2.2.2.1 _ hw) (fun _ h => h) hv hdg (kk H locs ls hP hD hS hl)
theorem j_put (hX : okX X G cc own nm nL rm) {ci fk i : Nat} {ty : FieldType} {a : Nat} {fs : List Value} {v : Value} (hf : fldOK ci fk own i ty false) (q0 : Nat) (he : ws[q0]? = some (a, .inr (ci, fs))) (hn : narrow ty v = v) (hfit : fits ty v = true) (hlt : fk < fs.length) (hw' : ws.set q0 (a, .inr (ci, fs.set fk v)) = ws') (hdg : decode cc pc = .ok (.putfield i, 3)) (kk : J X G nL k n ws' lv (pc + 3) st) : J X G nL k n ws lv pc (v :: .ref a :: st) := by
  intro H locs ls hP hD hS hl
  obtain ⟨C, T, N, ty0, hc, hin, hk, hw, hty, hnm, h1, h2, -⟩ := hf
  subst hw'
  exact va_put hX.1 hX.2.1 hX.2.2.2.2.1 hin ty0 hty hnm hX.2.2.2.1 hX.2.2.2.2.2.1.1 hP hD hS q0 he hc fk hk (hX.2.2.2.2.1 _ hw) (fun _ h => h) h2 (by rw [hty fk hk, h1]) hn hfit hlt hdg (fun H1 locs1 hP1 hD1 hS1 => kk H1 locs1 ls hP1 hD1 hS1 hl)
theorem j_putF (hX : okX X G cc own "<init>" nL rm) {ci fk i : Nat} {ty : FieldType} {a : Nat} {fs : List Value} {v : Value} (hf : fldOK ci fk own i ty true) (q0 : Nat) (he : ws[q0]? = some (a, .inr (ci, fs))) (hn : narrow ty v = v) (hfit : fits ty v = true) (hlt : fk < fs.length) (hw' : ws.set q0 (a, .inr (ci, fs.set fk v)) = ws') (hdg : decode cc pc = .ok (.putfield i, 3)) (kk : J X G nL k n ws' lv (pc + 3) st) : J X G nL k n ws lv pc (v :: .ref a :: st) := by
  intro H locs ls hP hD hS hl
  obtain ⟨C, T, N, ty0, hc, hin, hk, hw, hty, hnm, h1, h2, h3⟩ := hf
  subst hw'
  exact va_putF hX.1 hX.2.1 hX.2.2.2.2.1 hin ty0 hty hnm hX.2.2.2.1 hX.2.2.2.2.2.1.1 hP hD hS q0 he hc fk hk (hX.2.2.2.2.1 _ hw) (fun _ h => h) h2 hX.2.2.2.2.2.2.2.2.2 (h3 rfl) (by rw [hty fk hk, h1]) hn hfit hlt hdg (fun H1 locs1 hP1 hD1 hS1 => kk H1 locs1 ls hP1 hD1 hS1 hl)
theorem j_iald (hX : okX X G cc own nm nL rm) {a nn : Nat} {f : Nat → Int32} {i : Int32} (q0 : Nat) (ha : ws[q0]? = some (a, ia G nn f)) (hin : vp_in i nn) (hdg : decode cc pc = .ok (.iaload, 1)) (kk : J X G nL k n ws lv (pc + 1) (.int (f i.toNatClampNeg) :: st)) : J X G nL k n ws lv pc (.int i :: .ref a :: st) := fun H locs ls hP hD hS hl => va_iald hX.1 hX.2.1 hX.2.2.2.2.2.1.1 hP q0 0 ha rfl hin hdg (kk H locs ls hP hD hS hl)
theorem j_ialdN (hX : okX X G cc own nm nL rm) {a nn j : Nat} {f : Nat → Int32} (q0 : Nat) (ha : ws[q0]? = some (a, ia G nn f)) (hj : j < nn) (hn : nn < 2 ^ 31) (hdg : decode cc pc = .ok (.iaload, 1)) (kk : J X G nL k n ws lv (pc + 1) (.int (f j) :: st)) : J X G nL k n ws lv pc (.int (nI j) :: .ref a :: st) := j_iald hX q0 ha (vp_in_nI hj hn) hdg (by rw [nI_clamp (Nat.lt_trans hj hn)]; exact kk)
theorem j_iast (hX : okX X G cc own nm nL rm) {a nn : Nat} {f : Nat → Int32} {i x : Int32} (q0 : Nat) (ha : ws[q0]? = some (a, ia G nn f)) (hin : vp_in i nn) (hw' : ws.set q0 (a, ia G nn (upd f i.toNatClampNeg x)) = ws') (hdg : decode cc pc = .ok (.iastore, 1)) (kk : J X G nL k n ws' lv (pc + 1) st) : J X G nL k n ws lv pc (.int x :: .int i :: .ref a :: st) := fun H locs ls hP hD hS hl => va_iast hX.1 hX.2.1 hX.2.2.2.2.2.1.1 hP hD hS q0 0 ha rfl hin hdg (fun H1 locs1 hP1 hD1 hS1 => by subst hw'; exact kk H1 locs1 ls hP1 hD1 hS1 hl)
theorem j_iastN (hX : okX X G cc own nm nL rm) {a nn j : Nat} {f : Nat → Int32} {x : Int32} (q0 : Nat) (ha : ws[q0]? = some (a, ia G nn f)) (hj : j < nn) (hn : nn < 2 ^ 31) (hw' : ws.set q0 (a, ia G nn (upd f j x)) = ws') (hdg : decode cc pc = .ok (.iastore, 1)) (kk : J X G nL k n ws' lv (pc + 1) st) : J X G nL k n ws lv pc (.int x :: .int (nI j) :: .ref a :: st) := j_iast hX q0 ha (vp_in_nI hj hn) (by rw [nI_clamp (Nat.lt_trans hj hn)]; exact hw') hdg kk
theorem j_lald (hX : okX X G cc own nm nL rm) {a nn j : Nat} {f : Nat → Int64} (q0 : Nat) (ha : ws[q0]? = some (a, la G nn f)) (hj : j < nn) (hn : nn < 2 ^ 31) (hdg : decode cc pc = .ok (.laload, 1)) (kk : J X G nL k n ws lv (pc + 1) (.long (f j) :: st)) : J X G nL k n ws lv pc (.int (nI j) :: .ref a :: st) := fun H locs ls hP hD hS hl => va_lald hX.1 hX.2.1 hX.2.2.2.2.2.1.1 hP q0 1 ha rfl (vp_in_nI hj hn) hdg (by rw [nI_clamp (Nat.lt_trans hj hn)]; exact kk H locs ls hP hD hS hl)
theorem j_last (hX : okX X G cc own nm nL rm) {a nn j : Nat} {f : Nat → Int64} {x : Int64} (q0 : Nat) (ha : ws[q0]? = some (a, la G nn f)) (hj : j < nn) (hn : nn < 2 ^ 31) (hw' : ws.set q0 (a, la G nn (vp_updL f j x)) = ws') (hdg : decode cc pc = .ok (.lastore, 1)) (kk : J X G nL k n ws' lv (pc + 1) st) : J X G nL k n ws lv pc (.long x :: .int (nI j) :: .ref a :: st) := fun H locs ls hP hD hS hl => va_last hX.1 hX.2.1 hX.2.2.2.2.2.1.1 hP hD hS q0 1 ha rfl (vp_in_nI hj hn) hdg (fun H1 locs1 hP1 hD1 hS1 => by rw [nI_clamp (Nat.lt_trans hj hn)] at hP1 hD1; subst hw'; exact kk H1 locs1 ls hP1 hD1 hS1 hl)
theorem j_rald (hX : okX X G cc own nm nL rm) {a nn j b : Nat} {f : Nat → Option Nat} (q0 : Nat) (ha : ws[q0]? = some (a, ra G nn f)) (hj : j < nn) (hn : nn < 2 ^ 31) (hb : f j = some b) (hdg : decode cc pc = .ok (.aaload, 1)) (kk : J X G nL k n ws lv (pc + 1) (.ref b :: st)) : J X G nL k n ws lv pc (.int (nI j) :: .ref a :: st) := fun H locs ls hP hD hS hl => va_aldq hX.1 hX.2.1 hX.2.2.2.2.2.1.1 hP q0 2 ha rfl (vp_in_nI hj hn) hdg (by rw [nI_clamp (Nat.lt_trans hj hn), hb]; exact kk H locs ls hP hD hS hl)
theorem j_rast (hX : okX X G cc own nm nL rm) {a nn j b qk : Nat} {vs : List Value} {f : Nat → Option Nat} (q0 : Nat) (ha : ws[q0]? = some (a, ra G nn f)) (hv : ws[qk]? = some (b, .inr (2, vs))) (hj : j < nn) (hn : nn < 2 ^ 31) (hw' : ws.set q0 (a, ra G nn (va_up f j (some b))) = ws') (hdg : decode cc pc = .ok (.aastore, 1)) (kk : J X G nL k n ws' lv (pc + 1) st) : J X G nL k n ws lv pc (.ref b :: .int (nI j) :: .ref a :: st) := fun H locs ls hP hD hS hl => va_astq (r := (RX2, TX2, 2)) hX.1 hX.2.1 hX.2.2.2.2.2.1.1 hP hD hS q0 2 qk 2 ha rfl hv rfl (vp_in_nI hj hn) hdg (fun H1 locs1 hP1 hD1 hS1 => by rw [nI_clamp (Nat.lt_trans hj hn)] at hP1 hD1; subst hw'; exact kk H1 locs1 ls hP1 hD1 hS1 hl)
theorem j_len_i (hX : okX X G cc own nm nL rm) {a nn : Nat} {f : Nat → Int32} (q0 : Nat) (ha : ws[q0]? = some (a, ia G nn f)) (hdg : decode cc pc = .ok (.arraylength, 1)) (kk : J X G nL k n ws lv (pc + 1) (.int (nI nn) :: st)) : J X G nL k n ws lv pc (.ref a :: st) := fun H locs ls hP hD hS hl => va_alen hX.1 hX.2.1 hX.2.2.2.2.2.1.1 hP q0 0 ha rfl rfl hdg (kk H locs ls hP hD hS hl)
theorem j_len_l (hX : okX X G cc own nm nL rm) {a nn : Nat} {f : Nat → Int64} (q0 : Nat) (ha : ws[q0]? = some (a, la G nn f)) (hdg : decode cc pc = .ok (.arraylength, 1)) (kk : J X G nL k n ws lv (pc + 1) (.int (nI nn) :: st)) : J X G nL k n ws lv pc (.ref a :: st) := fun H locs ls hP hD hS hl => va_alen hX.1 hX.2.1 hX.2.2.2.2.2.1.1 hP q0 1 ha rfl rfl hdg (kk H locs ls hP hD hS hl)
theorem j_len_r (hX : okX X G cc own nm nL rm) {a nn : Nat} {f : Nat → Option Nat} (q0 : Nat) (ha : ws[q0]? = some (a, ra G nn f)) (hdg : decode cc pc = .ok (.arraylength, 1)) (kk : J X G nL k n ws lv (pc + 1) (.int (nI nn) :: st)) : J X G nL k n ws lv pc (.ref a :: st) := fun H locs ls hP hD hS hl => va_alen hX.1 hX.2.1 hX.2.2.2.2.2.1.1 hP q0 2 ha rfl rfl hdg (kk H locs ls hP hD hS hl)
theorem j_new (hX : okX X G cc own nm nL rm) {C : String} {T : u_T} {N ci i : Nat} (ty : Nat → FieldType) (hty : ∀ k, k < N → parseFieldDescriptor (T k).2.2.1 = some (ty k)) (hin : ∀ w ∈ u_ws C T N, w ∈ GA) (hcl : Cond.classLink own i C ∈ GA) (hi : Cond.instantiable C N ∈ GA ∧ Cond.initialized C ∈ GA) (hc : vwCl[ci]? = some (C, T, N)) {fs : List Value} (hfs : ∀ j, j < N → defaultValue (ty j) = vp_V fs j) (hcells : k + 1 ≤ rm.cells) (hslots : n + N ≤ rm.slots) (hdg : decode cc pc = .ok (.new i, 3)) (kk : ∀ q : Nat, J X G nL (k + 1) (n + N) (ws ++ [(q, .inr (ci, fs))]) lv (pc + 3) (.ref q :: st)) : J X G nL k n ws lv pc st := by
  intro H locs ls hP hD hS hl
  have hR := hX.2.2.2.2.2.2.2.1
  exact va_new hX.1 hX.2.1 hX.2.2.2.2.1 hin ty hty hX.2.2.2.1 (hX.2.2.2.2.1 _ hcl) (hX.2.2.2.2.1 _ hi.1) (hX.2.2.2.2.1 _ hi.2) hX.2.2.2.2.2.1.1 hP hD hS hX.2.2.2.2.2.2.1 hc hfs (by rw [hR]; exact hcells) (by rw [hR]; exact hslots) hdg (fun q H1 hP1 hD1 hS1 => kk q H1 locs ls hP1 hD1 hS1 hl)
theorem ArrSame {G : GT} {U : State} {ty : FieldType} {cA : ClassId} {i : Nat} {c0 : ClassId} (h : va_K (G.1, G.2.1) vwCl (tys G ++ [(cA, ty)]) U) (hi : (tys G)[i]? = some (c0, ty)) : cA = c0 := by
  have h1 := (h.2 3 (cA, ty) rfl).2
  have hlt : i < (tys G).length := (List.getElem?_eq_some_iff.mp hi).1
  have h2 := (h.2 i (c0, ty) (by rw [List.getElem?_append_left hlt]; exact hi)).2
  dsimp only at h1 h2
  cases ty with
  | object C =>
    obtain ⟨_, _, -, -, -, e1⟩ := h1
    obtain ⟨_, _, -, -, -, e2⟩ := h2
    exact Option.some.inj (e1.symm.trans e2)
  | _ => exact Option.some.inj (Eq.trans (Eq.symm h1) h2)
theorem j_new_i (hX : okX X G cc own nm nL rm) {j : Nat} (hj : j ≤ 100000) (hcells : k + 1 ≤ rm.cells) (hslots : n + j ≤ rm.slots) (hdg : decode cc pc = .ok (.newarray .int, 2)) (kk : ∀ q : Nat, J X G nL (k + 1) (n + j) (ws ++ [(q, ia G j (fun _ => 0))]) lv (pc + 2) (.ref q :: st)) : J X G nL k n ws lv pc (.int (nI j) :: st) := by
  intro H locs ls hP hD hS hl
  have hR := hX.2.2.2.2.2.2.2.1
  have hj31 : j < 2 ^ 31 := Nat.lt_of_le_of_lt hj (by decide)
  refine va_newa (atype := .int) (ty := .int) (a0 := (j, .inl (fun _ => 0))) (N' := j) hX.1 hX.2.1 (hX.2.2.2.2.1 _ ac_int) rfl hX.2.2.2.2.2.1.1 hP hD hS hX.2.2.2.2.2.2.1 (fun cA => rfl) (nI_pos hj31) (nI_clamp hj31) (Nat.le_trans (Nat.mul_le_mul_right _ hj) (Nat.le_of_ble_eq_true rfl)) (by rw [hR]; exact hcells) (by rw [hR]; exact hslots) hdg (fun q cA H1 hK1 hP1 hD1 hS1 => ?_)
  have e := ArrSame (i := 0) hK1 rfl
  subst e
  exact kk q H1 locs ls hP1 hD1 hS1 hl
theorem j_new_l (hX : okX X G cc own nm nL rm) {j : Nat} (hj : j ≤ 100000) (hcells : k + 1 ≤ rm.cells) (hslots : n + j ≤ rm.slots) (hdg : decode cc pc = .ok (.newarray .long, 2)) (kk : ∀ q : Nat, J X G nL (k + 1) (n + j) (ws ++ [(q, la G j (fun _ => 0))]) lv (pc + 2) (.ref q :: st)) : J X G nL k n ws lv pc (.int (nI j) :: st) := by
  intro H locs ls hP hD hS hl
  have hR := hX.2.2.2.2.2.2.2.1
  have hj31 : j < 2 ^ 31 := Nat.lt_of_le_of_lt hj (by decide)
  refine va_newa (atype := .long) (ty := .long) (a0 := (j, .inr (.inl (fun _ => 0)))) (N' := j) hX.1 hX.2.1 (hX.2.2.2.2.1 _ ac_long) rfl hX.2.2.2.2.2.1.1 hP hD hS hX.2.2.2.2.2.2.1 (fun cA => rfl) (nI_pos hj31) (nI_clamp hj31) (Nat.le_trans (Nat.mul_le_mul_right _ hj) (Nat.le_of_ble_eq_true rfl)) (by rw [hR]; exact hcells) (by rw [hR]; exact hslots) hdg (fun q cA H1 hK1 hP1 hD1 hS1 => ?_)
  have e := ArrSame (i := 1) hK1 rfl
  subst e
  exact kk q H1 locs ls hP1 hD1 hS1 hl
theorem j_new_r (hX : okX X G cc own nm nL rm) {j i : Nat} (hj : j ≤ 100000) (hcl : Cond.classLink own i RX2 ∈ GA) (hcells : k + 1 ≤ rm.cells) (hslots : n + j ≤ rm.slots) (hdg : decode cc pc = .ok (.anewarray i, 3)) (kk : ∀ q : Nat, J X G nL (k + 1) (n + j) (ws ++ [(q, ra G j (fun _ => none))]) lv (pc + 3) (.ref q :: st)) : J X G nL k n ws lv pc (.int (nI j) :: st) := by
  intro H locs ls hP hD hS hl
  have hR := hX.2.2.2.2.2.2.2.1
  have hj31 : j < 2 ^ 31 := Nat.lt_of_le_of_lt hj (by decide)
  refine va_newq (N' := j) hX.1 hX.2.1 hX.2.2.2.1 (hX.2.2.2.2.1 _ hcl) hX.2.2.2.2.2.1.2 hX.2.2.2.2.2.1.1 hP hD hS hX.2.2.2.2.2.2.1 (nI_pos hj31) (nI_clamp hj31) (Nat.le_trans (Nat.mul_le_mul_right _ hj) (Nat.le_of_ble_eq_true rfl)) (by rw [hR]; exact hcells) (by rw [hR]; exact hslots) hdg (fun q cA H1 hK1 hP1 hD1 hS1 => ?_)
  have e := ArrSame (i := 2) hK1 rfl
  subst e
  exact kk q H1 locs ls hP1 hD1 hS1 hl
/-- Object's own <init> -/
theorem j_obj (hX : okX X G cc own nm nL rm) {a i : Nat} (hl0 : Cond.methodLink own i objectInit ∈ GA) (hdg : decode cc pc = .ok (.invokespecial i, 3)) (hfr : 1 ≤ rm.frames) (hlo : (st.map fun v => v.category).sum + 12 ≤ rm.locals) (kk : J X G nL k n ws lv (pc + 3) st) : J X G nL k n ws lv pc (.ref a :: st) := by
  intro H locs ls hP hD hS hl
  have hR := hX.2.2.2.2.2.2.2.1
  refine W.objInit hX.1 hX.2.1 hX.2.2.2.1 (hX.2.2.2.2.1 _ hl0) (hX.2.2.2.2.1 _ obj_ok.1) (hX.2.2.2.2.1 _ obj_ok.2) rfl (by rw [hX.2.2.1]; exact hl.1) rfl hdg (by rw [hR]; exact hfr) ?_ (kk H locs ls hP hD hS hl)
  rw [hR]
  show 2 * 0 + _ + 12 ≤ _
  omega
end JR
