/-! THE LAW's own body under the judgement J: its script, its end, what holds at the head of its loop -/
def scrOK (X : XT) (b L : Nat) (xs : Nat → Int32) : Prop := va_X b L xs X.2.1.1 X.2.1.1.heap ∧ b < X.2.1.1.heap.size ∧ ¬ X.2.2.2.2.1 b
section JL
variable {X : XT} {G : GT} {nL k n pc : Nat} {ws : va_W} {lv : List (Nat × Value)} {st : List Value} {cc : ByteArray} {own nm : String} {rm : Room}
theorem j_sld (hX : okX X G cc own nm nL rm) {b L : Nat} {xs : Nat → Int32} (hS : scrOK X b L xs) {i : Nat} (hi : i < L) (hL : L ≤ 2560) (hdg : decode cc pc = .ok (.iaload, 1)) (kk : J X G nL k n ws lv (pc + 1) (.int (xs i) :: st)) : J X G nL k n ws lv pc (.int (nI i) :: .ref b :: st) := by
  intro H locs ls hP hD hS2 hl
  refine va_sld hX.1 hX.2.1 hS.1 hS.2.1 hS.2.2 hS2 (vp_in_nI hi (by omega)) hdg ?_
  rw [nI_clamp (by omega)]
  exact kk H locs ls hP hD hS2 hl
theorem j_slen (hX : okX X G cc own nm nL rm) {b L : Nat} {xs : Nat → Int32} (hS : scrOK X b L xs) (hdg : decode cc pc = .ok (.arraylength, 1)) (kk : J X G nL k n ws lv (pc + 1) (.int (nI L) :: st)) : J X G nL k n ws lv pc (.ref b :: st) := fun H locs ls hP hD hS2 hl => va_slen hX.1 hX.2.1 hS.1 hS.2.1 hS.2.2 hS2 hdg (kk H locs ls hP hD hS2 hl)
end JL
theorem lg_cr (x : Int64) : (lg_cmp x x).toInt = 0 := by
  have a := @lg_lt x x
  have b := @lg_gt x x
  rcases Int.lt_trichotomy (lg_cmp x x).toInt 0 with h | h | h
  · have := a h; omega
  · exact h
  · have := b h; omega
/-- what a whole holds: a grid of even sides, a rule and its inverse, what was seen, events -/
def WOK (W H : Nat) (f : Nat → Int32) (p q : Nat → Nat) (m : Nat) (s0 : Nat → Int32) (s1 : Nat → Nat) (k : Nat) (e0 e1 : Nat → Nat) : Prop :=
  ((2 ≤ W ∧ W ≤ 16) ∧ (2 ≤ H ∧ H ≤ 16) ∧ W % 2 = 0 ∧ H % 2 = 0) ∧ (∀ y, rN (f y) < 2 ^ W) ∧ isP p q ∧ (m ≤ 5 ∧ ∀ i, i < m → (-12 ≤ (s0 i).toInt ∧ (s0 i).toInt ≤ 12) ∧ s1 i < 1600) ∧ (k ≤ 8 ∧ ∀ i, i < k → evOK W H (e0 i) (e1 i)) ∧ ∀ j, j < 8 → e1 j < 10000 ∧ e0 j ≤ 2
def CHK (W H c : Nat) (c0 c1 : Nat → Nat) : Prop := c ≤ 12 ∧ ∀ i, i < c → c0 i < W ∧ c1 i < H
def caF (c0 c1 : Nat → Nat) (i : Nat) : Nat := 100 * c0 i + c1 i
theorem CHK_0 {W H : Nat} {c0 c1 : Nat → Nat} : CHK W H 0 c0 c1 := ⟨by omega, fun i hi => absurd hi (Nat.not_lt_zero _)⟩
theorem CHK_s {W H c x y : Nat} {c0 c1 : Nat → Nat} (h : CHK W H c c0 c1) (hc : c < 12) (hx : x < W) (hy : y < H) : CHK W H (c + 1) (updN c0 c x) (updN c1 c y) := by
  refine ⟨by omega, fun i hi => ?_⟩
  unfold updN
  by_cases q : i = c
  · rw [if_pos q, if_pos q]; exact ⟨hx, hy⟩
  · rw [if_neg q, if_neg q]; exact h.2 i (by omega)
theorem CHK_f {W H x y : Nat} {c0 c1 : Nat → Nat} (h : CHK W H 12 c0 c1) (hx : x < W) (hy : y < H) : CHK W H 12 (updN (shfN 12 c0) 11 x) (updN (shfN 12 c1) 11 y) := by
  refine ⟨by omega, fun i hi => ?_⟩
  unfold updN shfN
  by_cases q : i = 11
  · rw [if_pos q, if_pos q]; exact ⟨hx, hy⟩
  · rw [if_neg q, if_neg q, if_pos (by omega), if_pos (by omega)]; exact h.2 (i + 1) (by omega)
theorem isP_sw {p q : Nat → Nat} (h : isP p q) {i j : Nat} (hi : i < 16) (hj : j < 16) (hij : i ≠ j) : isP (updN (updN p i (p j)) j (p i)) (updN (updN q (p j) i) (p i) j) := by
  intro s hs
  have ai := h i hi
  have aj := h j hj
  have as := h s hs
  have nij : p i ≠ p j := fun e => hij (by rw [← ai.2.2.1, ← aj.2.2.1, e])
  unfold updN
  refine ⟨?_, ?_, ?_, ?_⟩
  · split
    · exact ai.1
    · split
      · exact aj.1
      · exact as.1
  · split
    · exact hj
    · split
      · exact hi
      · exact as.2.1
  · by_cases e1 : s = j
    · subst e1; rw [if_pos rfl, if_pos rfl]
    · rw [if_neg e1]
      by_cases e2 : s = i
      · subst e2; rw [if_pos rfl, if_neg nij.symm, if_pos rfl]
      · rw [if_neg e2, if_neg (fun e => e2 (by rw [← as.2.2.1, e, ai.2.2.1])), if_neg (fun e => e1 (by rw [← as.2.2.1, e, aj.2.2.1]))]
        exact as.2.2.1
  · by_cases e1 : s = p i
    · rw [if_pos e1, if_pos rfl, e1]
    · rw [if_neg e1]
      by_cases e2 : s = p j
      · rw [if_pos e2, if_neg hij, if_pos rfl, e2]
      · rw [if_neg e2, if_neg (fun e => e2 (by rw [← e, as.2.2.2])), if_neg (fun e => e1 (by rw [← e, as.2.2.2]))]
        exact as.2.2.2
theorem rNz {W : Nat} : ∀ y : Nat, rN ((fun _ => 0 : Nat → Int32) y) < 2 ^ W := fun _ => by
  show rN 0 < 2 ^ W
  rw [show rN 0 = 0 from by decide]
  exact Nat.two_pow_pos W
/-- the reference's and the class's things are told alike -/
theorem th_thR {W H M M2 : Nat} {f : Nat → Int32} {L E st L2 E2 st2 No No2 : Nat → Nat} {al al2 : Nat → Nat → Bool} (hW : 2 ≤ W ∧ W ≤ 16) (hH : 2 ≤ H ∧ H ≤ 16) (h : ThS W H f M L E st) (h2 : ThS W H f M2 L2 E2 st2)
    (ha : ∀ m i, al m i = true ↔ alP W H f L (fun k => E (st k)) (fun k => st (k + 1) - st k) m i) (ha2 : ∀ m i, al2 m i = true ↔ alP W H f L2 (fun k => E2 (st2 k)) (fun k => st2 (k + 1) - st2 k) m i) :
    M = M2 ∧ (∀ k, k < M → E2 (st2 k) = E (st k) ∧ st2 (k + 1) - st2 k = st (k + 1) - st k) ∧ shS al M = shS al2 M2 := by
  have o := th_one hW hH h h2
  have e := o.1
  subst e
  have o2 := th_one hW hH h2 h
  have sz : ∀ k, k < M → st2 (k + 1) - st2 k = st (k + 1) - st k := fun k hk => Nat.le_antisymm (th_sz hW hH h2 h hk) (th_sz hW hH h h2 hk)
  refine ⟨rfl, fun k hk => ⟨(o.2.1 k hk).2, sz k hk⟩, shS_c (fun m i hm hi => ?_) M (Nat.le_refl _)⟩
  have F : ∀ k, k < M → E2 (st2 k) = E (st k) := fun k hk => (o.2.1 k hk).2
  have key : alP W H f L (fun k => E (st k)) (fun k => st (k + 1) - st k) m i ↔ alP W H f L2 (fun k => E2 (st2 k)) (fun k => st2 (k + 1) - st2 k) m i := by
    unfold alP
    simp only [F m hm, F i hi, sz m hm, sz i hi]
    constructor
    · intro ⟨z, g⟩
      refine ⟨z, fun c hc hl => ?_⟩
      have := g c hc (by rw [← o.2.2 c hc]; exact hl)
      exact ⟨this.1, by rw [o.2.2 _ this.1]; exact this.2⟩
    · intro ⟨z, g⟩
      refine ⟨z, fun c hc hl => ?_⟩
      have := g c hc (by rw [o.2.2 c hc]; exact hl)
      exact ⟨this.1, by rw [← o.2.2 _ this.1]; exact this.2⟩
  have a1 := ha m i
  have a2 := ha2 m i
  rcases Bool.eq_false_or_eq_true (al m i) with q | q <;> rcases Bool.eq_false_or_eq_true (al2 m i) with r | r
  · rw [q, r]
  · rw [a2.mpr (key.mp (a1.mp q))] at r; cases r
  · rw [a1.mpr (key.mpr (a2.mp r))] at q; cases q
  · rw [q, r]
theorem nlk_c {No No2 : Nat → Nat} {s : Nat} : ∀ {n : Nat}, (∀ z, z < n → No z = No2 z) → nlk No s n = nlk No2 s n
  | 0, _ => rfl
  | n + 1, h => by
    show nlk No s n + (if No n = s then 1 else 0) = nlk No2 s n + (if No2 n = s then 1 else 0)
    rw [nlk_c (fun z hz => h z (by omega)), h n (by omega)]
theorem thR_c {k w : Int32} {M : Nat} {E st No E2 st2 No2 : Nat → Nat} (h : ∀ k, k < M → E2 (st2 k) = E (st k) ∧ st2 (k + 1) - st2 k = st (k + 1) - st k) (hn : ∀ z, z < M → No z = No2 z) : thR k w M E st No = thR k w M E2 st2 No2 := by
  unfold thR
  split
  · rename_i hk
    have := h k.toInt.toNat (by omega)
    rw [this.1, this.2, hn k.toInt.toNat (by omega)]
  · rfl
theorem shR_c {k w : Int32} {M S : Nat} {E st No Mo E2 st2 No2 Mo2 : Nat → Nat} (h : ∀ k, k < M → E2 (st2 k) = E (st k) ∧ st2 (k + 1) - st2 k = st (k + 1) - st k) (hn : ∀ z, z < M → No z = No2 z) (hm : ∀ z, z < S → Mo z = Mo2 z ∧ Mo z < M) : shR k w M S E st No Mo = shR k w M S E2 st2 No2 Mo2 := by
  unfold shR
  split
  · rename_i hk
    have a := hm k.toInt.toNat (by omega)
    have b := h _ a.2
    rw [nlk_c hn, ← a.1, b.1, b.2]
  · rfl
theorem th_at {W H M M2 : Nat} {f : Nat → Int32} {L E st L2 E2 st2 : Nat → Nat} {La La2 : Nat → Int32} (hW : 2 ≤ W ∧ W ≤ 16) (hH : 2 ≤ H ∧ H ≤ 16) (h : ThS W H f M L E st) (h2 : ThS W H f M2 L2 E2 st2) (b : LbC W H f La L) (b2 : LbC W H f La2 L2) {c : Nat} (h3 : c % 16 < W) (h4 : c / 16 < H) : La c = La2 c := by
  by_cases o : onC W H f c
  · rw [(b c h3 h4).1 o, (b2 c h3 h4).1 o, (th_one hW hH h h2).2.2 c o]
  · rw [(b c h3 h4).2 o, (b2 c h3 h4).2 o]
theorem spX_1 {f : Nat → Int32} {y : Nat} {z : Nat × (Nat → Int32)} : ∀ x, (spX f y x z).1 = z.1 + x
  | 0 => rfl
  | x + 1 => by
    show (spX f y x z).1 + 1 = _
    rw [spX_1 x]
    rfl
theorem spY_1 {W : Nat} {f s : Nat → Int32} : ∀ y, (spY W f s y).1 + 1 = y * W + y + (if y = 0 then 1 else 0)
  | 0 => by rw [Nat.zero_mul]; rfl
  | y + 1 => by
    show (spX f y W (spS y (spY W f s y))).1 + 1 = _
    have ih := spY_1 (W := W) (f := f) (s := s) y
    rw [spX_1, if_neg (by omega), Nat.succ_mul]
    unfold spS
    by_cases e : y = 0
    · subst e
      rw [if_pos rfl] at ih ⊢
      rw [Nat.zero_mul] at ih ⊢
      omega
    · rw [if_neg e] at ih ⊢
      show (spY W f s y).1 + 1 + W + 1 = _
      omega
theorem sp_le {W H : Nat} {f s : Nat → Int32} (hW : W ≤ 16) (hH : H ≤ 16) : (spY W f s H).1 ≤ 271 := by
  have a := spY_1 (W := W) (f := f) (s := s) H
  have b : H * W ≤ 16 * 16 := Nat.mul_le_mul hH hW
  by_cases e : H = 0
  · subst e
    rw [if_pos rfl, Nat.zero_mul] at a
    omega
  · rw [if_neg e] at a
    omega
theorem canB_ok {W H a0 n : Nat} (hW : W ≤ 16) (hH : H ≤ 16) (ha : a0 ≤ 2) (hn : n < 2147483648) (h : canB W H a0 (nI n) = true) : evOK W H a0 n := by
  have := of_decide_eq_true h
  rw [nI_toInt (by omega)] at this
  refine ⟨ha, fun e => ?_, fun e => ?_, ?_⟩
  · have := this.2.1 e; omega
  · have := this.2.2.1 e; omega
  · rcases (show a0 = 0 ∨ a0 = 1 ∨ a0 = 2 from by omega) with e | e | e
    · have := this.2.1 e; omega
    · have := this.2.2.1 e; omega
    · have := this.2.2.2 e; omega
