/-- two cells of one even block of four hang together -/
theorem nb_block {a b : Nat} {W H : Nat} (ha : a % 16 < W ∧ a / 16 < H) (hb : b % 16 < W ∧ b / 16 < H) (h1 : a % 16 / 2 = b % 16 / 2) (h2 : a / 16 / 2 = b / 16 / 2) : ∃ d, d < 9 ∧ nbC W H a d = b := by
  refine ⟨3 * (b / 16 + 1 - a / 16) + (b % 16 + 1 - a % 16), by omega, ?_⟩
  have d1 : (3 * (b / 16 + 1 - a / 16) + (b % 16 + 1 - a % 16)) / 3 = b / 16 + 1 - a / 16 := by omega
  have d2 : (3 * (b / 16 + 1 - a / 16) + (b % 16 + 1 - a % 16)) % 3 = b % 16 + 1 - a % 16 := by omega
  unfold nbC
  rw [d1, d2]
  have e1 : crI (((a / 16 : Nat) : Int) + ((b / 16 + 1 - a / 16 : Nat) : Int) - 1) H = b / 16 := by
    unfold crI
    rw [if_neg (by omega), if_neg (by omega)]
    omega
  have e2 : crI (((a % 16 : Nat) : Int) + ((b % 16 + 1 - a % 16 : Nat) : Int) - 1) W = b % 16 := by
    unfold crI
    rw [if_neg (by omega), if_neg (by omega)]
    omega
  rw [e1, e2]
  omega
theorem first_64 {W H M : Nat} {f : Nat → Int32} {F L : Nat → Nat} (hW : W ≤ 16) (hH : H ≤ 16) (hF : ∀ k, k < M → onC W H f (F k) ∧ L (F k) = k) (hadj : ∀ c d, onC W H f c → d < 9 → onC W H f (nbC W H c d) → L (nbC W H c d) = L c) : M ≤ 64 := by
  refine fb_holes 64 M (fun k => 8 * (F k / 16 / 2) + F k % 16 / 2) (fun i hi => ?_) (fun i j hij hj e => ?_)
  · have := (hF i hi).1.1
    show 8 * (F i / 16 / 2) + F i % 16 / 2 < 64
    omega
  · have e : 8 * (F i / 16 / 2) + F i % 16 / 2 = 8 * (F j / 16 / 2) + F j % 16 / 2 := e
    have a := hF i (by omega)
    have b := hF j hj
    obtain ⟨d, hd, hn⟩ := nb_block a.1.1 b.1.1 (by omega) (by omega)
    have := hadj (F i) d a.1 hd (by rw [hn]; exact b.1)
    rw [hn, a.2, b.2] at this
    omega
theorem th_64 {W H M : Nat} {f : Nat → Int32} {L E st : Nat → Nat} (hW : W ≤ 16) (hH : H ≤ 16) (h : ThS W H f M L E st) : M ≤ 64 := first_64 (F := fun k => E (st k)) hW hH h.1.2.2.2.1 h.1.2.1
/-- a cell, carried by so many columns and rows, closed round -/
def shI (W H c : Nat) (p q : Int) : Nat := 16 * crI (((c / 16 : Nat) : Int) + q) H + crI (((c % 16 : Nat) : Int) + p) W
theorem crI_2 {z : Int} {n : Nat} (h1 : -(n : Int) ≤ z) (h2 : z < 2 * n) (hn : 0 < n) : crI z n < n := by
  unfold crI
  split
  · omega
  · split <;> omega
theorem crI_b2 {x n : Nat} {p : Int} (hx : x < n) (hp : -(n : Int) < p ∧ p < n) : crI (((crI ((x : Int) + p) n : Nat) : Int) + -p) n = x := by
  unfold crI
  split <;> split <;> (try split) <;> (try split) <;> omega
theorem sh_mod {W H c : Nat} {p q : Int} (hW : W ≤ 16) (hc : c % 16 < W) (hp : -(W : Int) < p ∧ p < W) : shI W H c p q % 16 = crI (((c % 16 : Nat) : Int) + p) W ∧ shI W H c p q / 16 = crI (((c / 16 : Nat) : Int) + q) H := by
  have := crI_2 (z := ((c % 16 : Nat) : Int) + p) (n := W) (by omega) (by omega) (by omega)
  unfold shI
  omega
theorem sh_back {W H c : Nat} {p q : Int} (hW : W ≤ 16) (hc : c % 16 < W ∧ c / 16 < H) (hp : -(W : Int) < p ∧ p < W) (hq : -(H : Int) < q ∧ q < H) : shI W H (shI W H c p q) (-p) (-q) = c := by
  have m := sh_mod (H := H) (q := q) hW hc.1 hp
  have e : shI W H (shI W H c p q) (-p) (-q) = 16 * crI (((shI W H c p q / 16 : Nat) : Int) + -q) H + crI (((shI W H c p q % 16 : Nat) : Int) + -p) W := rfl
  rw [e, m.1, m.2, crI_b2 hc.2 hq, crI_b2 hc.1 hp]
  omega
/-- alike: as many cells, and those of m, carried from its first cell to that of i, are i's -/
def alP (W H : Nat) (f : Nat → Int32) (L F Z : Nat → Nat) (m i : Nat) : Prop :=
  Z m = Z i ∧ ∀ c, onC W H f c → L c = m → onC W H f (shI W H c (((F i % 16 : Nat) : Int) - ((F m % 16 : Nat) : Int)) (((F i / 16 : Nat) : Int) - ((F m / 16 : Nat) : Int))) ∧ L (shI W H c (((F i % 16 : Nat) : Int) - ((F m % 16 : Nat) : Int)) (((F i / 16 : Nat) : Int) - ((F m / 16 : Nat) : Int))) = i
theorem th_idx {W H M : Nat} {f : Nat → Int32} {L E st : Nat → Nat} (h : ThS W H f M L E st) {c : Nat} (hc : onC W H f c) : ∃ j, j < st (L c + 1) - st (L c) ∧ E (st (L c) + j) = c := by
  obtain ⟨i, hi, e⟩ := h.2.2.2.2.2 c hc
  obtain ⟨k, b1, b2, b3⟩ := st_block h.2.1 hi
  have o := h.2.2.2.1 k i b1 b2 b3
  rw [e] at o
  rw [o.2]
  exact ⟨i - st k, by omega, by rw [show st k + (i - st k) = i from by omega]; exact e⟩
theorem al_sym {W H M : Nat} {f : Nat → Int32} {L E st : Nat → Nat} (hW : 2 ≤ W ∧ W ≤ 16) (hH : 2 ≤ H ∧ H ≤ 16) (h : ThS W H f M L E st) {m i : Nat} (hm : m < M) (hi : i < M) (a : alP W H f L (fun k => E (st k)) (fun k => st (k + 1) - st k) m i) : alP W H f L (fun k => E (st k)) (fun k => st (k + 1) - st k) i m := by
  obtain ⟨hz, ha⟩ := a
  have hz : st (m + 1) - st m = st (i + 1) - st i := hz
  have om := h.1.2.2.2.1 m hm
  have oi := h.1.2.2.2.1 i hi
  have bm := om.1.1
  have bi := oi.1.1
  generalize hp : (((E (st i) % 16 : Nat) : Int) - ((E (st m) % 16 : Nat) : Int)) = p at ha
  generalize hq : (((E (st i) / 16 : Nat) : Int) - ((E (st m) / 16 : Nat) : Int)) = q at ha
  have bp : -(W : Int) < p ∧ p < W := by omega
  have bq : -(H : Int) < q ∧ q < H := by omega
  have cell : ∀ j, j < st (m + 1) - st m → onC W H f (E (st m + j)) ∧ L (E (st m + j)) = m := fun j hj => h.2.2.2.1 m (st m + j) hm (by omega) (by omega)
  have mm := st_mono h.2.2.1 (M - (m + 1)) (m + 1) (by omega)
  rw [show m + 1 + (M - (m + 1)) = M from by omega] at mm
  have ex : ∀ j, ∃ j2, j < st (m + 1) - st m → (j2 < st (i + 1) - st i ∧ E (st i + j2) = shI W H (E (st m + j)) p q) := by
    intro j
    by_cases hj : j < st (m + 1) - st m
    · have o := cell j hj
      have s := ha _ o.1 o.2
      obtain ⟨j2, h1, h2⟩ := th_idx h s.1
      rw [s.2] at h1 h2
      exact ⟨j2, fun _ => ⟨h1, h2⟩⟩
    · exact ⟨0, fun z => absurd z hj⟩
  obtain ⟨g, hg⟩ := Classical.axiomOfChoice ex
  have inj : ∀ x y, x < y → y < st (m + 1) - st m → g x ≠ g y := by
    intro x y hxy hy e
    have g1 := (hg x (by omega)).2
    have g2 := (hg y hy).2
    rw [e, g2] at g1
    have c1 := sh_back (p := p) (q := q) hW.2 (cell x (by omega)).1.1 bp bq
    have c2 := sh_back (p := p) (q := q) hW.2 (cell y hy).1.1 bp bq
    rw [← g1, c2] at c1
    exact h.2.2.2.2.1 (st m + x) (st m + y) (by omega) (by omega) c1.symm
  refine ⟨hz.symm, fun c hc hl => ?_⟩
  obtain ⟨y, hy, ey⟩ := th_idx h hc
  rw [hl] at hy ey
  obtain ⟨x, hx, exy⟩ := fb_onto (n := st (m + 1) - st m) (f := g) (fun j hj => by have := (hg j hj).1; omega) inj (y := y) (by omega)
  have gx := (hg x hx).2
  rw [exy, ey] at gx
  have back := sh_back (p := p) (q := q) hW.2 (cell x hx).1.1 bp bq
  show onC W H f (shI W H c (((E (st m) % 16 : Nat) : Int) - ((E (st i) % 16 : Nat) : Int)) (((E (st m) / 16 : Nat) : Int) - ((E (st i) / 16 : Nat) : Int))) ∧ L (shI W H c (((E (st m) % 16 : Nat) : Int) - ((E (st i) % 16 : Nat) : Int)) (((E (st m) / 16 : Nat) : Int) - ((E (st i) / 16 : Nat) : Int))) = m
  rw [show (((E (st m) % 16 : Nat) : Int) - ((E (st i) % 16 : Nat) : Int)) = -p from by omega, show (((E (st m) / 16 : Nat) : Int) - ((E (st i) / 16 : Nat) : Int)) = -q from by omega, gx, back]
  exact cell x hx
theorem al_ex (P : Nat → Nat → Prop) : ∃ al : Nat → Nat → Bool, ∀ m i, (al m i = true ↔ P m i) := ⟨fun m i => @decide (P m i) (Classical.propDecidable _), fun m i => @decide_eq_true_iff (P m i) (Classical.propDecidable _)⟩
/-- the shapes: how many, a thing's shape, a shape's model -/
def shL (al : Nat → Nat → Bool) (Mo : Nat → Nat) (i : Nat) : Nat → Nat → Nat
  | s, 0 => s
  | s, c + 1 => if al (Mo s) i then s else shL al Mo i (s + 1) c
def sh1 (i s : Nat) (z : Nat × (Nat → Nat) × (Nat → Nat)) : Nat × (Nat → Nat) × (Nat → Nat) := (if s = z.1 then z.1 + 1 else z.1, updN z.2.1 i s, if s = z.1 then updN z.2.2 s i else z.2.2)
def shS (al : Nat → Nat → Bool) : Nat → Nat × (Nat → Nat) × (Nat → Nat)
  | 0 => (0, fun _ => 0, fun _ => 0)
  | i + 1 => sh1 i (shL al (shS al i).2.2 i 0 (shS al i).1) (shS al i)
theorem shL_s {al : Nat → Nat → Bool} {Mo : Nat → Nat} {i s c : Nat} (hc : 0 < c) (h : al (Mo s) i = true) : shL al Mo i s c = s := by
  obtain ⟨d, rfl⟩ : ∃ d, c = d + 1 := ⟨c - 1, by omega⟩
  unfold shL
  rw [if_pos h]
theorem shL_n {al : Nat → Nat → Bool} {Mo : Nat → Nat} {i s c : Nat} (hc : 0 < c) (h : al (Mo s) i = false) : shL al Mo i s c = shL al Mo i (s + 1) (c - 1) := by
  obtain ⟨d, rfl⟩ : ∃ d, c = d + 1 := ⟨c - 1, by omega⟩
  show (if al (Mo s) i = true then s else shL al Mo i (s + 1) d) = _
  rw [if_neg (by rw [h]; exact Bool.false_ne_true)]
  rfl
theorem shL_le {al : Nat → Nat → Bool} {Mo : Nat → Nat} {i : Nat} : ∀ c s, s ≤ shL al Mo i s c ∧ shL al Mo i s c ≤ s + c
  | 0, s => ⟨Nat.le_refl _, Nat.le_refl _⟩
  | c + 1, s => by
    unfold shL
    split
    · omega
    · have := shL_le (al := al) (Mo := Mo) (i := i) c (s + 1)
      omega
theorem shS_ok (al : Nat → Nat → Bool) : ∀ n, (shS al n).1 ≤ n ∧ (∀ s, s < (shS al n).1 → (shS al n).2.2 s < n) ∧ (∀ i, i < n → (shS al n).2.1 i < (shS al n).1)
  | 0 => ⟨Nat.le_refl _, fun s h => absurd h (Nat.not_lt_zero _), fun s h => absurd h (Nat.not_lt_zero _)⟩
  | n + 1 => by
    have ih := shS_ok al n
    have b := shL_le (al := al) (Mo := (shS al n).2.2) (i := n) (shS al n).1 0
    have e : shS al (n + 1) = sh1 n (shL al (shS al n).2.2 n 0 (shS al n).1) (shS al n) := rfl
    rw [e]
    generalize shL al (shS al n).2.2 n 0 (shS al n).1 = s at b
    generalize shS al n = z at ih b
    unfold sh1
    by_cases q : s = z.1
    · simp only [if_pos q]
      refine ⟨by omega, fun t ht => ?_, fun i hi => ?_⟩
      · unfold updN
        split
        · omega
        · have := ih.2.1 t (by omega); omega
      · unfold updN
        split
        · omega
        · have := ih.2.2 i (by omega); omega
    · simp only [if_neg q]
      refine ⟨by omega, fun t ht => ?_, fun i hi => ?_⟩
      · have := ih.2.1 t ht; omega
      · unfold updN
        split
        · omega
        · exact ih.2.2 i (by omega)
theorem shL_c {al al2 : Nat → Nat → Bool} {Mo : Nat → Nat} {i : Nat} : ∀ c s, (∀ t, s ≤ t → t < s + c → al (Mo t) i = al2 (Mo t) i) → shL al Mo i s c = shL al2 Mo i s c
  | 0, _, _ => rfl
  | c + 1, s, h => by
    unfold shL
    rw [h s (Nat.le_refl _) (by omega), shL_c c (s + 1) (fun t h1 h2 => h t (by omega) (by omega))]
theorem shS_c {al al2 : Nat → Nat → Bool} {M : Nat} (h : ∀ m i, m < M → i < M → al m i = al2 m i) : ∀ n, n ≤ M → shS al n = shS al2 n
  | 0, _ => rfl
  | n + 1, hn => by
    have ih := shS_c h n (by omega)
    show sh1 n _ _ = sh1 n _ _
    rw [← ih, shL_c (al := al) (al2 := al2) _ _ (fun t _ ht => h _ _ (by have := (shS_ok al n).2.1 t (by omega); omega) (by omega))]
def nlk (N : Nat → Nat) (s : Nat) : Nat → Nat
  | 0 => 0
  | n + 1 => nlk N s n + if N n = s then 1 else 0
