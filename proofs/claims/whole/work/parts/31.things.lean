/-! THINGS: cells 16*y+x, their neighbours closed round, what hangs together -/
def onC (W H : Nat) (f : Nat → Int32) (c : Nat) : Prop := (c % 16 < W ∧ c / 16 < H) ∧ bt (f (c / 16)) (c % 16) = true
def nbC (W H a d : Nat) : Nat := 16 * crI (((a / 16 : Nat) : Int) + ((d / 3 : Nat) : Int) - 1) H + crI (((a % 16 : Nat) : Int) + ((d % 3 : Nat) : Int) - 1) W
def rch (W H : Nat) (f : Nat → Int32) (a b : Nat) : Prop := ∀ P : Nat → Prop, P a → (∀ u d, P u → d < 9 → onC W H f (nbC W H u d) → P (nbC W H u d)) → P b
theorem crI_lt {z : Int} {n : Nat} (h1 : -1 ≤ z) (h2 : z ≤ n) (hn : 2 ≤ n) : crI z n < n := by
  unfold crI
  split
  · omega
  · split <;> omega
theorem crI_back {x n d : Nat} (hx : x < n) (hn : 2 ≤ n) (hd : d < 3) : crI (((crI ((x : Int) + (d : Int) - 1) n : Nat) : Int) + ((2 - d : Nat) : Int) - 1) n = x := by
  unfold crI
  split <;> split <;> (try split) <;> (try split) <;> omega
theorem nb_mod {W H a d : Nat} (hW : 2 ≤ W ∧ W ≤ 16) (ha : a % 16 < W) (hd : d < 9) : nbC W H a d % 16 = crI (((a % 16 : Nat) : Int) + ((d % 3 : Nat) : Int) - 1) W ∧ nbC W H a d / 16 = crI (((a / 16 : Nat) : Int) + ((d / 3 : Nat) : Int) - 1) H := by
  have := crI_lt (z := ((a % 16 : Nat) : Int) + ((d % 3 : Nat) : Int) - 1) (n := W) (by omega) (by omega) hW.1
  unfold nbC
  omega
theorem nb_back {W H a d : Nat} (hW : 2 ≤ W ∧ W ≤ 16) (hH : 2 ≤ H ∧ H ≤ 16) (ha : a % 16 < W ∧ a / 16 < H) (hd : d < 9) : nbC W H (nbC W H a d) (8 - d) = a := by
  have m := nb_mod (H := H) hW ha.1 hd
  have e : nbC W H (nbC W H a d) (8 - d) = 16 * crI (((nbC W H a d / 16 : Nat) : Int) + (((8 - d) / 3 : Nat) : Int) - 1) H + crI (((nbC W H a d % 16 : Nat) : Int) + (((8 - d) % 3 : Nat) : Int) - 1) W := rfl
  rw [e, m.1, m.2, show (8 - d) / 3 = 2 - d / 3 from by omega, show (8 - d) % 3 = 2 - d % 3 from by omega, crI_back ha.2 hH.1 (by omega), crI_back ha.1 hW.1 (by omega)]
  omega
theorem nb_in {W H a d : Nat} (hW : 2 ≤ W ∧ W ≤ 16) (hH : 2 ≤ H ∧ H ≤ 16) (ha : a % 16 < W ∧ a / 16 < H) (hd : d < 9) : nbC W H a d % 16 < W ∧ nbC W H a d / 16 < H := by
  have m := nb_mod (H := H) hW ha.1 hd
  rw [m.1, m.2]
  exact ⟨crI_lt (by omega) (by omega) hW.1, crI_lt (by omega) (by omega) hH.1⟩
theorem rch_r {W H : Nat} {f : Nat → Int32} (a : Nat) : rch W H f a a := fun _ h _ => h
theorem rch_s {W H : Nat} {f : Nat → Int32} {a u d : Nat} (h : rch W H f a u) (hd : d < 9) (ho : onC W H f (nbC W H u d)) : rch W H f a (nbC W H u d) := fun P h0 hs => hs u d (h P h0 hs) hd ho
theorem rch_t {W H : Nat} {f : Nat → Int32} {a b c : Nat} (h : rch W H f a b) (g : rch W H f b c) : rch W H f a c := fun P h0 hs => g P (h P h0 hs) hs
theorem rch_y {W H : Nat} {f : Nat → Int32} (hW : 2 ≤ W ∧ W ≤ 16) (hH : 2 ≤ H ∧ H ≤ 16) {a b : Nat} (ha : onC W H f a) (h : rch W H f a b) : onC W H f b ∧ rch W H f b a := by
  refine h (fun v => onC W H f v ∧ rch W H f v a) ⟨ha, rch_r a⟩ ?_
  intro u d hu hd ho
  refine ⟨ho, rch_t ?_ hu.2⟩
  have e := nb_back hW hH hu.1.1 hd
  have := rch_s (d := 8 - d) (rch_r (f := f) (nbC W H u d)) (by omega) (by rw [e]; exact hu.1)
  rw [e] at this
  exact this
/-- the things: how many, a cell's thing, the cells one thing after another, where each begins -/
def ThS (W H : Nat) (f : Nat → Int32) (M : Nat) (L E st : Nat → Nat) : Prop :=
  ((∀ c, onC W H f c → L c < M) ∧ (∀ c d, onC W H f c → d < 9 → onC W H f (nbC W H c d) → L (nbC W H c d) = L c) ∧ (∀ c, onC W H f c → rch W H f (E (st (L c))) c ∧ E (st (L c)) ≤ c) ∧ (∀ k, k < M → onC W H f (E (st k)) ∧ L (E (st k)) = k) ∧ (∀ j k, j < k → k < M → E (st j) < E (st k))) ∧
  st 0 = 0 ∧ (∀ k, k < M → st k < st (k + 1)) ∧ (∀ k i, k < M → st k ≤ i → i < st (k + 1) → onC W H f (E i) ∧ L (E i) = k) ∧ (∀ i j, i < j → j < st M → E i ≠ E j) ∧ (∀ c, onC W H f c → ∃ i, i < st M ∧ E i = c)
theorem th_cls {W H M : Nat} {f : Nat → Int32} {L E st : Nat → Nat} (h : ThS W H f M L E st) {c d : Nat} (hc : onC W H f c) (hr : rch W H f c d) : onC W H f d ∧ L d = L c := by
  refine hr (fun v => onC W H f v ∧ L v = L c) ⟨hc, rfl⟩ ?_
  intro u e hu he ho
  exact ⟨ho, (h.1.2.1 u e hu.1 he ho).trans hu.2⟩
theorem inc_ge {M : Nat} {φ : Nat → Nat} (h : ∀ j k, j < k → k < M → φ j < φ k) : ∀ k, k < M → k ≤ φ k
  | 0, _ => Nat.zero_le _
  | k + 1, hk => by
    have := inc_ge h k (by omega)
    have := h k (k + 1) (by omega) hk
    omega
theorem th_F {W H M M2 : Nat} {f : Nat → Int32} {L E st L2 E2 st2 : Nat → Nat} (hW : 2 ≤ W ∧ W ≤ 16) (hH : 2 ≤ H ∧ H ≤ 16) (h : ThS W H f M L E st) (h2 : ThS W H f M2 L2 E2 st2) {c : Nat} (hc : onC W H f c) : E (st (L c)) ≤ E2 (st2 (L2 c)) := by
  have a := h2.1.2.2.1 c hc
  have o := h2.1.2.2.2.1 (L2 c) (h2.1.1 c hc)
  have r := rch_y hW hH o.1 a.1
  have q := th_cls h hc r.2
  have := (h.1.2.2.1 _ q.1).2
  rw [q.2] at this
  exact this
theorem th_phi {W H M M2 : Nat} {f : Nat → Int32} {L E st L2 E2 st2 : Nat → Nat} (hW : 2 ≤ W ∧ W ≤ 16) (hH : 2 ≤ H ∧ H ≤ 16) (h : ThS W H f M L E st) (h2 : ThS W H f M2 L2 E2 st2) {k : Nat} (hk : k < M) : L2 (E (st k)) < M2 ∧ E2 (st2 (L2 (E (st k)))) = E (st k) ∧ k ≤ L2 (E (st k)) := by
  have key : ∀ k, k < M → L2 (E (st k)) < M2 ∧ E2 (st2 (L2 (E (st k)))) = E (st k) := by
    intro k hk
    have o := h.1.2.2.2.1 k hk
    have a1 := th_F hW hH h h2 o.1
    have a2 := th_F hW hH h2 h o.1
    rw [o.2] at a1 a2
    exact ⟨h2.1.1 _ o.1, by omega⟩
  have mono : ∀ j k, j < k → k < M → L2 (E (st j)) < L2 (E (st k)) := by
    intro j k hjk hk
    have k1 := key j (by omega)
    have k2 := key k hk
    have lt := h.1.2.2.2.2 j k hjk hk
    rcases Nat.lt_trichotomy (L2 (E (st j))) (L2 (E (st k))) with q | q | q
    · exact q
    · have := k1.2
      rw [q, k2.2] at this
      omega
    · have := h2.1.2.2.2.2 _ _ q k1.1
      rw [k1.2, k2.2] at this
      omega
  exact ⟨(key k hk).1, (key k hk).2, inc_ge (φ := fun k => L2 (E (st k))) mono k hk⟩
/-- things are told in one way only -/
theorem th_one {W H M M2 : Nat} {f : Nat → Int32} {L E st L2 E2 st2 : Nat → Nat} (hW : 2 ≤ W ∧ W ≤ 16) (hH : 2 ≤ H ∧ H ≤ 16) (h : ThS W H f M L E st) (h2 : ThS W H f M2 L2 E2 st2) : M = M2 ∧ (∀ k, k < M → L2 (E (st k)) = k ∧ E2 (st2 k) = E (st k)) ∧ ∀ c, onC W H f c → L2 c = L c := by
  have key : ∀ k, k < M → L2 (E (st k)) = k ∧ E2 (st2 k) = E (st k) := by
    intro k hk
    have a := th_phi hW hH h h2 hk
    have b := th_phi hW hH h2 h a.1
    rw [a.2.1, (h.1.2.2.2.1 k hk).2] at b
    have e : L2 (E (st k)) = k := by omega
    refine ⟨e, ?_⟩
    have := a.2.1
    rw [e] at this
    exact this
  have le : M ≤ M2 := by
    rcases Nat.eq_zero_or_pos M with z | z
    · omega
    · have := th_phi hW hH h h2 (k := M - 1) (by omega)
      omega
  have ge : M2 ≤ M := by
    rcases Nat.eq_zero_or_pos M2 with z | z
    · omega
    · have := th_phi hW hH h2 h (k := M2 - 1) (by omega)
      omega
  refine ⟨by omega, key, fun c hc => ?_⟩
  have hl := h.1.1 c hc
  have o := h.1.2.2.2.1 (L c) hl
  rw [(th_cls h2 o.1 (h.1.2.2.1 c hc).1).2, (key (L c) hl).1]
theorem st_block {st : Nat → Nat} (h0 : st 0 = 0) : ∀ {M i : Nat}, i < st M → ∃ k, k < M ∧ st k ≤ i ∧ i < st (k + 1)
  | 0, i, h => by omega
  | M + 1, i, h => by
    rcases Nat.lt_or_ge i (st M) with q | q
    · obtain ⟨k, h1, h2, h3⟩ := st_block h0 q
      exact ⟨k, by omega, h2, h3⟩
    · exact ⟨M, by omega, q, h⟩
theorem st_mono {M : Nat} {st : Nat → Nat} (h : ∀ k, k < M → st k < st (k + 1)) : ∀ d k, k + d ≤ M → st k ≤ st (k + d)
  | 0, _, _ => Nat.le_refl _
  | d + 1, k, hk => by
    have a := st_mono h d k (by omega)
    have b := h (k + d) (by omega)
    show st k ≤ st (k + d + 1)
    omega
theorem th_sz {W H M M2 : Nat} {f : Nat → Int32} {L E st L2 E2 st2 : Nat → Nat} (hW : 2 ≤ W ∧ W ≤ 16) (hH : 2 ≤ H ∧ H ≤ 16) (h : ThS W H f M L E st) (h2 : ThS W H f M2 L2 E2 st2) {k : Nat} (hk : k < M) : st (k + 1) - st k ≤ st2 (k + 1) - st2 k := by
  have u := th_one hW hH h h2
  have ex : ∀ i, ∃ j, i < st (k + 1) - st k → (j < st2 (k + 1) - st2 k ∧ E2 (st2 k + j) = E (st k + i)) := by
    intro i
    by_cases hi : i < st (k + 1) - st k
    · have o := h.2.2.2.1 k (st k + i) hk (by omega) (by omega)
      obtain ⟨j, hj, e⟩ := h2.2.2.2.2.2 _ o.1
      obtain ⟨k2, b1, b2, b3⟩ := st_block h2.2.1 hj
      have o2 := h2.2.2.2.1 k2 j b1 b2 b3
      rw [e, u.2.2 _ o.1, o.2] at o2
      have e2 : k2 = k := o2.2.symm
      subst e2
      exact ⟨j - st2 k2, fun _ => ⟨by omega, by rw [show st2 k2 + (j - st2 k2) = j from by omega]; exact e⟩⟩
    · exact ⟨0, fun q => absurd q hi⟩
  obtain ⟨g, hg⟩ := Classical.axiomOfChoice ex
  refine fb_holes _ _ g (fun i hi => (hg i hi).1) (fun i j hij hj e => ?_)
  have a := (hg i (by omega)).2
  have b := (hg j hj).2
  rw [e, b] at a
  have mm := st_mono h.2.2.1 (M - (k + 1)) (k + 1) (by omega)
  rw [show k + 1 + (M - (k + 1)) = M from by omega] at mm
  exact h.2.2.2.2.1 (st k + i) (st k + j) (by omega) (by omega) a.symm
