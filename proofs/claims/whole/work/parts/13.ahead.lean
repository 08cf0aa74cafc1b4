/-! IN THOUGHT -/
def fst2 {α : Type} (P : Nat → Option α) : Nat → Nat → Option α
  | _, 0 => none
  | n, c + 1 => match P n with
    | some a => some a
    | none => fst2 P (n + 2) c
theorem fst2_s {α : Type} {P : Nat → Option α} {n c : Nat} {a : α} (hc : 0 < c) (h : P n = some a) : fst2 P n c = some a := by
  obtain ⟨d, rfl⟩ : ∃ d, c = d + 1 := ⟨c - 1, by omega⟩
  simp only [fst2, h]
theorem fst2_n {α : Type} {P : Nat → Option α} {n c : Nat} (hc : 0 < c) (h : P n = none) : fst2 P n c = fst2 P (n + 2) (c - 1) := by
  obtain ⟨d, rfl⟩ : ∃ d, c = d + 1 := ⟨c - 1, by omega⟩
  simp only [fst2, h]
  rfl
def ifS {α : Type} (b : Bool) (a : α) : Option α := if b then some a else none
theorem ifS_t {α : Type} {b : Bool} {a : α} (h : b = true) : ifS b a = some a := by rw [h]; rfl
theorem ifS_f {α : Type} {b : Bool} {a : α} (h : b = false) : ifS b a = none := by rw [h]; rfl
def sameAt (W H : Nat) (p : Nat → Nat) (t : Int32) (f : Nat → Int32) (n : Nat) : Bool := shB W H (gF W H p t n f) f 0 0
def agS (W H : Nat) (p : Nat → Nat) (t : Int32) (f : Nat → Int32) : Option Nat := fst2 (fun n => ifS (sameAt W H p t f n) n) 2 64
def optI (o : Option Nat) : Int32 := match o with
  | none => -5
  | some n => nI n
def mvX (W H : Nat) (g f : Nat → Int32) (dy : Nat) : Option (Nat × Nat) := fst2 (fun dx => ifS (shB W H g f dx dy) (dx, dy)) (if dy = 0 then 2 else 0) (if dy = 0 then W / 2 - 1 else W / 2)
def mvG (W H : Nat) (g f : Nat → Int32) : Option (Nat × Nat) := fst2 (fun dy => mvX W H g f dy) 0 (H / 2)
def mvAt (W H : Nat) (p : Nat → Nat) (t : Int32) (f : Nat → Int32) (n : Nat) : Option (Nat × Nat × Nat) := (mvG W H (gF W H p t n f) f).map (fun z => (n, z))
def mvS (W H : Nat) (p : Nat → Nat) (t : Int32) (f : Nat → Int32) : Option (Nat × Nat × Nat) := fst2 (fun n => mvAt W H p t f n) 2 32
theorem toN0 (j : Nat) (hj : j < 200) : (nI j).toInt.toNat = j := by rw [nI_toInt (by omega)]; omega
theorem toNn (j : Nat) (hj : j < 200) : (-(nI j).toInt).toNat = 0 := by rw [nI_toInt (by omega)]; omega
theorem gF_add (W H : Nat) (p : Nat → Nat) (t : Int32) (f : Nat → Int32) (a : Nat) : ∀ b : Nat, gF W H p (t + nI a) b (gF W H p t a f) = gF W H p t (a + b) f
  | 0 => rfl
  | b + 1 => by
    show turn W H p (ph (t + nI a + nI b)) (gF W H p (t + nI a) b (gF W H p t a f)) = turn W H p (ph (t + nI (a + b))) (gF W H p t (a + b) f)
    rw [gF_add W H p t f a b, Int32.add_assoc, nI_add]
/-- some steps more, from a steps ahead -/
theorem goF_on {W H : Nat} {p q : Nat → Nat} {t : Int32} {f : Nat → Int32} {a j : Nat} (hj : j < 200) : goF W H p q (t + nI a) (nI j) (gF W H p t a f) = gF W H p t (a + j) f := by
  unfold goF
  rw [toN0 j hj, toNn j hj, gF_add]
  rfl
theorem goF_nI {W H : Nat} {p q : Nat → Nat} {t : Int32} {f : Nat → Int32} {j : Nat} (hj : j < 200) : goF W H p q t (nI j) f = gF W H p t j f := by
  unfold goF
  rw [toN0 j hj, toNn j hj]
  rfl
/-- the grids that are unlike: how many, and their rows -/
def keep (H : Nat) (s : Nat × (Nat → Nat → Int32)) (g : Nat → Int32) : Nat × (Nat → Nat → Int32) :=
  if anyB s.1 (fun k => allB H (fun y => decide (s.2 k y = g y))) then s else (s.1 + 1, fun k => if k = s.1 then g else s.2 k)
def unS (H : Nat) (G : Nat → Nat → Int32) : Nat → Nat × (Nat → Nat → Int32)
  | 0 => keep H (0, fun _ _ => 0) (G 0)
  | n + 1 => keep H (unS H G n) (G (n + 1))
theorem keep_le (H : Nat) (s : Nat × (Nat → Nat → Int32)) (g : Nat → Int32) : (keep H s g).1 ≤ s.1 + 1 := by unfold keep; split <;> simp
theorem unS_le (H : Nat) (G : Nat → Nat → Int32) : ∀ n, (unS H G n).1 ≤ n + 1
  | 0 => keep_le _ _ _
  | n + 1 => Nat.le_trans (keep_le _ _ _) (by have := unS_le H G n; omega)
/-- an array holds the rows of the kept grids, 16 places each -/
def holds (H c : Nat) (K : Nat → Nat → Int32) (u : Nat → Int32) : Prop := ∀ k, k < c → ∀ y, y < H → u (16 * k + y) = K k y
def holdsC (H c : Nat) (K : Nat → Nat → Int32) (u : Nat → Int32) : Prop := ∀ k, k < c → ∀ y, y < H → u (k * 16 + y) = K k y
theorem anyB_f {P : Nat → Bool} : ∀ {n : Nat}, (∀ z, z < n → P z = false) → anyB n P = false
  | 0, _ => rfl
  | n + 1, h => by rw [anyB, anyB_f (fun z hz => h z (by omega)), h n (by omega)]; rfl
theorem anyB_t {P : Nat → Bool} : ∀ {n z : Nat}, z < n → P z = true → anyB n P = true
  | 0, z, h, _ => absurd h (Nat.not_lt_zero _)
  | n + 1, z, h, e => by
    rw [anyB]
    rcases Nat.lt_or_ge z n with q | q
    · rw [anyB_t q e]; rfl
    · rw [show n = z from by omega, e, Bool.or_true]
theorem holds_add {H c : Nat} {K : Nat → Nat → Int32} {u u2 g : Nat → Int32} (hH : H ≤ 16) (h : holds H c K u) (h1 : ∀ z, z < 16 * c → u2 z = u z) (h2 : ∀ y, y < H → u2 (16 * c + y) = g y) : holds H (c + 1) (fun k => if k = c then g else K k) u2 := by
  intro k hk y hy
  by_cases e : k = c
  · subst e
    show u2 _ = (if k = k then g else K k) y
    rw [if_pos rfl]
    exact h2 y hy
  · show u2 _ = (if k = c then g else K k) y
    rw [if_neg e, h1 _ (by omega)]
    exact h k (by omega) y hy
/-- what is seen, so by a rule -/
def seenB (W H : Nat) (p q : Nat → Nat) (t : Int32) (f : Nat → Int32) (m : Nat) (s0 : Nat → Int32) (s1 : Nat → Nat) (s2 : Nat → Int32) : Bool :=
  allB m (fun i => decide ((s1 i / 100 < W ∧ s1 i % 100 < H) ∧ bI (bt (goF W H p q t (s0 i) f (s1 i % 100)) (s1 i / 100)) = s2 i))
/-- events -/
abbrev EvT : Type := Int32 × (Nat → Int32) × (Nat → Nat) × (Nat → Nat)
def ev1 (W H : Nat) (what n : Nat) (z : EvT) : EvT :=
  if what = 0 then (z.1, z.2.1, wrd n, wrdI n) else if what = 1 then (z.1 + nI n, goF W H z.2.2.1 z.2.2.2 z.1 (nI n) z.2.1, z.2.2.1, z.2.2.2) else (z.1, flp W H z.2.1 (n / 100) (n % 100), z.2.2.1, z.2.2.2)
def evS (W H : Nat) (e0 e1 : Nat → Nat) (z : EvT) : Nat → EvT
  | 0 => z
  | i + 1 => ev1 W H (e0 i) (e1 i) (evS W H e0 e1 z i)
def evOK (W H : Nat) (what n : Nat) : Prop := what ≤ 2 ∧ (what = 0 → n < 5) ∧ (what = 1 → n ≤ 20) ∧ n < 1600
theorem wrd_lt5 {w : Nat} (hw : w < 5) : ∀ s, s < 16 → wrd w s < 16 := fun s hs => (wrd_all w hw s hs).1
theorem ev1_lt {W H what n : Nat} {z : EvT} (h : what = 0 → n < 5) (hp : ∀ s, s < 16 → z.2.2.1 s < 16) : ∀ s, s < 16 → (ev1 W H what n z).2.2.1 s < 16 := by
  unfold ev1
  split
  · rename_i e
    exact wrd_lt5 (h e)
  · split <;> exact hp
theorem evS_lt {W H : Nat} {e0 e1 : Nat → Nat} {z : EvT} : ∀ {m : Nat}, (∀ i, i < m → e0 i = 0 → e1 i < 5) → (∀ s, s < 16 → z.2.2.1 s < 16) → ∀ s, s < 16 → (evS W H e0 e1 z m).2.2.1 s < 16
  | 0, _, hp => hp
  | m + 1, h, hp => ev1_lt (h m (by omega)) (evS_lt (fun i hi => h i (by omega)) hp)
