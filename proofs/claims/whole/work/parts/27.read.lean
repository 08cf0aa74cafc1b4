/-! reading a text: what class and reference both do with it, letter by letter -/
abbrev RdT : Type := Nat × Nat × Nat × Nat × (Nat → Int32)
/-- one letter: shortest and longest row, row, column, rows -/
def rd1 (v : Int32) (s : RdT) : Option RdT :=
  if v.toInt = 47 then (if s.2.2.2.1 < s.1 ∨ s.2.2.1 = 15 then none else some (s.2.2.2.1, s.2.2.2.1, s.2.2.1 + 1, 0, s.2.2.2.2))
  else if (v.toInt ≠ 46 ∧ v.toInt ≠ 35) ∨ s.2.2.2.1 = s.2.1 then none
  else some (s.1, s.2.1, s.2.2.1, s.2.2.2.1 + 1, if v.toInt = 35 then flp 16 16 s.2.2.2.2 s.2.2.2.1 s.2.2.1 else s.2.2.2.2)
def rdS (ts : Nat → Int32) : Nat → Option RdT
  | 0 => some (1, 16, 0, 0, fun _ => 0)
  | i + 1 => (rdS ts i).bind (rd1 (ts i))
def flt (ts : Nat → Int32) : Nat → Option Nat
  | 0 => none
  | n + 1 => match flt ts n with
    | some i => some i
    | none => if (rdS ts (n + 1)).isNone then some n else none
/-- the place of the fault, if there is one -/
def rdR (ts : Nat → Int32) (tn : Nat) : Option Nat := match flt ts tn with
  | some i => some i
  | none => match rdS ts tn with
    | some s => if s.2.2.2.1 < s.1 then some tn else none
    | none => none
theorem rdS_s {ts : Nat → Int32} {i : Nat} {s : RdT} (h : rdS ts i = some s) : rdS ts (i + 1) = rd1 (ts i) s := by
  show (rdS ts i).bind _ = _
  rw [h]
  rfl
theorem rdS_p {ts : Nat → Int32} {i : Nat} {s : RdT} (h : rdS ts (i + 1) = some s) : ∃ r, rdS ts i = some r ∧ rd1 (ts i) r = some s := by
  cases e : rdS ts i with
  | none =>
    have : (rdS ts i).bind (rd1 (ts i)) = some s := h
    rw [e] at this
    cases this
  | some r => exact ⟨r, rfl, by rw [← rdS_s e]; exact h⟩
theorem rdS_dn {ts : Nat → Int32} : ∀ {d i : Nat} {s : RdT}, rdS ts (i + d) = some s → ∃ r, rdS ts i = some r
  | 0, _, s, h => ⟨s, h⟩
  | d + 1, i, s, h => by
    obtain ⟨r, hr, _⟩ := rdS_p (i := i + d) h
    exact rdS_dn hr
theorem flt_none {ts : Nat → Int32} : ∀ {n : Nat} {s : RdT}, rdS ts n = some s → flt ts n = none
  | 0, _, _ => rfl
  | n + 1, s, h => by
    obtain ⟨r, hr, _⟩ := rdS_p h
    unfold flt
    rw [flt_none hr, h]
    rfl
theorem flt_up {ts : Nat → Int32} {n i : Nat} (h : flt ts n = some i) : ∀ d, flt ts (n + d) = some i
  | 0 => h
  | d + 1 => by
    show flt ts (n + d + 1) = some i
    unfold flt
    rw [flt_up h d]
theorem rdR_A {ts : Nat → Int32} {tn i : Nat} {s : RdT} (hi : i < tn) (h : rdS ts i = some s) (hf : rd1 (ts i) s = none) : rdR ts tn = some i := by
  have h1 : flt ts (i + 1) = some i := by
    unfold flt
    rw [flt_none h, rdS_s h, hf]
    rfl
  have h2 := flt_up h1 (tn - (i + 1))
  rw [show i + 1 + (tn - (i + 1)) = tn from by omega] at h2
  unfold rdR
  rw [h2]
theorem rdR_B {ts : Nat → Int32} {tn : Nat} {s : RdT} (h : rdS ts tn = some s) (hc : s.2.2.2.1 < s.1) : rdR ts tn = some tn := by
  unfold rdR
  rw [flt_none h, h]
  exact if_pos hc
theorem rdR_C {ts : Nat → Int32} {tn : Nat} {s : RdT} (h : rdS ts tn = some s) (hc : ¬ s.2.2.2.1 < s.1) : rdR ts tn = none := by
  unfold rdR
  rw [flt_none h, h]
  exact if_neg hc
def sl (ts : Nat → Int32) : Nat → Nat
  | 0 => 0
  | n + 1 => sl ts n + if (ts n).toInt = 47 then 1 else 0
theorem sl_le (ts : Nat → Int32) : ∀ n, sl ts n ≤ n
  | 0 => Nat.le_refl _
  | n + 1 => by
    have := sl_le ts n
    show sl ts n + _ ≤ n + 1
    split <;> omega
theorem sl_mono (ts : Nat → Int32) (i : Nat) : ∀ d, sl ts i ≤ sl ts (i + d)
  | 0 => Nat.le_refl _
  | d + 1 => by
    have := sl_mono ts i d
    show sl ts i ≤ sl ts (i + d) + _
    omega
/-- what holds at every letter of a text without fault so far -/
def rdV (ts : Nat → Int32) (i : Nat) (s : RdT) : Prop :=
  (s.1 ≤ s.2.1 ∧ 1 ≤ s.1 ∧ s.2.1 ≤ 16 ∧ s.2.2.2.1 ≤ s.2.1 ∧ s.2.2.1 ≤ 15 ∧ s.2.2.1 = sl ts i ∧ s.2.2.2.1 ≤ i) ∧ (s.2.2.1 = 0 → s.1 = 1 ∧ s.2.1 = 16 ∧ s.2.2.2.1 = i ∧ ∀ z, z < i → (ts z).toInt ≠ 47) ∧
  (0 < s.2.2.1 → s.1 = s.2.1 ∧ s.1 < i ∧ (ts s.1).toInt = 47 ∧ ∀ z, z < s.1 → (ts z).toInt ≠ 47) ∧ (∀ y, s.2.2.1 < y → s.2.2.2.2 y = 0) ∧ (∀ y, rN (s.2.2.2.2 y) < 2 ^ s.2.1) ∧ rN (s.2.2.2.2 s.2.2.1) < 2 ^ s.2.2.2.1
theorem rN0 : rN (0 : Int32) = 0 := by decide
theorem rd_g {g : Nat → Int32} {c r : Nat} (hc : c < 16) (hr : r < 16) (h : rN (g r) < 2 ^ c) : rN (flp 16 16 g c r r) < 2 ^ (c + 1) ∧ ∀ y, y ≠ r → flp 16 16 g c r y = g y := by
  unfold flp
  rw [if_pos ⟨hc, hr⟩]
  constructor
  · show rN (if r = r then _ else _) < _
    rw [if_pos rfl]
    exact xor_lt (by omega) (Nat.lt_of_lt_of_le h (Nat.pow_le_pow_right (by decide) (by omega))) (bx_lt (by omega) (by omega))
  · intro y hy
    exact if_neg hy
theorem rdV_1 {ts : Nat → Int32} {i : Nat} {s r : RdT} (hv : rdV ts i s) (h : rd1 (ts i) s = some r) : rdV ts (i + 1) r := by
  obtain ⟨sh, lo, row, col, g⟩ := s
  obtain ⟨⟨h1, h2, h3, h4, h5, h6, h12⟩, h7, h8, h9, h10, h11⟩ := hv
  have h7 : row = 0 → sh = 1 ∧ lo = 16 ∧ col = i ∧ ∀ z, z < i → (ts z).toInt ≠ 47 := h7
  have h8 : 0 < row → sh = lo ∧ sh < i ∧ (ts sh).toInt = 47 ∧ ∀ z, z < sh → (ts z).toInt ≠ 47 := h8
  have h9 : ∀ y, row < y → g y = 0 := h9
  have h10 : ∀ y, rN (g y) < 2 ^ lo := h10
  have h11 : rN (g row) < 2 ^ col := h11
  simp only at h1 h2 h3 h4 h5 h6 h12
  unfold rd1 at h
  simp only at h
  by_cases e : (ts i).toInt = 47
  · rw [if_pos e] at h
    by_cases q : col < sh ∨ row = 15
    · rw [if_pos q] at h; cases h
    · rw [if_neg q] at h
      cases h
      have hsl : row + 1 = sl ts (i + 1) := by show row + 1 = sl ts i + _; rw [if_pos e, h6]
      have hcol : 0 < row → col = sh := fun hr => by have := (h8 hr).1; omega
      refine ⟨⟨Nat.le_refl _, ?_, ?_, Nat.zero_le _, ?_, hsl, Nat.zero_le _⟩, fun z => absurd z (by simp), fun _ => ?_, ?_, ?_, ?_⟩ <;> simp only
      · omega
      · omega
      · omega
      · rcases Nat.eq_zero_or_pos row with hz | hz
        · have := h7 hz
          refine ⟨trivial, by omega, by rw [this.2.2.1]; exact e, fun z hzz => this.2.2.2 z (by omega)⟩
        · have := h8 hz
          rw [hcol hz]
          exact ⟨trivial, by omega, this.2.2.1, this.2.2.2⟩
      · intro y hy; exact h9 y (by omega)
      · intro y
        rcases Nat.eq_zero_or_pos row with hz | hz
        · by_cases hy : y = 0
          · rw [hy, ← hz]; exact h11
          · rw [h9 y (by omega), rN0]; exact Nat.two_pow_pos _
        · rw [hcol hz, (h8 hz).1]; exact h10 y
      · rw [h9 (row + 1) (by omega), rN0]; decide
  · rw [if_neg e] at h
    by_cases q : ((ts i).toInt ≠ 46 ∧ (ts i).toInt ≠ 35) ∨ col = lo
    · rw [if_pos q] at h; cases h
    · rw [if_neg q] at h
      cases h
      have hsl : row = sl ts (i + 1) := by show row = sl ts i + _; rw [if_neg e, h6]; rfl
      have hg : rN ((if (ts i).toInt = 35 then flp 16 16 g col row else g) row) < 2 ^ (col + 1) ∧ ∀ y, y ≠ row → (if (ts i).toInt = 35 then flp 16 16 g col row else g) y = g y := by
        split
        · exact rd_g (by omega) (by omega) h11
        · exact ⟨Nat.lt_of_lt_of_le h11 (Nat.pow_le_pow_right (by decide) (by omega)), fun _ _ => rfl⟩
      refine ⟨⟨h1, h2, h3, ?_, h5, hsl, ?_⟩, fun hz => ?_, fun hz => ?_, ?_, ?_, hg.1⟩ <;> simp only
      · omega
      · omega
      · have := h7 hz
        refine ⟨this.1, this.2.1, by omega, fun z hzz => ?_⟩
        rcases Nat.lt_or_ge z i with k | k
        · exact this.2.2.2 z k
        · rw [show z = i from by omega]; exact e
      · have := h8 hz
        exact ⟨this.1, by omega, this.2.2.1, this.2.2.2⟩
      · intro y hy; rw [hg.2 y (by omega)]; exact h9 y hy
      · intro y
        by_cases hy : y = row
        · rw [hy]; exact Nat.lt_of_lt_of_le hg.1 (Nat.pow_le_pow_right (by decide) (by omega))
        · rw [hg.2 y hy]; exact h10 y
theorem rdV_all {ts : Nat → Int32} : ∀ {i : Nat} {s : RdT}, rdS ts i = some s → rdV ts i s
  | 0, s, h => by
    cases h
    refine ⟨⟨by decide, by decide, by decide, by decide, by decide, rfl, Nat.le_refl _⟩, fun _ => ⟨rfl, rfl, rfl, fun z hz => absurd hz (Nat.not_lt_zero _)⟩, fun z => absurd z (by decide), fun _ _ => rfl, fun _ => by show rN (0 : Int32) < _; rw [rN0]; exact Nat.two_pow_pos _, by show rN (0 : Int32) < _; rw [rN0]; decide⟩
  | i + 1, s, h => by
    obtain ⟨r, hr, h1⟩ := rdS_p h
    exact rdV_1 (rdV_all hr) h1
/-- filling a grid from a text -/
def fl1 (W H : Nat) (v : Int32) (s : Nat × Nat × (Nat → Int32)) : Nat × Nat × (Nat → Int32) := if v.toInt = 47 then (0, s.2.1 + 1, s.2.2) else (s.1 + 1, s.2.1, if v.toInt = 35 then flp W H s.2.2 s.1 s.2.1 else s.2.2)
def flS (W H : Nat) (ts f0 : Nat → Int32) : Nat → Nat × Nat × (Nat → Int32)
  | 0 => (0, 0, f0)
  | i + 1 => fl1 W H (ts i) (flS W H ts f0 i)
/-- a text without fault: its places lie in its own sides -/
theorem rd_in {ts : Nat → Int32} {tn : Nat} {u : RdT} (hu : rdS ts tn = some u) (hc : ¬ u.2.2.2.1 < u.1) {i : Nat} (hi : i ≤ tn) {s : RdT} (h : rdS ts i = some s) : s.2.2.2.1 ≤ u.2.2.2.1 ∧ s.2.2.1 ≤ u.2.2.1 := by
  have a := rdV_all hu
  have b := rdV_all h
  have m := sl_mono ts i (tn - i)
  rw [show i + (tn - i) = tn from by omega] at m
  obtain ⟨⟨a1, a2, a3, a4, a5, a6, a12⟩, a7, a8, _⟩ := a
  obtain ⟨⟨b1, b2, b3, b4, b5, b6, b12⟩, b7, b8, _⟩ := b
  refine ⟨?_, by omega⟩
  rcases Nat.eq_zero_or_pos u.2.2.1 with z | z
  · have := a7 z
    omega
  · have p := a8 z
    rcases Nat.eq_zero_or_pos s.2.2.1 with y | y
    · have q := b7 y
      rcases Nat.lt_or_ge u.1 i with k | k
      · exact absurd p.2.2.1 (q.2.2.2 _ k)
      · omega
    · have q := b8 y
      have e : s.1 = u.1 := by
        rcases Nat.lt_trichotomy s.1 u.1 with k | k | k
        · exact absurd q.2.2.1 (p.2.2.2 _ k)
        · exact k
        · exact absurd p.2.2.1 (q.2.2.2 _ k)
      omega
theorem rd_fill {ts : Nat → Int32} {tn : Nat} {u : RdT} (hu : rdS ts tn = some u) (hc : ¬ u.2.2.2.1 < u.1) : ∀ i, i ≤ tn → ∀ s, rdS ts i = some s → flS u.2.2.2.1 (u.2.2.1 + 1) ts (fun _ => 0) i = (s.2.2.2.1, s.2.2.1, s.2.2.2.2)
  | 0, _, s, h => by cases h; rfl
  | i + 1, hi, s, h => by
    obtain ⟨r, hr, h1⟩ := rdS_p h
    have ih := rd_fill hu hc i (by omega) r hr
    have n1 := rd_in hu hc hi h
    have v := (rdV_all hr).1
    have vu := (rdV_all hu).1
    show fl1 _ _ (ts i) (flS _ _ ts (fun _ => 0) i) = _
    rw [ih]
    unfold rd1 at h1
    unfold fl1
    by_cases e : (ts i).toInt = 47
    · rw [if_pos e] at h1 ⊢
      split at h1
      · cases h1
      · cases h1; rfl
    · rw [if_neg e] at h1 ⊢
      split at h1
      · cases h1
      · cases h1
        simp only at n1 ⊢
        congr 2
        split
        · unfold flp
          rw [if_pos (by omega), if_pos (by omega)]
        · rfl
theorem rd_frl {ts : Nat → Int32} {tn r : Nat} {u : RdT} (hu : rdS ts tn = some u) (hc : ¬ u.2.2.2.1 < u.1) (h0 : r ≤ tn) (h1 : ∀ z, z < r → (ts z).toInt ≠ 47) (h2 : r < tn → (ts r).toInt = 47) : r = u.2.2.2.1 := by
  obtain ⟨⟨a1, a2, a3, a4, a5, a6, a12⟩, a7, a8, _⟩ := rdV_all hu
  rcases Nat.eq_zero_or_pos u.2.2.1 with z | z
  · have p := a7 z
    rcases Nat.lt_or_ge r tn with k | k
    · exact absurd (h2 k) (p.2.2.2 _ k)
    · omega
  · have p := a8 z
    rcases Nat.lt_trichotomy r u.1 with k | k | k
    · exact absurd (h2 (by omega)) (p.2.2.2 _ k)
    · omega
    · exact absurd p.2.2.1 (h1 _ k)
