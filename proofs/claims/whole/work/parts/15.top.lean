/-! THE CLASS'S CALLS: their words -/
theorem rng_in {i : Nat} (h : i < 16) : rngB (nI i) 0 15 = true := by
  unfold rngB
  rw [nI_toInt (by omega)]
  exact decide_eq_true (by omega)
theorem updNf (p : Nat → Nat) (u j : Nat) : upd (fun ι => nI (p ι)) u (nI j) = (fun ι => nI (updN p u j ι)) := funext fun _ => updNI
def shfN (cap : Nat) (c : Nat → Nat) : Nat → Nat := fun j => if j + 1 < cap then c (j + 1) else c j
theorem shfNf (cap : Nat) (c : Nat → Nat) : shf cap (fun ι => nI (c ι)) = (fun ι => nI (shfN cap c ι)) := by
  funext j
  unfold shf shfN
  split <;> rfl
theorem upd0 (k : Nat) : upd (fun _ => (0 : Int32)) k (nI 0) = (fun _ => 0) := by
  funext j
  unfold upd
  split <;> rfl
def wsF (a b c d : Int32) (f : Nat → Int32) : Nat → Int32
  | 0 => 0
  | n + 1 => wsF a b c d f n + (if n % 2 = 0 then a * nI (pop (rN (f n &&& nI 21845))) + b * nI (pop (rN (f n &&& nI 43690))) else c * nI (pop (rN (f n &&& nI 21845))) + d * nI (pop (rN (f n &&& nI 43690))))
theorem rN_and (x y : Int32) : rN (x &&& y) = rN x &&& rN y := rfl
theorem rN_and_lt {x y : Int32} (h : rN x < 65536) : rN (x &&& y) < 65536 := by rw [rN_and]; exact Nat.lt_of_le_of_lt Nat.and_le_left h
def mvR (o : Option (Nat × Nat × Nat)) (k : Nat) : Int32 := match o with
  | none => -5
  | some z => if k = 0 then nI z.1 else if k = 1 then nI z.2.1 else nI z.2.2
/-- the grid as a text: its bytes, one behind the other -/
def spX (f : Nat → Int32) (y : Nat) : Nat → (Nat × (Nat → Int32)) → (Nat × (Nat → Int32))
  | 0, z => z
  | x + 1, z => ((spX f y x z).1 + 1, upd (spX f y x z).2 (spX f y x z).1 (if bt (f y) x then nI 35 else nI 46))
def spS (y : Nat) (z : Nat × (Nat → Int32)) : Nat × (Nat → Int32) := if y = 0 then z else (z.1 + 1, upd z.2 z.1 (nI 47))
def spY (W : Nat) (f : Nat → Int32) (s : Nat → Int32) : Nat → (Nat × (Nat → Int32))
  | 0 => (0, s)
  | y + 1 => spX f y W (spS y (spY W f s y))
def layF (f : Nat → Int32) (i : Nat) (it : Nat → Int64) : Nat → (Nat → Int64)
  | 0 => it
  | y + 1 => vp_updL (layF f i it y) (i + y) (f y).toInt64
def ldF (W : Nat) (it : Nat → Int64) (i : Nat) (f : Nat → Int32) : Nat → (Nat → Int32)
  | 0 => f
  | y + 1 => upd (ldF W it i f y) y ((it (i + y)).toInt32 &&& msk W)
theorem msk_eq : ∀ W, W ≤ 16 → msk W = nI (2 ^ W - 1) := by
  intro W hW
  have h : ∀ W, W < 17 → msk W = nI (2 ^ W - 1) := by decide +kernel
  exact h W (by omega)
theorem msk_lt {W : Nat} (hW : W ≤ 16) (x : Int32) : rN (x &&& msk W) < 2 ^ W := by
  rw [rN_and, msk_eq W hW, rN_nI (by have := Nat.pow_le_pow_right (show 0 < 2 from by decide) hW; omega), Nat.and_two_pow_sub_one_eq_mod]
  exact Nat.mod_lt _ (Nat.two_pow_pos W)
theorem ldF_lt {W : Nat} {it : Nat → Int64} {i : Nat} {f : Nat → Int32} (hW : W ≤ 16) (hf : ∀ y, rN (f y) < 2 ^ W) : ∀ n y, rN (ldF W it i f n y) < 2 ^ W
  | 0, y => hf y
  | n + 1, y => by
    unfold ldF upd
    split
    · exact msk_lt hW _
    · exact ldF_lt hW hf n y
theorem lt16 {W x : Nat} (hW : W ≤ 16) (h : x < 2 ^ W) : x < 65536 := by
  have := Nat.pow_le_pow_right (show 0 < 2 from by decide) hW
  omega
def jd1 (m : Int32) (i : Nat) (it : Nat → Int64) (f : Nat → Int32) (y : Nat) : Option Int32 :=
  if ((i + y : Nat) : Int) < m.toInt then (if it (i + y) = (f y).toInt64 then none else some (nI y)) else some (nI (100 + y))
def fst1 {α : Type} (P : Nat → Option α) : Nat → Nat → Option α
  | _, 0 => none
  | n, c + 1 => match P n with
    | some a => some a
    | none => fst1 P (n + 1) c
theorem fst1_s {α : Type} {P : Nat → Option α} {n c : Nat} {a : α} (hc : 0 < c) (h : P n = some a) : fst1 P n c = some a := by
  obtain ⟨d, rfl⟩ : ∃ d, c = d + 1 := ⟨c - 1, by omega⟩
  simp only [fst1, h]
theorem fst1_n {α : Type} {P : Nat → Option α} {n c : Nat} (hc : 0 < c) (h : P n = none) : fst1 P n c = fst1 P (n + 1) (c - 1) := by
  obtain ⟨d, rfl⟩ : ∃ d, c = d + 1 := ⟨c - 1, by omega⟩
  simp only [fst1, h]
  rfl
def jdR (H : Nat) (m : Int32) (i : Nat) (it : Nat → Int64) (f : Nat → Int32) : Int32 := (fst1 (jd1 m i it f) 0 H).getD (-5)
theorem jd1_n {m : Int32} {i : Nat} {it : Nat → Int64} {f : Nat → Int32} {y : Nat} (h : ¬ ((i + y : Nat) : Int) < m.toInt) : jd1 m i it f y = some (nI (100 + y)) := by unfold jd1; rw [if_neg h]
theorem jd1_o {m : Int32} {i : Nat} {it : Nat → Int64} {f : Nat → Int32} {y : Nat} (h : ((i + y : Nat) : Int) < m.toInt) (e : it (i + y) ≠ (f y).toInt64) : jd1 m i it f y = some (nI y) := by unfold jd1; rw [if_pos h, if_neg e]
theorem jd1_e {m : Int32} {i : Nat} {it : Nat → Int64} {f : Nat → Int32} {y : Nat} (h : ((i + y : Nat) : Int) < m.toInt) (e : it (i + y) = (f y).toInt64) : jd1 m i it f y = none := by unfold jd1; rw [if_pos h, if_pos e]
def cellB (cl : Int32) : Bool := decide (0 ≤ cl.toInt ∧ cl.toInt / 100 < 16 ∧ cl.toInt % 100 < 16)
def seeOK (n cl v : Int32) : Bool := rngB n (-12) 12 && (cellB cl && rngB v 0 1)
def ftF (P : Nat → Bool) : Nat → Int32
  | 0 => 0
  | w + 1 => if P w then ftF P w ||| (nI 1 <<< (nI w &&& 31)) else ftF P w
def canB (W H a0 : Nat) (n : Int32) : Bool := decide (0 ≤ n.toInt ∧ (a0 = 0 → n.toInt < 5) ∧ (a0 = 1 → n.toInt ≤ 20) ∧ (a0 = 2 → n.toInt / 100 < W ∧ n.toInt % 100 < H))
theorem div_nI {x : Int32} (h : 0 ≤ x.toInt) (d : Nat) (h0 : 0 < d) (hd : d < 2147483648) : x / nI d = nI (x.toInt / d).toNat ∧ x - x / nI d * nI d = nI (x.toInt % d).toNat := by
  obtain ⟨k, hk, rfl⟩ := nI_of (x := x) (by intro c; have := Int32.lt_iff_toInt_lt.mp c; have z : (0 : Int32).toInt = 0 := by decide
                                            omega)
  have e : (nI k).toInt = k := nI_toInt hk
  rw [pk_rem hk h0 (by omega), pk_div hk h0 (by omega), e]
  constructor
  · congr 1
  · congr 1
theorem neg_quot {x : Int32} (h : x.toInt < 0) : (x / nI 100).toInt < 0 ∨ (x - x / nI 100 * nI 100).toInt < 0 := by
  have hd : (nI 100).toInt = 100 := nI_toInt (by decide)
  have hb := fb_rng x
  have e : (x / nI 100).toInt = x.toInt.tdiv 100 := by
    rw [Int32.toInt_div, hd]
    apply fb_bmod
    · rw [show x.toInt = -((-x.toInt).toNat : Int) from by omega, Int.neg_tdiv]
      have : (((-x.toInt).toNat : Int).tdiv 100) = (((-x.toInt).toNat / 100 : Nat) : Int) := rfl
      omega
    · rw [show x.toInt = -((-x.toInt).toNat : Int) from by omega, Int.neg_tdiv]
      have : (((-x.toInt).toNat : Int).tdiv 100) = (((-x.toInt).toNat / 100 : Nat) : Int) := rfl
      omega
  have e2 : x.toInt.tdiv 100 = -(((-x.toInt).toNat / 100 : Nat) : Int) := by
    rw [show x.toInt = -((-x.toInt).toNat : Int) from by omega, Int.neg_tdiv]
    have : (((-x.toInt).toNat : Int).tdiv 100) = (((-x.toInt).toNat / 100 : Nat) : Int) := rfl
    omega
  rcases Nat.eq_zero_or_pos ((-x.toInt).toNat / 100) with q | q
  · right
    have e3 : x / nI 100 = 0 := by
      apply Int32.toInt_inj.mp
      rw [e, e2, q]
      rfl
    rw [e3, Int32.zero_mul, Int32.sub_zero]
    exact h
  · left
    rw [e, e2]
    omega
theorem inG_raw {W H : Nat} {n : Int32} : inG W H (n / nI 100) (n - n / nI 100 * nI 100) = decide (0 ≤ n.toInt ∧ n.toInt / 100 < W ∧ n.toInt % 100 < H) := by
  rcases Int.lt_or_le n.toInt 0 with h | h
  · unfold inG
    rw [decide_eq_false (by have := neg_quot h; omega), decide_eq_false (by omega)]
  · have e := div_nI h 100 (by decide) (by decide)
    have hb := fb_rng n
    rw [e.2, e.1]
    unfold inG
    rw [nI_toInt (by omega), nI_toInt (by omega)]
    exact decide_eq_decide.mpr (by omega)
def und (c2 : Nat → Int32) (t : Int32) : Nat → Nat
  | 0 => 0
  | k + 1 => if c2 k = t then und c2 t k + 1 else 0
theorem und_s {c2 : Nat → Int32} {t : Int32} {k : Nat} (hk : 0 < k) (h : c2 (k - 1) = t) : und c2 t k = und c2 t (k - 1) + 1 := by
  obtain ⟨d, rfl⟩ : ∃ d, k = d + 1 := ⟨k - 1, by omega⟩
  have h : c2 d = t := h
  show (if c2 d = t then _ else _) = _
  rw [if_pos h]
  rfl
theorem und_n {c2 : Nat → Int32} {t : Int32} {k : Nat} (hk : 0 < k) (h : c2 (k - 1) ≠ t) : und c2 t k = 0 := by
  obtain ⟨d, rfl⟩ : ∃ d, k = d + 1 := ⟨k - 1, by omega⟩
  have h : c2 d ≠ t := h
  show (if c2 d = t then _ else _) = _
  rw [if_neg h]
theorem und_le (c2 : Nat → Int32) (t : Int32) : ∀ k, und c2 t k ≤ k
  | 0 => Nat.le_refl _
  | k + 1 => by
    show (if c2 k = t then _ else _) ≤ _
    have := und_le c2 t k
    split <;> omega
theorem bne1 {b : Bool} (h : (if b = true then (1 : Int) else 0) ≠ ((1 : Nat) : Int)) : b = false := by
  cases b with
  | false => rfl
  | true => exact absurd rfl h
theorem beq1 {b : Bool} (h : (if b = true then (1 : Int) else 0) = ((1 : Nat) : Int)) : b = true := by
  cases b with
  | true => rfl
  | false => exact absurd h (by decide)
theorem lg_cmp0 {x y : Int64} (h : (lg_cmp x y).toInt = 0) : x = y := by
  unfold lg_cmp at h
  by_cases c : x > y
  · rw [if_pos c] at h; exact absurd h (by decide)
  · rw [if_neg c] at h
    by_cases e : x = y
    · exact e
    · rw [if_neg e] at h; exact absurd h (by decide)
theorem lg_cmpn {x y : Int64} (h : (lg_cmp x y).toInt ≠ 0) : x ≠ y := by
  intro e
  subst e
  apply h
  unfold lg_cmp
  rw [if_neg (show ¬ x > x from Int64.lt_irrefl), if_pos rfl]
  rfl
theorem nI_pred2 {r : Nat} (hr : 0 < r ∧ r < 1000) : (nI (r - 1) + (-1)).toInt = (r : Int) - 2 := by
  have e : (-1 : Int32).toInt = -1 := by decide
  have h : (nI (r - 1)).toInt = ((r - 1 : Nat) : Int) := nI_toInt (by omega)
  rw [fb_addI (by rw [e, h]; omega) (by rw [e, h]; omega), h, e]
  omega
