/-! rows of W bits -/
theorem bt_hi {r : Int32} {W i : Nat} (h : rN r < 2 ^ W) (hi : W ≤ i) : bt r i = false := by
  unfold bt
  exact Nat.testBit_lt_two_pow (Nat.lt_of_lt_of_le h (Nat.pow_le_pow_right (by decide) hi))
theorem rN_of_bt {r : Int32} {W : Nat} (h : ∀ i, W ≤ i → i < 32 → bt r i = false) : rN r < 2 ^ W := by
  apply Nat.lt_pow_two_of_testBit
  intro i hi
  rcases Nat.lt_or_ge i 32 with q | q
  · have := h i hi q
    unfold bt at this
    exact this
  · exact Nat.testBit_lt_two_pow (Nat.lt_of_lt_of_le r.toBitVec.isLt (Nat.pow_le_pow_right (by decide) q))
theorem msk_bt {W i : Nat} (hW : W ≤ 16) (hi : i < 32) : bt (msk W) i = decide (i < W) := by
  have h : ∀ W, W < 17 → ∀ i, i < 32 → bt (msk W) i = decide (i < W) := by decide +kernel
  exact h W (by omega) i hi
theorem rot_bt {W d i : Nat} {r : Int32} (hW : W ≤ 16) (hd : d < W) (hr : rN r < 2 ^ W) (hi : i < 32) : bt (rot W d r) i = (decide (i < W) && bt r (if d ≤ i then i - d else i + W - d)) := by
  unfold rot
  rw [b_and, b_or, msk_bt hW hi, b_shl d (by omega) _ hi, b_sshr (W - d) (by omega) _ hi]
  by_cases h : i < W
  · rw [decide_eq_true h, Bool.and_true, Bool.true_and, if_pos (by omega)]
    by_cases e : d ≤ i
    · rw [if_pos e, decide_eq_true e, Bool.true_and, bt_hi hr (i := W - d + i) (by omega), Bool.or_false]
    · rw [if_neg e, decide_eq_false e, Bool.false_and, Bool.false_or, show W - d + i = i + W - d from by omega]
  · rw [decide_eq_false h, Bool.and_false, Bool.false_and]
theorem rot_lt {W d : Nat} {r : Int32} (hW : W ≤ 16) : rN (rot W d r) < 2 ^ W := msk_lt hW _
/-- a row shifted, seen bit by bit -/
theorem rot_iff {W d : Nat} {a r : Int32} (hW : W ≤ 16) (hd : d < W) (ha : rN a < 2 ^ W) (hr : rN r < 2 ^ W) : a = rot W d r ↔ ∀ x, x < W → bt r x = bt a (wr (x + d) W) := by
  constructor
  · intro e x hx
    have hw : wr (x + d) W < W := wr_lt (by omega)
    rw [e, rot_bt hW hd hr (by omega), decide_eq_true hw, Bool.true_and]
    congr 1
    unfold wr
    split <;> split <;> omega
  · intro h
    apply b_ext
    intro i hi
    rw [rot_bt hW hd hr hi]
    by_cases q : i < W
    · rw [decide_eq_true q, Bool.true_and]
      have := h (if d ≤ i then i - d else i + W - d) (by split <;> omega)
      rw [this]
      congr 1
      unfold wr
      split <;> split <;> omega
    · rw [decide_eq_false q, Bool.false_and]
      exact bt_hi ha (by omega)
/-- the steps keep rows of W bits -/
theorem wpr_lt {W x y : Nat} {r s : Int32} (hW : W ≤ 16) (hx : x < W) (hy : y < W) (h : rN r < 2 ^ W) : rN (wpr r x y s) < 2 ^ W := by
  apply rN_of_bt
  intro i h1 h2
  rw [wpr_bt (by omega) (by omega) h2, bt_hi h h1, decide_eq_false (by omega : ¬ i = x), decide_eq_false (by omega : ¬ i = y)]
  rfl
theorem ptA_lt {W H x y : Nat} {f : Nat → Int32} {s : Int32} (hW : W ≤ 16) (hx : x < W) (h : ∀ z, rN (f z) < 2 ^ W) : ∀ z, rN (ptA W H f x y s z) < 2 ^ W := by
  intro z
  have a1 : wr (x + 1) W < W := wr_lt (by omega)
  have h1 : ∀ z, rN (upd f y (wpr (f y) x (wr (x + 1) W) s) z) < 2 ^ W := by
    intro z
    unfold upd
    split
    · exact wpr_lt hW hx a1 (h y)
    · exact h z
  unfold ptA
  show rN (upd (upd f y (wpr (f y) x (wr (x + 1) W) s)) (wr (y + 1) H) _ z) < 2 ^ W
  rw [upd]
  split
  · exact wpr_lt hW hx a1 (h1 _)
  · exact h1 z
theorem tL_lt {W H y p : Nat} {b : Nat → Nat} {f : Nat → Int32} (hW : W ≤ 16) (h : ∀ z, rN (f z) < 2 ^ W) : ∀ c, p + 2 * c ≤ W + 1 → ∀ z, rN (tL W H b y p c f z) < 2 ^ W
  | 0, _ => h
  | c + 1, hc => ptA_lt hW (by omega) (tL_lt hW h c (by omega))
theorem tG_lt {W H p : Nat} {b : Nat → Nat} {f : Nat → Int32} (hW : W ≤ 16) (hW2 : W % 2 = 0) (hp : p < 2) (h : ∀ z, rN (f z) < 2 ^ W) : ∀ c z, rN (tG W H b p c f z) < 2 ^ W
  | 0 => h
  | c + 1 => tL_lt hW (tG_lt hW hW2 hp h c) (W / 2) (by omega)
theorem turn_lt {W H : Nat} {b : Nat → Nat} {t : Int32} {f : Nat → Int32} (hW : W ≤ 16) (hW2 : W % 2 = 0) (h : ∀ z, rN (f z) < 2 ^ W) : ∀ z, rN (turn W H b (ph t) f z) < 2 ^ W := tG_lt hW hW2 (ph_lt t) h _
theorem gF_lt {W H : Nat} {b : Nat → Nat} {t : Int32} {f : Nat → Int32} (hW : W ≤ 16) (hW2 : W % 2 = 0) (h : ∀ z, rN (f z) < 2 ^ W) : ∀ n z, rN (gF W H b t n f z) < 2 ^ W
  | 0 => h
  | n + 1 => turn_lt hW hW2 (gF_lt hW hW2 h n)
theorem gB_lt {W H : Nat} {b : Nat → Nat} {t : Int32} {f : Nat → Int32} (hW : W ≤ 16) (hW2 : W % 2 = 0) (h : ∀ z, rN (f z) < 2 ^ W) : ∀ n z, rN (gB W H b t n f z) < 2 ^ W
  | 0 => h
  | n + 1 => turn_lt hW hW2 (gB_lt hW hW2 h n)
theorem goF_lt {W H : Nat} {p q : Nat → Nat} {t n : Int32} {f : Nat → Int32} (hW : W ≤ 16) (hW2 : W % 2 = 0) (h : ∀ z, rN (f z) < 2 ^ W) : ∀ z, rN (goF W H p q t n f z) < 2 ^ W := gB_lt hW hW2 (gF_lt hW hW2 h _) _
theorem bx_lt {W x : Nat} (hx : x < W) (hW : W ≤ 16) : rN (bx x) < 2 ^ W := by
  apply rN_of_bt
  intro i h1 h2
  rw [bt_bx (by omega) h2, decide_eq_false (by omega)]
theorem xor_lt {W : Nat} {r s : Int32} (hW : W ≤ 16) (h1 : rN r < 2 ^ W) (h2 : rN s < 2 ^ W) : rN (r ^^^ s) < 2 ^ W := by
  apply rN_of_bt
  intro i h3 h4
  rw [b_xor, bt_hi h1 h3, bt_hi h2 h3]
  rfl
theorem flp_lt {W H x y : Nat} {f : Nat → Int32} (hW : W ≤ 16) (h : ∀ z, rN (f z) < 2 ^ W) : ∀ z, rN (flp W H f x y z) < 2 ^ W := by
  intro z
  unfold flp
  split
  · rename_i e
    unfold upd
    split
    · exact xor_lt hW (h y) (bx_lt e.1 hW)
    · exact h z
  · exact h z
theorem evS_lt2 {W H : Nat} {e0 e1 : Nat → Nat} {z : EvT} (hW : W ≤ 16) (hW2 : W % 2 = 0) (h : ∀ y, rN (z.2.1 y) < 2 ^ W) : ∀ n y, rN ((evS W H e0 e1 z n).2.1 y) < 2 ^ W
  | 0 => h
  | n + 1 => by
    have ih := evS_lt2 hW hW2 h n (H := H) (e0 := e0) (e1 := e1)
    show ∀ y, rN ((ev1 W H (e0 n) (e1 n) (evS W H e0 e1 z n)).2.1 y) < 2 ^ W
    unfold ev1
    split
    · exact ih
    · split
      · exact goF_lt hW hW2 ih
      · exact flp_lt hW ih
/-! lists in one row -/
def itF (I : Nat → Nat → Int64) (k : Nat) : Int64 := I (k / 20) (k % 20)
def updA (I : Nat → Nat → Int64) (l : Nat) (g : Nat → Int64) : Nat → Nat → Int64 := fun j => if j = l then g else I j
theorem itF_at {I : Nat → Nat → Int64} {l i : Nat} (h : i < 20) : itF I (20 * l + i) = I l i := by
  unfold itF
  rw [show (20 * l + i) / 20 = l from by omega, show (20 * l + i) % 20 = i from by omega]
theorem itF_set {I : Nat → Nat → Int64} {l i : Nat} {v : Int64} (h : i < 20) (z : Nat) : vp_updL (itF I) (20 * l + i) v z = itF (updA I l (vp_updL (I l) i v)) z := by
  unfold vp_updL itF updA
  by_cases e : z = 20 * l + i
  · rw [if_pos e, if_pos (by omega)]
    show v = (if z % 20 = i then v else I l (z % 20))
    rw [if_pos (by omega)]
  · rw [if_neg e]
    split
    · rename_i q
      show _ = (if z % 20 = i then v else I l (z % 20))
      rw [if_neg (by omega), q]
    · rfl
theorem updA_at (I : Nat → Nat → Int64) (l : Nat) (g : Nat → Int64) : updA I l g l = g := if_pos rfl
theorem updA_2 (I : Nat → Nat → Int64) (l : Nat) (g h : Nat → Int64) : updA (updA I l g) l h = updA I l h := by
  funext j
  unfold updA
  split <;> rfl
theorem updA_id (I : Nat → Nat → Int64) (l : Nat) : updA I l (I l) = I := by
  funext j
  unfold updA
  split
  · rename_i e; rw [e]
  · rfl
theorem zero20 {I : Nat → Nat → Int64} {l : Nat} {its : Nat → Int64} (h1 : ∀ z, z < 20 → its (20 * l + z) = 0) (h2 : ∀ z, z / 20 ≠ l → its z = itF I z) (z : Nat) : its z = itF (updA I l (fun _ => 0)) z := by
  by_cases e : z / 20 = l
  · have := h1 (z % 20) (by omega)
    rw [show 20 * l + z % 20 = z from by omega] at this
    rw [this]
    unfold itF updA
    rw [if_pos e]
  · rw [h2 z e]
    unfold itF updA
    rw [if_neg e]
theorem ld_eq {W : Nat} (hW : W ≤ 16) (v : Int64) : (v &&& (((1 : Int64) <<< ((nI W).toInt64 &&& 63)) - 1)).toInt32 = v.toInt32 &&& msk W := by
  have h : ∀ W, W < 17 → (((1 : Int64) <<< ((nI W).toInt64 &&& 63)) - 1).toInt32 = msk W := by decide +kernel
  rw [← h W (by omega)]
  exact Int64.toInt32_and _ _
/-! the unlike ones, told from the front -/
def un0 (H : Nat) (G : Nat → Nat → Int32) : Nat → Nat × (Nat → Nat → Int32)
  | 0 => (0, fun _ _ => 0)
  | k + 1 => keep H (un0 H G k) (G k)
theorem un0_S (H : Nat) (G : Nat → Nat → Int32) : ∀ n, un0 H G (n + 1) = unS H G n
  | 0 => rfl
  | n + 1 => by
    show keep H (un0 H G (n + 1)) (G (n + 1)) = keep H (unS H G n) (G (n + 1))
    rw [un0_S H G n]
theorem un0_le (H : Nat) (G : Nat → Nat → Int32) : ∀ n, (un0 H G n).1 ≤ n
  | 0 => Nat.le_refl _
  | n + 1 => by
    have := keep_le H (un0 H G n) (G n)
    have := un0_le H G n
    show (keep H (un0 H G n) (G n)).1 ≤ n + 1
    omega
theorem bif_inj {a b : Bool} (h : (if a = true then (1 : Int) else 0) = (if b = true then (1 : Int) else 0)) : a = b := by
  cases a <;> cases b <;> first | rfl | exact absurd h (by decide)
theorem rng_n {x : Int32} {A B : Int} (h : ¬ (A ≤ x.toInt ∧ x.toInt ≤ B)) : rngB x A B = false := decide_eq_false h
theorem sz1 {s : Int32} (h : -1 ≤ s.toInt ∧ s.toInt ≤ 20) : ((s - nI 1).toInt64).toInt = s.toInt - 1 := by
  have e : (nI 1).toInt = 1 := nI_toInt (by decide)
  rw [toL, fb_subI (by rw [e]; omega) (by rw [e]; omega), e]
theorem inL_pl {v : Int64} {s : Int32} {x : Int} (hv : v.toInt = x) (hs : -1 ≤ s.toInt ∧ s.toInt ≤ 20) : inL v 0 ((s - nI 1).toInt64) = decide (0 ≤ x ∧ x < s.toInt) := by
  unfold inL
  rw [hv, sz1 hs]
  exact decide_eq_decide.mpr (by have : (0 : Int64).toInt = 0 := by decide
                                 omega)
theorem toL_add (a b : Int32) : (a.toInt64 + b.toInt64).toInt = a.toInt + b.toInt := by
  have ha := fb_rng a
  have hb := fb_rng b
  rw [fb_addL (by rw [toL, toL]; omega) (by rw [toL, toL]; omega), toL, toL]
