/-! rows of W bits -/
theorem bt_hi {r : Int32} {W i : Nat} (h : rN r < 2 ^ W) (hi : W ≤ i) : bt r i = false := by
  unfold bt
  exact Nat.testBit_lt_two_pow (Nat.lt_of_lt_of_le h (Nat.pow_le_pow_right (by decide) hi))
theorem rN_of_bt {r : Int32} {W : Nat} (h : ∀ i, W ≤ i → i < 32 → bt r i = false) : rN r < 2 ^ W := by
  apply Nat.lt_pow_two_of_testBit
  intro i hi
  rcases Nat.lt_or_ge i 32 with q | q
  · have := h i hi q
    unfold bt at this
    exact this
  · exact Nat.testBit_lt_two_pow (Nat.lt_of_lt_of_le r.toBitVec.isLt (Nat.pow_le_pow_right (by decide) q))
theorem msk_bt {W i : Nat} (hW : W ≤ 16) (hi : i < 32) : bt (msk W) i = decide (i < W) := by
  have h : ∀ W, W < 17 → ∀ i, i < 32 → bt (msk W) i = decide (i < W) := by decide +kernel
  exact h W (by omega) i hi
theorem rot_bt {W d i : Nat} {r : Int32} (hW : W ≤ 16) (hd : d < W) (hr : rN r < 2 ^ W) (hi : i < 32) : bt (rot W d r) i = (decide (i < W) && bt r (if d ≤ i then i - d else i + W - d)) := by
  unfold rot
  rw [b_and, b_or, msk_bt hW hi, b_shl d (by omega) _ hi, b_sshr (W - d) (by omega) _ hi]
  by_cases h : i < W
  · rw [decide_eq_true h, Bool.and_true, Bool.true_and, if_pos (by omega)]
    by_cases e : d ≤ i
    · rw [if_pos e, decide_eq_true e, Bool.true_and, bt_hi hr (i := W - d + i) (by omega), Bool.or_false]
    · rw [if_neg e, decide_eq_false e, Bool.false_and, Bool.false_or, show W - d + i = i + W - d from by omega]
  · rw [decide_eq_false h, Bool.and_false, Bool.false_and]
theorem rot_lt {W d : Nat} {r : Int32} (hW : W ≤ 16) : rN (rot W d r) < 2 ^ W := msk_lt hW _
/-- a row shifted, seen bit by bit -/
theorem rot_iff {W d : Nat} {a r : Int32} (hW : W ≤ 16) (hd : d < W) (ha : rN a < 2 ^ W) (hr : rN r < 2 ^ W) : a = rot W d r ↔ ∀ x, x < W → bt r x = bt a (wr (x + d) W) := by
  constructor
  · intro e x hx
    have hw : wr (x + d) W < W := wr_lt (by omega)
    rw [e, rot_bt hW hd hr (by omega), decide_eq_true hw, Bool.true_and]
    congr 1
    unfold wr
    split <;> split <;> omega
  · intro h
    apply b_ext
    intro i hi
    rw [rot_bt hW hd hr hi]
    by_cases q : i < W
    · rw [decide_eq_true q, Bool.true_and]
      have := h (if d ≤ i then i - d else i + W - d) (by split <;> omega)
      rw [this]
      congr 1
      unfold wr
      split <;> split <;> omega
    · rw [decide_eq_false q, Bool.false_and]
      exact bt_hi ha (by omega)
/-- the steps keep rows of W bits -/
theorem wpr_lt {W x y : Nat} {r s : Int32} (hW : W ≤ 16) (hx : x < W) (hy : y < W) (h : rN r < 2 ^ W) : rN (wpr r x y s) < 2 ^ W := by
  apply rN_of_bt
  intro i h1 h2
  rw [wpr_bt (by omega) (by omega) h2, bt_hi h h1, decide_eq_false (by omega : ¬ i = x), decide_eq_false (by omega : ¬ i = y)]
  rfl
theorem ptA_lt {W H x y : Nat} {f : Nat → Int32} {s : Int32} (hW : W ≤ 16) (hx : x < W) (h : ∀ z, rN (f z) < 2 ^ W) : ∀ z, rN (ptA W H f x y s z) < 2 ^ W := by
  intro z
  have a1 : wr (x + 1) W < W := wr_lt (by omega)
  have h1 : ∀ z, rN (upd f y (wpr (f y) x (wr (x + 1) W) s) z) < 2 ^ W := by
    intro z
    unfold upd
    split
    · exact wpr_lt hW hx a1 (h y)
    · exact h z
  unfold ptA
  show rN (upd (upd f y (wpr (f y) x (wr (x + 1) W) s)) (wr (y + 1) H) _ z) < 2 ^ W
  rw [upd]
  split
  · exact wpr_lt hW hx a1 (h1 _)
  · exact h1 z
theorem tL_lt {W H y p : Nat} {b : Nat → Nat} {f : Nat → Int32} (hW : W ≤ 16) (h : ∀ z, rN (f z) < 2 ^ W) : ∀ c, p + 2 * c ≤ W + 1 → ∀ z, rN (tL W H b y p c f z) < 2 ^ W
  | 0, _ => h
  | c + 1, hc => ptA_lt hW (by omega) (tL_lt hW h c (by omega))
theorem tG_lt {W H p : Nat} {b : Nat → Nat} {f : Nat → Int32} (hW : W ≤ 16) (hW2 : W % 2 = 0) (hp : p < 2) (h : ∀ z, rN (f z) < 2 ^ W) : ∀ c z, rN (tG W H b p c f z) < 2 ^ W
  | 0 => h
  | c + 1 => tL_lt hW (tG_lt hW hW2 hp h c) (W / 2) (by omega)
theorem turn_lt {W H : Nat} {b : Nat → Nat} {t : Int32} {f : Nat → Int32} (hW : W ≤ 16) (hW2 : W % 2 = 0) (h : ∀ z, rN (f z) < 2 ^ W) : ∀ z, rN (turn W H b (ph t) f z) < 2 ^ W := tG_lt hW hW2 (ph_lt t) h _
theorem gF_lt {W H : Nat} {b : Nat → Nat} {t : Int32} {f : Nat → Int32} (hW : W ≤ 16) (hW2 : W % 2 = 0) (h : ∀ z, rN (f z) < 2 ^ W) : ∀ n z, rN (gF W H b t n f z) < 2 ^ W
  | 0 => h
  | n + 1 => turn_lt hW hW2 (gF_lt hW hW2 h n)
theorem gB_lt {W H : Nat} {b : Nat → Nat} {t : Int32} {f : Nat → Int32} (hW : W ≤ 16) (hW2 : W % 2 = 0) (h : ∀ z, rN (f z) < 2 ^ W) : ∀ n z, rN (gB W H b t n f z) < 2 ^ W
  | 0 => h
  | n + 1 => turn_lt hW hW2 (gB_lt hW hW2 h n)
theorem goF_lt {W H : Nat} {p q : Nat → Nat} {t n : Int32} {f : Nat → Int32} (hW : W ≤ 16) (hW2 : W % 2 = 0) (h : ∀ z, rN (f z) < 2 ^ W) : ∀ z, rN (goF W H p q t n f z) < 2 ^ W := gB_lt hW hW2 (gF_lt hW hW2 h _) _
theorem bx_lt {W x : Nat} (hx : x < W) (hW : W ≤ 16) : rN (bx x) < 2 ^ W := by
  apply rN_of_bt
  intro i h1 h2
  rw [bt_bx (by omega) h2, decide_eq_false (by omega)]
theorem xor_lt {W : Nat} {r s : Int32} (hW : W ≤ 16) (h1 : rN r < 2 ^ W) (h2 : rN s < 2 ^ W) : rN (r ^^^ s) < 2 ^ W := by
  apply rN_of_bt
  intro i h3 h4
  rw [b_xor, bt_hi h1 h3, bt_hi h2 h3]
  rfl
theorem flp_lt {W H x y : Nat} {f : Nat → Int32} (hW : W ≤ 16) (h : ∀ z, rN (f z) < 2 ^ W) : ∀ z, rN (flp W H f x y z) < 2 ^ W := by
  intro z
  unfold flp
  split
  · rename_i e
    unfold upd
    split
    · exact xor_lt hW (h y) (bx_lt e.1 hW)
    · exact h z
  · exact h z
theorem evS_lt2 {W H : Nat} {e0 e1 : Nat → Nat} {z : EvT} (hW : W ≤ 16) (hW2 : W % 2 = 0) (h : ∀ y, rN (z.2.1 y) < 2 ^ W) : ∀ n y, rN ((evS W H e0 e1 z n).2.1 y) < 2 ^ W
  | 0 => h
  | n + 1 => by
    have ih := evS_lt2 hW hW2 h n (H := H) (e0 := e0) (e1 := e1)
    show ∀ y, rN ((ev1 W H (e0 n) (e1 n) (evS W H e0 e1 z n)).2.1 y) < 2 ^ W
    unfold ev1
    split
    · exact ih
    · split
      · exact goF_lt hW hW2 ih
      · exact flp_lt hW ih
/-! lists in one row -/
def itF (I : Nat → Nat → Int64) (k : Nat) : Int64 := I (k / 20) (k % 20)
def updA (I : Nat → Nat → Int64) (l : Nat) (g : Nat → Int64) : Nat → Nat → Int64 := fun j => if j = l then g else I j
theorem itF_at {I : Nat → Nat → Int64} {l i : Nat} (h : i < 20) : itF I (20 * l + i) = I l i := by
  unfold itF
  rw [show (20 * l + i) / 20 = l from by omega, show (20 * l + i) % 20 = i from by omega]
theorem itF_set {I : Nat → Nat → Int64} {l i : Nat} {v : Int64} (h : i < 20) (z : Nat) : vp_updL (itF I) (20 * l + i) v z = itF (updA I l (vp_updL (I l) i v)) z := by
  unfold vp_updL itF updA
  by_cases e : z = 20 * l + i
  · rw [if_pos e, if_pos (by omega)]
    show v = (if z % 20 = i then v else I l (z % 20))
    rw [if_pos (by omega)]
  · rw [if_neg e]
    split
    · rename_i q
      show _ = (if z % 20 = i then v else I l (z % 20))
      rw [if_neg (by omega), q]
    · rfl
theorem updA_at (I : Nat → Nat → Int64) (l : Nat) (g : Nat → Int64) : updA I l g l = g := if_pos rfl
theorem updA_2 (I : Nat → Nat → Int64) (l : Nat) (g h : Nat → Int64) : updA (updA I l g) l h = updA I l h := by
  funext j
  unfold updA
  split <;> rfl
theorem updA_id (I : Nat → Nat → Int64) (l : Nat) : updA I l (I l) = I := by
  funext j
  unfold updA
  split
  · rename_i e; rw [e]
  · rfl
theorem zero20 {I : Nat → Nat → Int64} {l : Nat} {its : Nat → Int64} (h1 : ∀ z, z < 20 → its (20 * l + z) = 0) (h2 : ∀ z, z / 20 ≠ l → its z = itF I z) (z : Nat) : its z = itF (updA I l (fun _ => 0)) z := by
  by_cases e : z / 20 = l
  · have := h1 (z % 20) (by omega)
    rw [show 20 * l + z % 20 = z from by omega] at this
    rw [this]
    unfold itF updA
    rw [if_pos e]
  · rw [h2 z e]
    unfold itF updA
    rw [if_neg e]
theorem ld_eq {W : Nat} (hW : W ≤ 16) (v : Int64) : (v &&& (((1 : Int64) <<< ((nI W).toInt64 &&& 63)) - 1)).toInt32 = v.toInt32 &&& msk W := by
  have h : ∀ W, W < 17 → (((1 : Int64) <<< ((nI W).toInt64 &&& 63)) - 1).toInt32 = msk W := by decide +kernel
  rw [← h W (by omega)]
  exact Int64.toInt32_and _ _
/-! the unlike ones, told from the front -/
def un0 (H : Nat) (G : Nat → Nat → Int32) : Nat → Nat × (Nat → Nat → Int32)
  | 0 => (0, fun _ _ => 0)
  | k + 1 => keep H (un0 H G k) (G k)
theorem un0_S (H : Nat) (G : Nat → Nat → Int32) : ∀ n, un0 H G (n + 1) = unS H G n
  | 0 => rfl
  | n + 1 => by
    show keep H (un0 H G (n + 1)) (G (n + 1)) = keep H (unS H G n) (G (n + 1))
    rw [un0_S H G n]
theorem un0_le (H : Nat) (G : Nat → Nat → Int32) : ∀ n, (un0 H G n).1 ≤ n
  | 0 => Nat.le_refl _
  | n + 1 => by
    have := keep_le H (un0 H G n) (G n)
    have := un0_le H G n
    show (keep H (un0 H G n) (G n)).1 ≤ n + 1
    omega
theorem bif_inj {a b : Bool} (h : (if a = true then (1 : Int) else 0) = (if b = true then (1 : Int) else 0)) : a = b := by
  cases a <;> cases b <;> first | rfl | exact absurd h (by decide)
theorem rng_n {x : Int32} {A B : Int} (h : ¬ (A ≤ x.toInt ∧ x.toInt ≤ B)) : rngB x A B = false := decide_eq_false h
theorem sz1 {s : Int32} (h : -1 ≤ s.toInt ∧ s.toInt ≤ 20) : ((s - nI 1).toInt64).toInt = s.toInt - 1 := by
  have e : (nI 1).toInt = 1 := nI_toInt (by decide)
  rw [toL, fb_subI (by rw [e]; omega) (by rw [e]; omega), e]
theorem inL_pl {v : Int64} {s : Int32} {x : Int} (hv : v.toInt = x) (hs : -1 ≤ s.toInt ∧ s.toInt ≤ 20) : inL v 0 ((s - nI 1).toInt64) = decide (0 ≤ x ∧ x < s.toInt) := by
  unfold inL
  rw [hv, sz1 hs]
  exact decide_eq_decide.mpr (by have : (0 : Int64).toInt = 0 := by decide
                                 omega)
theorem toL_add (a b : Int32) : (a.toInt64 + b.toInt64).toInt = a.toInt + b.toInt := by
  have ha := fb_rng a
  have hb := fb_rng b
  rw [fb_addL (by rw [toL, toL]; omega) (by rw [toL, toL]; omega), toL, toL]
/-- the sum's cells, one by one -/
def wsX (a b c d : Int32) (r : Int32) (y : Nat) : Nat → Int32
  | 0 => 0
  | x + 1 => wsX a b c d r y x + (if bt r x then (if y % 2 = 0 then (if x % 2 = 0 then a else b) else (if x % 2 = 0 then c else d)) else 0)
def wsY (W : Nat) (a b c d : Int32) (f : Nat → Int32) : Nat → Int32
  | 0 => 0
  | y + 1 => wsY W a b c d f y + wsX a b c d (f y) y W
def mul2 (n : Nat) (a : Int32) : Int32 := nI n * a
theorem popE_all : ∀ l, l < 256 → popR 8 (l &&& 85) = l % 2 + l / 4 % 2 + l / 16 % 2 + l / 64 % 2 ∧ popR 8 (l &&& 170) = l / 2 % 2 + l / 8 % 2 + l / 32 % 2 + l / 128 % 2 := by decide +kernel
theorem bt_nat (r : Int32) (i : Nat) : (bt r i).toNat = rN r / 2 ^ i % 2 := by
  unfold bt rN
  rw [BitVec.getLsbD, Nat.testBit_eq_decide_div_mod_eq]
  rcases Nat.mod_two_eq_zero_or_one (r.toBitVec.toNat / 2 ^ i) with h | h <;> simp [h]
theorem pop_even {k : Nat} (hk : k < 65536) : pop (k &&& 21845) = k % 2 + k / 4 % 2 + k / 16 % 2 + k / 64 % 2 + k / 256 % 2 + k / 1024 % 2 + k / 4096 % 2 + k / 16384 % 2 := by
  obtain ⟨h, l, hh, hl, rfl⟩ : ∃ h l, h < 256 ∧ l < 256 ∧ k = 256 * h + l := ⟨k / 256, k % 256, by omega, by omega, by omega⟩
  rw [show 21845 = 256 * 85 + 85 from rfl, land_split hl (by decide), pop_split (Nat.lt_of_le_of_lt Nat.and_le_left hl), (popE_all l hl).1, (popE_all h hh).1]
  omega
theorem pop_odd {k : Nat} (hk : k < 65536) : pop (k &&& 43690) = k / 2 % 2 + k / 8 % 2 + k / 32 % 2 + k / 128 % 2 + k / 512 % 2 + k / 2048 % 2 + k / 8192 % 2 + k / 32768 % 2 := by
  obtain ⟨h, l, hh, hl, rfl⟩ : ∃ h l, h < 256 ∧ l < 256 ∧ k = 256 * h + l := ⟨k / 256, k % 256, by omega, by omega, by omega⟩
  rw [show 43690 = 256 * 170 + 170 from rfl, land_split hl (by decide), pop_split (Nat.lt_of_le_of_lt Nat.and_le_left hl), (popE_all l hl).2, (popE_all h hh).2]
  omega
theorem ite_mul (b : Bool) (a : Int32) : (if b then a else 0) = a * nI b.toNat := by
  cases b
  · show (0 : Int32) = a * 0
    rw [Int32.mul_zero]
  · show a = a * 1
    rw [Int32.mul_one]
/-- two cells of a row, behind each other -/
theorem wsX_2 (a b c d : Int32) (r : Int32) (y j : Nat) : wsX a b c d r y (2 * j + 2) = wsX a b c d r y (2 * j) + (if y % 2 = 0 then a * nI (bt r (2 * j)).toNat + b * nI (bt r (2 * j + 1)).toNat else c * nI (bt r (2 * j)).toNat + d * nI (bt r (2 * j + 1)).toNat) := by
  show wsX a b c d r y (2 * j) + _ + _ = _
  rw [if_pos (show 2 * j % 2 = 0 by omega), if_pos (show 2 * j % 2 = 0 by omega), if_neg (show ¬ (2 * j + 1) % 2 = 0 by omega), if_neg (show ¬ (2 * j + 1) % 2 = 0 by omega)]
  by_cases h : y % 2 = 0
  · rw [if_pos h, if_pos h, if_pos h, ite_mul, ite_mul, Int32.add_assoc]
  · rw [if_neg h, if_neg h, if_neg h, ite_mul, ite_mul, Int32.add_assoc]
def evC (r : Int32) : Nat → Nat
  | 0 => 0
  | j + 1 => evC r j + (bt r (2 * j)).toNat
def odC (r : Int32) : Nat → Nat
  | 0 => 0
  | j + 1 => odC r j + (bt r (2 * j + 1)).toNat
theorem wsX_j (a b c d : Int32) (r : Int32) (y : Nat) : ∀ j, wsX a b c d r y (2 * j) = (if y % 2 = 0 then a * nI (evC r j) + b * nI (odC r j) else c * nI (evC r j) + d * nI (odC r j))
  | 0 => by
    show (0 : Int32) = _
    split <;> (show (0 : Int32) = _ * 0 + _ * 0; rw [Int32.mul_zero, Int32.mul_zero]; rfl)
  | j + 1 => by
    rw [show 2 * (j + 1) = 2 * j + 2 from rfl, wsX_2, wsX_j a b c d r y j]
    have key : ∀ a b : Int32, ∀ e o x y : Nat, a * nI e + b * nI o + (a * nI x + b * nI y) = a * nI (e + x) + b * nI (o + y) := by
      intro a b e o x y
      rw [← nI_add, ← nI_add, Int32.mul_add, Int32.mul_add, Int32.add_assoc, Int32.add_assoc]
      congr 1
      rw [← Int32.add_assoc, Int32.add_comm (b * nI o), Int32.add_assoc]
    split
    · exact key _ _ _ _ _ _
    · exact key _ _ _ _ _ _
theorem evC_hi {r : Int32} {W : Nat} (h : rN r < 2 ^ W) (hW2 : W % 2 = 0) : ∀ j, evC r (W / 2 + j) = evC r (W / 2) ∧ odC r (W / 2 + j) = odC r (W / 2)
  | 0 => ⟨rfl, rfl⟩
  | j + 1 => by
    have ih := evC_hi h hW2 j
    constructor
    · show evC r (W / 2 + j) + (bt r (2 * (W / 2 + j))).toNat = _
      rw [ih.1, bt_hi h (i := 2 * (W / 2 + j)) (by omega)]
      rfl
    · show odC r (W / 2 + j) + (bt r (2 * (W / 2 + j) + 1)).toNat = _
      rw [ih.2, bt_hi h (i := 2 * (W / 2 + j) + 1) (by omega)]
      rfl
theorem ev_pop {r : Int32} (h : rN r < 65536) : evC r 8 = pop (rN (r &&& nI 21845)) ∧ odC r 8 = pop (rN (r &&& nI 43690)) := by
  rw [rN_and, rN_and, rN_nI (by decide), rN_nI (by decide), pop_even h, pop_odd h]
  constructor
  · show 0 + _ + _ + _ + _ + _ + _ + _ + _ = _
    simp only [bt_nat]
    omega
  · show 0 + _ + _ + _ + _ + _ + _ + _ + _ = _
    simp only [bt_nat]
    omega
theorem wsX_row {a b c d r : Int32} {W y : Nat} (hW : W ≤ 16) (hW2 : W % 2 = 0) (h : rN r < 2 ^ W) : wsX a b c d r y W = (if y % 2 = 0 then a * nI (pop (rN (r &&& nI 21845))) + b * nI (pop (rN (r &&& nI 43690))) else c * nI (pop (rN (r &&& nI 21845))) + d * nI (pop (rN (r &&& nI 43690)))) := by
  have e := evC_hi h hW2 (8 - W / 2)
  rw [show W / 2 + (8 - W / 2) = 8 from by omega] at e
  have q := ev_pop (r := r) (lt16 hW h)
  have := wsX_j a b c d r y (W / 2)
  rw [show 2 * (W / 2) = W from by omega, ← e.1, ← e.2, q.1, q.2] at this
  exact this
theorem wsY_eq {a b c d : Int32} {f : Nat → Int32} {W : Nat} (hW : W ≤ 16) (hW2 : W % 2 = 0) (h : ∀ y, rN (f y) < 2 ^ W) : ∀ y, wsY W a b c d f y = wsF a b c d f y
  | 0 => rfl
  | y + 1 => by
    show wsY W a b c d f y + wsX a b c d (f y) y W = wsF a b c d f y + _
    rw [wsY_eq hW hW2 h y, wsX_row hW hW2 (h y)]
theorem mod_lf {x p n : Nat} (hx : x < n) (hp : p < 2) (hn : 2 ≤ n ∧ n % 2 = 0) : (if p ≤ x then (x - p) / 2 * 2 + p else (n - 1) / 2 * 2 + p) = lfA x p n := by
  unfold lfA crI
  split <;> split <;> (try split) <;> omega
theorem flp_in {W H x y : Nat} {f : Nat → Int32} (hx : x < W) (hy : y < H) : upd f y (f y ^^^ (nI 1 <<< (nI x &&& 31))) = flp W H f x y := by
  unfold flp
  rw [if_pos ⟨hx, hy⟩]
  rfl
/-- where the reference keeps the image -/
def kpF (W H : Nat) (t : Int32) (m k : Nat) (f : Nat → Int32) (p : Nat → Nat) (s0 : Nat → Int32) (s1 : Nat → Nat) (s2 : Nat → Int32) (e0 e1 : Nat → Nat) (z : Nat) : Int32 :=
  if z < 5 then (if z = 0 then nI W else if z = 1 then nI H else if z = 2 then t else if z = 3 then nI m else nI k)
  else if z < 21 then f (z - 5) else if z < 37 then nI (p (z - 21)) else if z < 42 then s0 (z - 37) else if z < 47 then nI (s1 (z - 42)) else if z < 52 then s2 (z - 47) else nI (10000 * e0 (z - 52) + e1 (z - 52))
